set_option maxHeartbeats 4000000 in
set_option maxRecDepth 100000 in
theorem c_X8_coded {l : Launch} {G : vG} {tC : Nat} {ad : Nat → Nat} {N : Nat} {E : Nat → va_E} {q co pm em : Nat} {th : Int32} {se : Int64} {v : Int32} (hN0 : q + 13 ≤ N) (hE0 : E q = .inr (5, [.int th, .ref (ad (q + 1)), .long se, .ref (ad (q + 2)), .ref (ad (q + 3)), .int (nI co), .ref (ad (q + 4)), .int (nI pm), .ref (ad (q + 5)), .ref (ad (q + 6)), .ref (ad (q + 7)), .ref (ad (q + 8)), .int (nI em), .ref (ad (q + 9)), .ref (ad (q + 10)), .ref (ad (q + 11)), .ref (ad (q + 12))])) : MI l yX8_coded wsX8_coded ({ frames := 2, cells := 0, slots := 0, locals := 48 } : Room) G tC ad N E [.ref (ad q), .int v] (fun r E2 => E2 q = .inr (5, [.int (nI 0), .ref (ad (q + 1)), .long se, .ref (ad (q + 2)), .ref (ad (q + 3)), .int (nI co), .ref (ad (q + 4)), .int (nI pm), .ref (ad (q + 5)), .ref (ad (q + 6)), .ref (ad (q + 7)), .ref (ad (q + 8)), .int (nI em), .ref (ad (q + 9)), .ref (ad (q + 10)), .ref (ad (q + 11)), .ref (ad (q + 12))]) ∧ (∀ j, j ≠ q → E2 j = E j) ∧ r = a_coded v) := by
  refine MI_of RX8 rfl (by decide) rfl (Nat.le_of_ble_eq_true rfl) ?_
  intro pp_ ee_ ss_ mm_ aa_ bb_ me_ cc_ A ls C hw hl
  have hx := C.1
  have hb := C.2.1
  have hown := C.2.2.2.2.1
  have hts := C.2.2.2.2.2.1
  have hl : lv_has ls 2 [(0, .ref (ad q)), (1, .int v)] := hl
  have hinX8 : ∀ w ∈ u_ws RX8 TX8 17, w ∈ wsX8_coded := by decide +kernel
  refine lv_aload_n hx hb dX8_coded_0 rfl (lv_at hl 0 rfl) ?_
  refine lv_iconst (v := nI 0) hx hb dX8_coded_1 rfl ?_
  refine r_put C hw RX8 TX8 17 5 hinX8 tyX8 tyX8_ok nmX8 (i := q) (by omega) hE0 rfl 0 (by decide) (by decide +kernel) rfl rfl (v := .int (nI 0)) rfl rfl (Nat.le_of_ble_eq_true rfl) dX8_coded_2 (fun zE1 zH1 zL1 zg1 zf1 zw1 => ?_)
  have zh1_0 : zE1 q = .inr (5, [.int (nI 0), .ref (ad (q + 1)), .long se, .ref (ad (q + 2)), .ref (ad (q + 3)), .int (nI co), .ref (ad (q + 4)), .int (nI pm), .ref (ad (q + 5)), .ref (ad (q + 6)), .ref (ad (q + 7)), .ref (ad (q + 8)), .int (nI em), .ref (ad (q + 9)), .ref (ad (q + 10)), .ref (ad (q + 11)), .ref (ad (q + 12))]) := zg1
  have zfr1 : ∀ j, j ≠ q → zE1 j = E j := fun j zm0 => zf1 j zm0
  refine lv_iload_n hx hb dX8_coded_5 rfl (lv_at hl 1 rfl) ?_
  refine lv_i2l (v := v.toInt64) hx hb dX8_coded_6 rfl ?_
  refine lv_lconst (v := (nI 0).toInt64) hx hb dX8_coded_7 (by decide) ?_
  refine lv_ldc2 (v := 15) hx hb hown (hts (.constantLong RX8 68 (15)) (by decide +kernel)) dX8_coded_8 ?_
  refine r_asL (nI 15).toInt64 (by decide) ?_
  refine r_sI C zw1 hl.1 [.long v.toInt64, .long ((nI 0).toInt64), .long ((nI 15).toInt64)] 3 rfl (c_X8_in (l := l) (G := G) (tC := tC) (ad := ad) (N := N) (E := zE1) (x := v) (a := (nI 0)) (b := (nI 15))   ) gX8_coded_X8_in rfl ⟨rfl, rfl⟩ (by decide +kernel) ⟨Nat.le_of_ble_eq_true rfl, Nat.le_of_ble_eq_true rfl⟩ (rest := []) rfl (Nat.le_of_ble_eq_true rfl) dX8_coded_11 ⟨Nat.zero_le _, Nat.zero_le _⟩ (fun zr2 zE2 zH2 zL2 zp2 zw2 => ?_)
  obtain ⟨ze2, zq2⟩ := zp2
  rw [ze2] at zw2
  clear ze2
  rw [zq2]
  refine b_if_eq (tgt := 24) hx hb dX8_coded_14 (by decide) (fun zc14 => ?_) (fun zc14 => ?_)
  · refine lv_ldc (v := -1000000002) hx hb hown (hts (.constant RX8 74 (-1000000002)) (by decide +kernel)) dX8_coded_24 ?_
    exact r_iret C zw2 dX8_coded_26 ⟨zh1_0, (fun j zm0 => zfr1 j zm0), (by rw [a_coded, if_neg zc14])⟩
  · obtain ⟨j9, zj9, rfl⟩ := in_of (by omega) zc14
    refine lv_iload_n hx hb dX8_coded_17 rfl (lv_at hl 1 rfl) ?_
    refine r_sI C zw2 hl.1 [.int (nI j9)] 1 rfl (c_X8_codeOf (l := l) (G := G) (tC := tC) (ad := ad) (N := N) (E := zE1) (v := j9)   (by first | assumption | omega)) gX8_coded_X8_codeOf rfl ⟨rfl, rfl⟩ (by decide +kernel) ⟨Nat.le_of_ble_eq_true rfl, Nat.le_of_ble_eq_true rfl⟩ (rest := []) rfl (Nat.le_of_ble_eq_true rfl) dX8_coded_18 ⟨Nat.zero_le _, Nat.zero_le _⟩ (fun zr3 zE3 zH3 zL3 zp3 zw3 => ?_)
    obtain ⟨ze3, zq3⟩ := zp3
    rw [ze3] at zw3
    clear ze3
    rw [zq3]
    refine lv_goto (tgt := 26) hx hb dX8_coded_21 (by decide) ?_
    exact r_iret C zw3 dX8_coded_26 ⟨zh1_0, (fun j zm0 => zfr1 j zm0), (by rw [a_coded, if_pos zc14, nI_clamp (by omega)])⟩

set_option maxHeartbeats 4000000 in
set_option maxRecDepth 100000 in
theorem c_X8_read {l : Launch} {G : vG} {tC : Nat} {ad : Nat → Nat} {N : Nat} {E : Nat → va_E} {q co pm em : Nat} {th : Int32} {se : Int64} {o : Int32} (hN0 : q + 13 ≤ N) (hE0 : E q = .inr (5, [.int th, .ref (ad (q + 1)), .long se, .ref (ad (q + 2)), .ref (ad (q + 3)), .int (nI co), .ref (ad (q + 4)), .int (nI pm), .ref (ad (q + 5)), .ref (ad (q + 6)), .ref (ad (q + 7)), .ref (ad (q + 8)), .int (nI em), .ref (ad (q + 9)), .ref (ad (q + 10)), .ref (ad (q + 11)), .ref (ad (q + 12))])) : MI l yX8_read wsX8_read ({ frames := 3, cells := 0, slots := 0, locals := 70 } : Room) G tC ad N E [.ref (ad q), .int o] (fun r E2 => E2 q = .inr (5, [.int (nI 0), .ref (ad (q + 1)), .long se, .ref (ad (q + 2)), .ref (ad (q + 3)), .int (nI co), .ref (ad (q + 4)), .int (nI pm), .ref (ad (q + 5)), .ref (ad (q + 6)), .ref (ad (q + 7)), .ref (ad (q + 8)), .int (nI em), .ref (ad (q + 9)), .ref (ad (q + 10)), .ref (ad (q + 11)), .ref (ad (q + 12))]) ∧ (∀ j, j ≠ q → E2 j = E j) ∧ r = a_read o) := by
  refine MI_of RX8 rfl (by decide) rfl (Nat.le_of_ble_eq_true rfl) ?_
  intro pp_ ee_ ss_ mm_ aa_ bb_ me_ cc_ A ls C hw hl
  have hx := C.1
  have hb := C.2.1
  have hown := C.2.2.2.2.1
  have hts := C.2.2.2.2.2.1
  have hl : lv_has ls 2 [(0, .ref (ad q)), (1, .int o)] := hl
  have hinX8 : ∀ w ∈ u_ws RX8 TX8 17, w ∈ wsX8_read := by decide +kernel
  refine lv_aload_n hx hb dX8_read_0 rfl (lv_at hl 0 rfl) ?_
  refine lv_iconst (v := nI 0) hx hb dX8_read_1 rfl ?_
  refine r_put C hw RX8 TX8 17 5 hinX8 tyX8 tyX8_ok nmX8 (i := q) (by omega) hE0 rfl 0 (by decide) (by decide +kernel) rfl rfl (v := .int (nI 0)) rfl rfl (Nat.le_of_ble_eq_true rfl) dX8_read_2 (fun zE1 zH1 zL1 zg1 zf1 zw1 => ?_)
  have zh1_0 : zE1 q = .inr (5, [.int (nI 0), .ref (ad (q + 1)), .long se, .ref (ad (q + 2)), .ref (ad (q + 3)), .int (nI co), .ref (ad (q + 4)), .int (nI pm), .ref (ad (q + 5)), .ref (ad (q + 6)), .ref (ad (q + 7)), .ref (ad (q + 8)), .int (nI em), .ref (ad (q + 9)), .ref (ad (q + 10)), .ref (ad (q + 11)), .ref (ad (q + 12))]) := zg1
  have zfr1 : ∀ j, j ≠ q → zE1 j = E j := fun j zm0 => zf1 j zm0
  refine lv_iload_n hx hb dX8_read_5 rfl (lv_at hl 1 rfl) ?_
  refine lv_i2l (v := o.toInt64) hx hb dX8_read_6 rfl ?_
  refine lv_lconst (v := (nI 0).toInt64) hx hb dX8_read_7 (by decide) ?_
  refine lv_ldc2 (v := 255) hx hb hown (hts (.constantLong RX8 75 (255)) (by decide +kernel)) dX8_read_8 ?_
  refine r_asL (nI 255).toInt64 (by decide) ?_
  refine r_sI C zw1 hl.1 [.long o.toInt64, .long ((nI 0).toInt64), .long ((nI 255).toInt64)] 3 rfl (c_X8_in (l := l) (G := G) (tC := tC) (ad := ad) (N := N) (E := zE1) (x := o) (a := (nI 0)) (b := (nI 255))   ) gX8_read_X8_in rfl ⟨rfl, rfl⟩ (by decide +kernel) ⟨Nat.le_of_ble_eq_true rfl, Nat.le_of_ble_eq_true rfl⟩ (rest := []) rfl (Nat.le_of_ble_eq_true rfl) dX8_read_11 ⟨Nat.zero_le _, Nat.zero_le _⟩ (fun zr2 zE2 zH2 zL2 zp2 zw2 => ?_)
  obtain ⟨ze2, zq2⟩ := zp2
  rw [ze2] at zw2
  clear ze2
  rw [zq2]
  refine b_if_eq (tgt := 24) hx hb dX8_read_14 (by decide) (fun zc14 => ?_) (fun zc14 => ?_)
  · refine lv_ldc (v := -1000000002) hx hb hown (hts (.constant RX8 74 (-1000000002)) (by decide +kernel)) dX8_read_24 ?_
    exact r_iret C zw2 dX8_read_26 ⟨zh1_0, (fun j zm0 => zfr1 j zm0), (by rw [a_read, if_neg zc14])⟩
  · obtain ⟨j9, zj9, rfl⟩ := in_of (by omega) zc14
    refine lv_iload_n hx hb dX8_read_17 rfl (lv_at hl 1 rfl) ?_
    refine r_sI C zw2 hl.1 [.int (nI j9)] 1 rfl (c_X8_numberOf (l := l) (G := G) (tC := tC) (ad := ad) (N := N) (E := zE1) (o := j9)   (by first | assumption | omega)) gX8_read_X8_numberOf rfl ⟨rfl, rfl⟩ (by decide +kernel) ⟨Nat.le_of_ble_eq_true rfl, Nat.le_of_ble_eq_true rfl⟩ (rest := []) rfl (Nat.le_of_ble_eq_true rfl) dX8_read_18 ⟨Nat.zero_le _, Nat.zero_le _⟩ (fun zr3 zE3 zH3 zL3 zp3 zw3 => ?_)
    obtain ⟨ze3, zq3⟩ := zp3
    rw [ze3] at zw3
    clear ze3
    rw [zq3]
    refine lv_goto (tgt := 26) hx hb dX8_read_21 (by decide) ?_
    exact r_iret C zw3 dX8_read_26 ⟨zh1_0, (fun j zm0 => zfr1 j zm0), (by rw [a_read, if_pos zc14, nI_clamp (by omega)])⟩

set_option maxHeartbeats 4000000 in
set_option maxRecDepth 100000 in
theorem c_X8_open {l : Launch} {G : vG} {tC : Nat} {ad : Nat → Nat} {N : Nat} {E : Nat → va_E} {q co pm em : Nat} {th : Int32} {se : Int64} {s : Nat → Int32} {b : Int32} (hN0 : q + 13 ≤ N) (hE0 : E q = .inr (5, [.int th, .ref (ad (q + 1)), .long se, .ref (ad (q + 2)), .ref (ad (q + 3)), .int (nI co), .ref (ad (q + 4)), .int (nI pm), .ref (ad (q + 5)), .ref (ad (q + 6)), .ref (ad (q + 7)), .ref (ad (q + 8)), .int (nI em), .ref (ad (q + 9)), .ref (ad (q + 10)), .ref (ad (q + 11)), .ref (ad (q + 12))])) (hE1 : E (q + 1) = eI G 508 s) : MI l yX8_open wsX8_open ({ frames := 1, cells := 0, slots := 0, locals := 25 } : Room) G tC ad N E [.ref (ad q), .int b] (fun r E2 => E2 q = .inr (5, [.int (nI 0), .ref (ad (q + 1)), .long se, .ref (ad (q + 2)), .ref (ad (q + 3)), .int (nI co), .ref (ad (q + 4)), .int (nI pm), .ref (ad (q + 5)), .ref (ad (q + 6)), .ref (ad (q + 7)), .ref (ad (q + 8)), .int (nI em), .ref (ad (q + 9)), .ref (ad (q + 10)), .ref (ad (q + 11)), .ref (ad (q + 12))]) ∧ (∀ j, j ≠ q → E2 j = E j) ∧ r = a_open s b) := by
  refine MI_of RX8 rfl (by decide) rfl (Nat.le_of_ble_eq_true rfl) ?_
  intro pp_ ee_ ss_ mm_ aa_ bb_ me_ cc_ A ls C hw hl
  have hx := C.1
  have hb := C.2.1
  have hown := C.2.2.2.2.1
  have hts := C.2.2.2.2.2.1
  have hl : lv_has ls 2 [(0, .ref (ad q)), (1, .int b)] := hl
  have hinX8 : ∀ w ∈ u_ws RX8 TX8 17, w ∈ wsX8_open := by decide +kernel
  refine lv_aload_n hx hb dX8_open_0 rfl (lv_at hl 0 rfl) ?_
  refine lv_iconst (v := nI 0) hx hb dX8_open_1 rfl ?_
  refine r_put C hw RX8 TX8 17 5 hinX8 tyX8 tyX8_ok nmX8 (i := q) (by omega) hE0 rfl 0 (by decide) (by decide +kernel) rfl rfl (v := .int (nI 0)) rfl rfl (Nat.le_of_ble_eq_true rfl) dX8_open_2 (fun zE1 zH1 zL1 zg1 zf1 zw1 => ?_)
  have zh1_0 : zE1 q = .inr (5, [.int (nI 0), .ref (ad (q + 1)), .long se, .ref (ad (q + 2)), .ref (ad (q + 3)), .int (nI co), .ref (ad (q + 4)), .int (nI pm), .ref (ad (q + 5)), .ref (ad (q + 6)), .ref (ad (q + 7)), .ref (ad (q + 8)), .int (nI em), .ref (ad (q + 9)), .ref (ad (q + 10)), .ref (ad (q + 11)), .ref (ad (q + 12))]) := zg1
  have zk1_0 : zE1 (q + 1) = eI G 508 s := (zf1 _ (by omega)).trans hE1
  have zfr1 : ∀ j, j ≠ q → zE1 j = E j := fun j zm0 => zf1 j zm0
  refine lv_iload_n hx hb dX8_open_5 rfl (lv_at hl 1 rfl) ?_
  refine lv_i2l (v := b.toInt64) hx hb dX8_open_6 rfl ?_
  refine lv_lconst (v := (nI 0).toInt64) hx hb dX8_open_7 (by decide) ?_
  refine lv_ldc2 (v := 3) hx hb hown (hts (.constantLong RX8 115 (3)) (by decide +kernel)) dX8_open_8 ?_
  refine r_asL (nI 3).toInt64 (by decide) ?_
  refine r_sI C zw1 hl.1 [.long b.toInt64, .long ((nI 0).toInt64), .long ((nI 3).toInt64)] 3 rfl (c_X8_in (l := l) (G := G) (tC := tC) (ad := ad) (N := N) (E := zE1) (x := b) (a := (nI 0)) (b := (nI 3))   ) gX8_open_X8_in rfl ⟨rfl, rfl⟩ (by decide +kernel) ⟨Nat.le_of_ble_eq_true rfl, Nat.le_of_ble_eq_true rfl⟩ (rest := []) rfl (Nat.le_of_ble_eq_true rfl) dX8_open_11 ⟨Nat.zero_le _, Nat.zero_le _⟩ (fun zr2 zE2 zH2 zL2 zp2 zw2 => ?_)
  obtain ⟨ze2, zq2⟩ := zp2
  rw [ze2] at zw2
  clear ze2
  rw [zq2]
  refine b_if_eq (tgt := 28) hx hb dX8_open_14 (by decide) (fun zc14 => ?_) (fun zc14 => ?_)
  · refine lv_ldc (v := -1000000001) hx hb hown (hts (.constant RX8 156 (-1000000001)) (by decide +kernel)) dX8_open_28 ?_
    exact r_iret C zw2 dX8_open_30 ⟨zh1_0, (fun j zm0 => zfr1 j zm0), (by rw [a_open, if_neg zc14])⟩
  · obtain ⟨j9, zj9, rfl⟩ := in_of (by omega) zc14
    refine lv_aload_n hx hb dX8_open_17 rfl (lv_at hl 0 rfl) ?_
    refine r_get C zw2 RX8 TX8 17 5 hinX8 (i := q) (by omega) zh1_0 rfl 1 (by decide) (by decide +kernel) rfl (v := .ref (ad (q + 1))) rfl dX8_open_18 ?_
    refine lv_iconst (v := nI 4) hx hb dX8_open_21 rfl ?_
    refine lv_iload_n hx hb dX8_open_22 rfl (lv_at hl 1 rfl) ?_
    refine lv_iadd hx hb dX8_open_23 ?_
    refine r_nat (4 + j9) (nI_add _ _) ?_
    refine r_iaN C zw2 (i := (q + 1)) (by omega) zk1_0 (j := 4 + j9) (by omega) (by omega) dX8_open_24 ?_
    refine lv_goto (tgt := 30) hx hb dX8_open_25 (by decide) ?_
    exact r_iret C zw2 dX8_open_30 ⟨zh1_0, (fun j zm0 => zfr1 j zm0), (by rw [a_open, if_pos zc14, nI_clamp (by omega)])⟩

set_option maxHeartbeats 4000000 in
set_option maxRecDepth 100000 in
theorem c_X8_wrong {l : Launch} {G : vG} {tC : Nat} {ad : Nat → Nat} {N : Nat} {E : Nat → va_E} {q co pm em : Nat} {th : Int32} {se : Int64} {pg : Nat} {s : Nat → Int32} {ek er ei el : Nat → Nat} {en : Nat → Int32} (hN0 : q + 13 ≤ N) (hE0 : E q = .inr (5, [.int th, .ref (ad (q + 1)), .long se, .ref (ad (q + 2)), .ref (ad (q + 3)), .int (nI co), .ref (ad (q + 4)), .int (nI pm), .ref (ad (q + 5)), .ref (ad (q + 6)), .ref (ad (q + 7)), .ref (ad (q + 8)), .int (nI em), .ref (ad (q + 9)), .ref (ad (q + 10)), .ref (ad (q + 11)), .ref (ad (q + 12))])) (hE1 : E (q + 1) = eI G 508 s) (hE2 : E (q + 8) = eI G 80 en) (hs0 : s 0 = nI pg) (hpg : pg ≤ 10) (hen : enOk en em ek er ei el) (hem : em ≤ 20) : MI l yX8_wrong wsX8_wrong ({ frames := 2, cells := 0, slots := 0, locals := 46 } : Room) G tC ad N E [.ref (ad q)] (fun r E2 => E2 = E ∧ r = wrgI s pg em ek er ei el) := by
  refine MI_of RX8 rfl (by decide) rfl (Nat.le_of_ble_eq_true rfl) ?_
  intro pp_ ee_ ss_ mm_ aa_ bb_ me_ cc_ A ls C hw hl
  have hx := C.1
  have hb := C.2.1
  have hown := C.2.2.2.2.1
  have hts := C.2.2.2.2.2.1
  have hl : lv_has ls 4 [(0, .ref (ad q))] := hl
  have hinX8 : ∀ w ∈ u_ws RX8 TX8 17, w ∈ wsX8_wrong := by decide +kernel
  refine lv_iconst (v := nI 0) hx hb dX8_wrong_0 rfl ?_
  refine lv_istore_n (lv' := [(1, .int (nI 0)), (0, .ref (ad q))]) hx hb dX8_wrong_1 rfl hl (by decide) rfl (fun ls hl => ?_)
  have zlp2 : ∀ (zn : Nat) (e : Nat), em - e < zn → (e ≤ em) → (fstB (badB s pg ek er ei el) (em - e) e = fstB (badB s pg ek er ei el) em 0) → ∀ (H9 : Heap) (L9 : List Loc), Wd G A ss_.heap H9 L9 ad E N → ∀ (ls : Array Slot), lv_has ls 4 [(0, .ref (ad q)), (1, .int (nI e))] → W pp_ l ee_ ({ frames := 2, cells := 0, slots := 0, locals := 46 } : Room) ss_ mm_ aa_ bb_ me_ cc_ H9 L9 0 0 (QI bb_ aa_ ss_ G ad N A (fun r E2 => E2 = E ∧ r = wrgI s pg em ek er ei el)) (F0 mm_ 2 ls []) := by
    intro zn
    induction zn with
    | zero => intro e zhm; exact absurd zhm (Nat.not_lt_zero _)
    | succ zn zih2 =>
      intro e zhm2 he hf zH_2 zL_2 zlw2 ls hl
      refine lv_iload_n hx hb dX8_wrong_2 rfl (lv_at hl 1 rfl) ?_
      refine lv_aload_n hx hb dX8_wrong_3 rfl (lv_at hl 0 rfl) ?_
      refine r_get C zlw2 RX8 TX8 17 5 hinX8 (i := q) (by omega) hE0 rfl 12 (by decide) (by decide +kernel) rfl (v := .int (nI em)) rfl dX8_wrong_4 ?_
      refine n_icmp_ge (tgt := 94) hx hb dX8_wrong_7 (by decide) (by omega) (by omega) (fun zc7 => ?_) (fun zc7 => ?_)
      · refine lv_iconst (v := -1) hx hb dX8_wrong_94 (by decide) ?_
        exact r_iret C zlw2 dX8_wrong_95 ⟨rfl, (by rw [wrgI, ← hf, show em - e = 0 by omega, fstB, fdI, if_neg (by omega)])⟩
      · obtain ⟨⟨z1, z2⟩, ⟨z3, z4⟩, ⟨z5, z6⟩, z7⟩ := hen e zc7
        refine lv_aload_n hx hb dX8_wrong_10 rfl (lv_at hl 0 rfl) ?_
        refine r_get C zlw2 RX8 TX8 17 5 hinX8 (i := q) (by omega) hE0 rfl 11 (by decide) (by decide +kernel) rfl (v := .ref (ad (q + 8))) rfl dX8_wrong_11 ?_
        refine lv_iconst (v := nI 4) hx hb dX8_wrong_14 rfl ?_
        refine lv_iload_n hx hb dX8_wrong_15 rfl (lv_at hl 1 rfl) ?_
        refine lv_imul hx hb dX8_wrong_16 ?_
        refine r_nat (4 * e) (pk_mul _ _) ?_
        refine r_iaN C zlw2 (i := (q + 8)) (by omega) hE2 (j := 4 * e) (by omega) (by omega) dX8_wrong_17 ?_
        refine r_nat (ek e) z1 ?_
        refine lv_istore_n (lv' := [(2, .int (nI (ek e))), (0, .ref (ad q)), (1, .int (nI e))]) hx hb dX8_wrong_18 rfl hl (by decide) rfl (fun ls hl => ?_)
        refine lv_aload_n hx hb dX8_wrong_19 rfl (lv_at hl 1 rfl) ?_
        refine lv_iload_n hx hb dX8_wrong_20 rfl (lv_at hl 0 rfl) ?_
        refine r_vI C zlw2 hl.1 (i := q) (by omega) hE0 (T := TX8) (n := 17) rfl [.int (nI (ek e))] 1 rfl (c_X8_isPage (l := l) (G := G) (tC := tC) (ad := ad) (N := N) (E := E) (q := q) (co := co) (pm := pm) (em := em) (th := th) (se := se) (pg := pg) (s := s) (k := nI (ek e)) (by omega) hE0 hE1 (by first | assumption | omega) (by first | assumption | omega)) gX8_wrong_X8_isPage rfl ⟨rfl, rfl⟩ (by decide +kernel) ⟨Nat.le_of_ble_eq_true rfl, Nat.le_of_ble_eq_true rfl⟩ (rest := []) rfl (Nat.le_of_ble_eq_true rfl) dX8_wrong_21 ⟨Nat.zero_le _, Nat.zero_le _⟩ (fun zr1 zE1 zH1 zL1 zp1 zw1 => ?_)
        obtain ⟨ze1, zq1⟩ := zp1
        rw [ze1] at zw1
        clear ze1
        rw [zq1]
        refine b_if_eq (tgt := 62) hx hb dX8_wrong_24 (by decide) (fun zc24 => ?_) (fun zc24 => ?_)
        · have ze8 : ¬ ek e < pg := fun zq => zc24 (has_nI zq (by omega))
          refine lv_iconst (v := -1) hx hb dX8_wrong_62 (by decide) ?_
          refine lv_istore_n (lv' := [(3, .int (-1)), (2, .int (nI (ek e))), (0, .ref (ad q)), (1, .int (nI e))]) hx hb dX8_wrong_63 rfl hl (by decide) rfl (fun ls hl => ?_)
          refine lv_iload_n hx hb dX8_wrong_64 rfl (lv_at hl 0 rfl) ?_
          refine lv_iconst (v := -1) hx hb dX8_wrong_65 (by decide) ?_
          refine lv_icmp_eq (tgt := 86) hx hb dX8_wrong_66 (by decide) (fun zc66 => ?_) (fun zc66 => ?_)
          · refine lv_iload_n hx hb dX8_wrong_86 rfl (lv_at hl 3 rfl) ?_
            exact r_iret C zw1 dX8_wrong_87 ⟨rfl, (by rw [wrgI, ← hf, fstB_y (n := em) (e := e) zc7, fdI, if_pos zc7]; rw [badB, decide_eq_true_eq]; first | exact Or.inl (if_neg ze8) | (rw [bkL, if_pos ze9]; first | exact Or.inl zc66 | exact Or.inr zc83))⟩
          · exact absurd rfl zc66
        · have ze9 : ek e < pg := by have zh := zc24; unfold hasP at zh; rw [nI_toInt (by omega)] at zh; omega
          refine lv_aload_n hx hb dX8_wrong_27 rfl (lv_at hl 1 rfl) ?_
          refine lv_iload_n hx hb dX8_wrong_28 rfl (lv_at hl 0 rfl) ?_
          refine lv_bipush (v := nI 10) hx hb dX8_wrong_29 rfl ?_
          refine lv_bipush (v := nI 8) hx hb dX8_wrong_31 rfl ?_
          refine lv_aload_n hx hb dX8_wrong_33 rfl (lv_at hl 1 rfl) ?_
          refine r_get C zw1 RX8 TX8 17 5 hinX8 (i := q) (by omega) hE0 rfl 11 (by decide) (by decide +kernel) rfl (v := .ref (ad (q + 8))) rfl dX8_wrong_34 ?_
          refine lv_iconst (v := nI 4) hx hb dX8_wrong_37 rfl ?_
          refine lv_iload_n hx hb dX8_wrong_38 rfl (lv_at hl 2 rfl) ?_
          refine lv_imul hx hb dX8_wrong_39 ?_
          refine r_nat (4 * e) (pk_mul _ _) ?_
          refine lv_iconst (v := nI 1) hx hb dX8_wrong_40 rfl ?_
          refine lv_iadd hx hb dX8_wrong_41 ?_
          refine r_nat (4 * e + 1) (nI_add _ _) ?_
          refine r_iaN C zw1 (i := (q + 8)) (by omega) hE2 (j := 4 * e + 1) (by omega) (by omega) dX8_wrong_42 ?_
          refine r_nat (er e) z3 ?_
          refine lv_imul hx hb dX8_wrong_43 ?_
          refine r_nat (8 * (er e)) (pk_mul _ _) ?_
          refine lv_iadd hx hb dX8_wrong_44 ?_
          refine r_nat (10 + 8 * (er e)) (nI_add _ _) ?_
          refine lv_aload_n hx hb dX8_wrong_45 rfl (lv_at hl 1 rfl) ?_
          refine r_get C zw1 RX8 TX8 17 5 hinX8 (i := q) (by omega) hE0 rfl 11 (by decide) (by decide +kernel) rfl (v := .ref (ad (q + 8))) rfl dX8_wrong_46 ?_
          refine lv_iconst (v := nI 4) hx hb dX8_wrong_49 rfl ?_
          refine lv_iload_n hx hb dX8_wrong_50 rfl (lv_at hl 2 rfl) ?_
          refine lv_imul hx hb dX8_wrong_51 ?_
          refine r_nat (4 * e) (pk_mul _ _) ?_
          refine lv_iconst (v := nI 2) hx hb dX8_wrong_52 rfl ?_
          refine lv_iadd hx hb dX8_wrong_53 ?_
          refine r_nat (4 * e + 2) (nI_add _ _) ?_
          refine r_iaN C zw1 (i := (q + 8)) (by omega) hE2 (j := 4 * e + 2) (by omega) (by omega) dX8_wrong_54 ?_
          refine r_nat (ei e) z5 ?_
          refine lv_iadd hx hb dX8_wrong_55 ?_
          refine r_nat (10 + 8 * (er e) + ei e) (nI_add _ _) ?_
          refine r_vI C zw1 hl.1 (i := q) (by omega) hE0 (T := TX8) (n := 17) rfl [.int (nI (ek e)), .int (nI (10 + 8 * (er e) + ei e))] 2 rfl (c_X8_of (l := l) (G := G) (tC := tC) (ad := ad) (N := N) (E := E) (q := q) (co := co) (pm := pm) (em := em) (th := th) (se := se) (s := s) (k := ek e) (w := 10 + 8 * (er e) + ei e) (by omega) hE0 hE1 (by first | assumption | omega)) gX8_wrong_X8_of rfl ⟨rfl, rfl⟩ (by decide +kernel) ⟨Nat.le_of_ble_eq_true rfl, Nat.le_of_ble_eq_true rfl⟩ (rest := []) rfl (Nat.le_of_ble_eq_true rfl) dX8_wrong_56 ⟨Nat.zero_le _, Nat.zero_le _⟩ (fun zr2 zE2 zH2 zL2 zp2 zw2 => ?_)
          obtain ⟨ze2, zq2⟩ := zp2
          rw [ze2] at zw2
          clear ze2
          rw [zq2]
          refine lv_goto (tgt := 63) hx hb dX8_wrong_59 (by decide) ?_
          refine lv_istore_n (lv' := [(3, .int (s (8 + 50 * (ek e) + (10 + 8 * (er e) + ei e)))), (2, .int (nI (ek e))), (0, .ref (ad q)), (1, .int (nI e))]) hx hb dX8_wrong_63 rfl hl (by decide) rfl (fun ls hl => ?_)
          refine lv_iload_n hx hb dX8_wrong_64 rfl (lv_at hl 0 rfl) ?_
          refine lv_iconst (v := -1) hx hb dX8_wrong_65 (by decide) ?_
          refine lv_icmp_eq (tgt := 86) hx hb dX8_wrong_66 (by decide) (fun zc66 => ?_) (fun zc66 => ?_)
          · refine lv_iload_n hx hb dX8_wrong_86 rfl (lv_at hl 3 rfl) ?_
            exact r_iret C zw2 dX8_wrong_87 ⟨rfl, (by rw [wrgI, ← hf, fstB_y (n := em) (e := e) zc7, fdI, if_pos zc7]; rw [badB, decide_eq_true_eq]; first | exact Or.inl (if_neg ze8) | (rw [bkL, if_pos ze9]; first | exact Or.inl zc66 | exact Or.inr zc83))⟩
          · refine lv_iload_n hx hb dX8_wrong_69 rfl (lv_at hl 0 rfl) ?_
            refine lv_bipush (v := nI 127) hx hb dX8_wrong_70 rfl ?_
            refine lv_iand hx hb dX8_wrong_72 ?_
            refine lv_aload_n hx hb dX8_wrong_73 rfl (lv_at hl 2 rfl) ?_
            refine r_get C zw2 RX8 TX8 17 5 hinX8 (i := q) (by omega) hE0 rfl 11 (by decide) (by decide +kernel) rfl (v := .ref (ad (q + 8))) rfl dX8_wrong_74 ?_
            refine lv_iconst (v := nI 4) hx hb dX8_wrong_77 rfl ?_
            refine lv_iload_n hx hb dX8_wrong_78 rfl (lv_at hl 3 rfl) ?_
            refine lv_imul hx hb dX8_wrong_79 ?_
            refine r_nat (4 * e) (pk_mul _ _) ?_
            refine lv_iconst (v := nI 3) hx hb dX8_wrong_80 rfl ?_
            refine lv_iadd hx hb dX8_wrong_81 ?_
            refine r_nat (4 * e + 3) (nI_add _ _) ?_
            refine r_iaN C zw2 (i := (q + 8)) (by omega) hE2 (j := 4 * e + 3) (by omega) (by omega) dX8_wrong_82 ?_
            refine r_as (nI (el e)) z7 ?_
            refine lv_icmp_eq (tgt := 88) hx hb dX8_wrong_83 (by decide) (fun zc83 => ?_) (fun zc83 => ?_)
            · refine lv_iinc (v := nI (e + 1)) (lv' := [(1, .int (nI (e + 1))), (3, .int (s (8 + 50 * (ek e) + (10 + 8 * (er e) + ei e)))), (2, .int (nI (ek e))), (0, .ref (ad q))]) hx hb dX8_wrong_88 hl (k := 3) rfl (by rw [show Int32.ofInt 1 = nI 1 from rfl, nI_add]) (by decide) rfl (fun ls hl => ?_)
              refine lv_goto (tgt := 2) hx hb dX8_wrong_91 (by decide) ?_
              exact zih2 (e + 1) (by omega) (by omega) (by rw [← hf, fstB_n (n := em) (e := e) zc7 (by rw [badB, decide_eq_true_eq]; exact fun zq => zq.elim (fun z => zc66 (by rw [bkL, if_pos ze9] at z; exact z)) (fun z => z (by rw [bkL, if_pos ze9]; exact zc83)))]) _ _ zw2 _ (lv_sub hl [3, 0] rfl)
            · refine lv_iload_n hx hb dX8_wrong_86 rfl (lv_at hl 3 rfl) ?_
              exact r_iret C zw2 dX8_wrong_87 ⟨rfl, (by rw [wrgI, ← hf, fstB_y (n := em) (e := e) zc7, fdI, if_pos zc7]; rw [badB, decide_eq_true_eq]; first | exact Or.inl (if_neg ze8) | (rw [bkL, if_pos ze9]; first | exact Or.inl zc66 | exact Or.inr zc83))⟩
  exact zlp2 _ 0 (Nat.lt_succ_self _) (by omega) (by rfl) _ _ hw _ (lv_sub hl [1, 0] rfl)

set_option maxHeartbeats 4000000 in
set_option maxRecDepth 100000 in
theorem c_X8_told {l : Launch} {G : vG} {tC : Nat} {ad : Nat → Nat} {N : Nat} {E : Nat → va_E} {q co pm em : Nat} {th : Int32} {se : Int64} {pg : Nat} {s : Nat → Int32} {ek er ei el : Nat → Nat} {en : Nat → Int32} {w : Int32} (hN0 : q + 13 ≤ N) (hE0 : E q = .inr (5, [.int th, .ref (ad (q + 1)), .long se, .ref (ad (q + 2)), .ref (ad (q + 3)), .int (nI co), .ref (ad (q + 4)), .int (nI pm), .ref (ad (q + 5)), .ref (ad (q + 6)), .ref (ad (q + 7)), .ref (ad (q + 8)), .int (nI em), .ref (ad (q + 9)), .ref (ad (q + 10)), .ref (ad (q + 11)), .ref (ad (q + 12))])) (hE1 : E (q + 1) = eI G 508 s) (hE2 : E (q + 8) = eI G 80 en) (hs0 : s 0 = nI pg) (hpg : pg ≤ 10) (hen : enOk en em ek er ei el) (hem : em ≤ 20) : MI l yX8_told wsX8_told ({ frames := 3, cells := 0, slots := 0, locals := 69 } : Room) G tC ad N E [.ref (ad q), .int w] (fun r E2 => E2 q = .inr (5, [.int (nI 0), .ref (ad (q + 1)), .long se, .ref (ad (q + 2)), .ref (ad (q + 3)), .int (nI co), .ref (ad (q + 4)), .int (nI pm), .ref (ad (q + 5)), .ref (ad (q + 6)), .ref (ad (q + 7)), .ref (ad (q + 8)), .int (nI em), .ref (ad (q + 9)), .ref (ad (q + 10)), .ref (ad (q + 11)), .ref (ad (q + 12))]) ∧ (∀ j, j ≠ q → E2 j = E j) ∧ r = a_told s pg co em pm ek er ei el w) := by
  refine MI_of RX8 rfl (by decide) rfl (Nat.le_of_ble_eq_true rfl) ?_
  intro pp_ ee_ ss_ mm_ aa_ bb_ me_ cc_ A ls C hw hl
  have hx := C.1
  have hb := C.2.1
  have hown := C.2.2.2.2.1
  have hts := C.2.2.2.2.2.1
  have hl : lv_has ls 2 [(0, .ref (ad q)), (1, .int w)] := hl
  have hinX8 : ∀ w ∈ u_ws RX8 TX8 17, w ∈ wsX8_told := by decide +kernel
  refine lv_aload_n hx hb dX8_told_0 rfl (lv_at hl 0 rfl) ?_
  refine lv_iconst (v := nI 0) hx hb dX8_told_1 rfl ?_
  refine r_put C hw RX8 TX8 17 5 hinX8 tyX8 tyX8_ok nmX8 (i := q) (by omega) hE0 rfl 0 (by decide) (by decide +kernel) rfl rfl (v := .int (nI 0)) rfl rfl (Nat.le_of_ble_eq_true rfl) dX8_told_2 (fun zE1 zH1 zL1 zg1 zf1 zw1 => ?_)
  have zh1_0 : zE1 q = .inr (5, [.int (nI 0), .ref (ad (q + 1)), .long se, .ref (ad (q + 2)), .ref (ad (q + 3)), .int (nI co), .ref (ad (q + 4)), .int (nI pm), .ref (ad (q + 5)), .ref (ad (q + 6)), .ref (ad (q + 7)), .ref (ad (q + 8)), .int (nI em), .ref (ad (q + 9)), .ref (ad (q + 10)), .ref (ad (q + 11)), .ref (ad (q + 12))]) := zg1
  have zk1_0 : zE1 (q + 1) = eI G 508 s := (zf1 _ (by omega)).trans hE1
  have zk1_1 : zE1 (q + 8) = eI G 80 en := (zf1 _ (by omega)).trans hE2
  have zfr1 : ∀ j, j ≠ q → zE1 j = E j := fun j zm0 => zf1 j zm0
  refine lv_iload_n hx hb dX8_told_5 rfl (lv_at hl 1 rfl) ?_
  refine lv_i2l (v := w.toInt64) hx hb dX8_told_6 rfl ?_
  refine lv_lconst (v := (nI 0).toInt64) hx hb dX8_told_7 (by decide) ?_
  refine lv_ldc2 (v := 7) hx hb hown (hts (.constantLong RX8 102 (7)) (by decide +kernel)) dX8_told_8 ?_
  refine r_asL (nI 7).toInt64 (by decide) ?_
  refine r_sI C zw1 hl.1 [.long w.toInt64, .long ((nI 0).toInt64), .long ((nI 7).toInt64)] 3 rfl (c_X8_in (l := l) (G := G) (tC := tC) (ad := ad) (N := N) (E := zE1) (x := w) (a := (nI 0)) (b := (nI 7))   ) gX8_told_X8_in rfl ⟨rfl, rfl⟩ (by decide +kernel) ⟨Nat.le_of_ble_eq_true rfl, Nat.le_of_ble_eq_true rfl⟩ (rest := []) rfl (Nat.le_of_ble_eq_true rfl) dX8_told_11 ⟨Nat.zero_le _, Nat.zero_le _⟩ (fun zr2 zE2 zH2 zL2 zp2 zw2 => ?_)
  obtain ⟨ze2, zq2⟩ := zp2
  rw [ze2] at zw2
  clear ze2
  rw [zq2]
  refine b_if_ne (tgt := 20) hx hb dX8_told_14 (by decide) (fun zc14 => ?_) (fun zc14 => ?_)
  · obtain ⟨j9, zj9, rfl⟩ := in_of (by omega) zc14
    refine lv_iload_n hx hb dX8_told_20 rfl (lv_at hl 1 rfl) ?_
    refine lv_iconst (v := nI 4) hx hb dX8_told_21 rfl ?_
    refine n_icmp_ge (tgt := 32) hx hb dX8_told_22 (by decide) (by omega) (by omega) (fun zc22 => ?_) (fun zc22 => ?_)
    · refine lv_iload_n hx hb dX8_told_32 rfl (lv_at hl 1 rfl) ?_
      refine lv_iconst (v := nI 4) hx hb dX8_told_33 rfl ?_
      refine n_icmp_ne (tgt := 44) hx hb dX8_told_34 (by decide) (by omega) (by omega) (fun zc34 => ?_) (fun zc34 => ?_)
      · refine lv_iload_n hx hb dX8_told_44 rfl (lv_at hl 1 rfl) ?_
        refine lv_iconst (v := nI 5) hx hb dX8_told_45 rfl ?_
        refine n_icmp_ne (tgt := 56) hx hb dX8_told_46 (by decide) (by omega) (by omega) (fun zc46 => ?_) (fun zc46 => ?_)
        · refine lv_iload_n hx hb dX8_told_56 rfl (lv_at hl 1 rfl) ?_
          refine lv_bipush (v := nI 6) hx hb dX8_told_57 rfl ?_
          refine n_icmp_ne (tgt := 69) hx hb dX8_told_59 (by decide) (by omega) (by omega) (fun zc59 => ?_) (fun zc59 => ?_)
          · refine lv_aload_n hx hb dX8_told_69 rfl (lv_at hl 0 rfl) ?_
            refine r_get C zw2 RX8 TX8 17 5 hinX8 (i := q) (by omega) zh1_0 rfl 7 (by decide) (by decide +kernel) rfl (v := .int (nI pm)) rfl dX8_told_70 ?_
            exact r_iret C zw2 dX8_told_73 ⟨zh1_0, (fun j zm0 => zfr1 j zm0), (by rw [a_told, if_pos zc14, nI_clamp (by omega), if_neg (by omega)]; first | rw [if_pos zc34] | (rw [if_neg zc34]; first | rw [if_pos zc46] | (rw [if_neg zc46]; first | rw [if_pos zc59] | rw [if_neg zc59])))⟩
          · refine lv_aload_n hx hb dX8_told_62 rfl (lv_at hl 0 rfl) ?_
            refine r_vI C zw2 hl.1 (i := q) (by omega) zh1_0 (T := TX8) (n := 17) rfl [] 0 rfl (c_X8_wrong (l := l) (G := G) (tC := tC) (ad := ad) (N := N) (E := zE1) (q := q) (co := co) (pm := pm) (em := em) (th := nI 0) (se := se) (pg := pg) (s := s) (ek := ek) (er := er) (ei := ei) (el := el) (en := en) (by omega) zh1_0 zk1_0 zk1_1 (by first | assumption | omega) (by first | assumption | omega) (by first | assumption | omega) (by first | assumption | omega)) gX8_told_X8_wrong rfl ⟨rfl, rfl⟩ (by decide +kernel) ⟨Nat.le_of_ble_eq_true rfl, Nat.le_of_ble_eq_true rfl⟩ (rest := []) rfl (Nat.le_of_ble_eq_true rfl) dX8_told_63 ⟨Nat.zero_le _, Nat.zero_le _⟩ (fun zr3 zE3 zH3 zL3 zp3 zw3 => ?_)
            obtain ⟨ze3, zq3⟩ := zp3
            rw [ze3] at zw3
            clear ze3
            rw [zq3]
            refine lv_goto (tgt := 73) hx hb dX8_told_66 (by decide) ?_
            exact r_iret C zw3 dX8_told_73 ⟨zh1_0, (fun j zm0 => zfr1 j zm0), (by rw [a_told, if_pos zc14, nI_clamp (by omega), if_neg (by omega)]; first | rw [if_pos zc34] | (rw [if_neg zc34]; first | rw [if_pos zc46] | (rw [if_neg zc46]; first | rw [if_pos zc59] | rw [if_neg zc59])))⟩
        · refine lv_aload_n hx hb dX8_told_49 rfl (lv_at hl 0 rfl) ?_
          refine r_get C zw2 RX8 TX8 17 5 hinX8 (i := q) (by omega) zh1_0 rfl 12 (by decide) (by decide +kernel) rfl (v := .int (nI em)) rfl dX8_told_50 ?_
          refine lv_goto (tgt := 73) hx hb dX8_told_53 (by decide) ?_
          exact r_iret C zw2 dX8_told_73 ⟨zh1_0, (fun j zm0 => zfr1 j zm0), (by rw [a_told, if_pos zc14, nI_clamp (by omega), if_neg (by omega)]; first | rw [if_pos zc34] | (rw [if_neg zc34]; first | rw [if_pos zc46] | (rw [if_neg zc46]; first | rw [if_pos zc59] | rw [if_neg zc59])))⟩
      · refine lv_aload_n hx hb dX8_told_37 rfl (lv_at hl 0 rfl) ?_
        refine r_get C zw2 RX8 TX8 17 5 hinX8 (i := q) (by omega) zh1_0 rfl 5 (by decide) (by decide +kernel) rfl (v := .int (nI co)) rfl dX8_told_38 ?_
        refine lv_goto (tgt := 73) hx hb dX8_told_41 (by decide) ?_
        exact r_iret C zw2 dX8_told_73 ⟨zh1_0, (fun j zm0 => zfr1 j zm0), (by rw [a_told, if_pos zc14, nI_clamp (by omega), if_neg (by omega)]; first | rw [if_pos zc34] | (rw [if_neg zc34]; first | rw [if_pos zc46] | (rw [if_neg zc46]; first | rw [if_pos zc59] | rw [if_neg zc59])))⟩
    · refine lv_aload_n hx hb dX8_told_25 rfl (lv_at hl 0 rfl) ?_
      refine r_get C zw2 RX8 TX8 17 5 hinX8 (i := q) (by omega) zh1_0 rfl 1 (by decide) (by decide +kernel) rfl (v := .ref (ad (q + 1))) rfl dX8_told_26 ?_
      refine lv_iload_n hx hb dX8_told_29 rfl (lv_at hl 1 rfl) ?_
      refine r_iaN C zw2 (i := (q + 1)) (by omega) zk1_0 (j := j9) (by omega) (by omega) dX8_told_30 ?_
      exact r_iret C zw2 dX8_told_31 ⟨zh1_0, (fun j zm0 => zfr1 j zm0), (by rw [a_told, if_pos zc14, nI_clamp (by omega), if_pos (by omega)])⟩
  · refine lv_ldc (v := -1000000002) hx hb hown (hts (.constant RX8 74 (-1000000002)) (by decide +kernel)) dX8_told_17 ?_
    exact r_iret C zw2 dX8_told_19 ⟨zh1_0, (fun j zm0 => zfr1 j zm0), (by rw [a_told, if_neg zc14])⟩

set_option maxHeartbeats 4000000 in
set_option maxRecDepth 100000 in
theorem c_X8_page {l : Launch} {G : vG} {tC : Nat} {ad : Nat → Nat} {N : Nat} {E : Nat → va_E} {q co pm em : Nat} {th : Int32} {se : Int64} {pg : Nat} {s : Nat → Int32} {k w : Int32} (hN0 : q + 13 ≤ N) (hE0 : E q = .inr (5, [.int th, .ref (ad (q + 1)), .long se, .ref (ad (q + 2)), .ref (ad (q + 3)), .int (nI co), .ref (ad (q + 4)), .int (nI pm), .ref (ad (q + 5)), .ref (ad (q + 6)), .ref (ad (q + 7)), .ref (ad (q + 8)), .int (nI em), .ref (ad (q + 9)), .ref (ad (q + 10)), .ref (ad (q + 11)), .ref (ad (q + 12))])) (hE1 : E (q + 1) = eI G 508 s) (hs0 : s 0 = nI pg) (hpg : pg ≤ 10) : MI l yX8_page wsX8_page ({ frames := 4, cells := 0, slots := 0, locals := 88 } : Room) G tC ad N E [.ref (ad q), .int k, .int w] (fun r E2 => E2 q = .inr (5, [.int (nI 0), .ref (ad (q + 1)), .long se, .ref (ad (q + 2)), .ref (ad (q + 3)), .int (nI co), .ref (ad (q + 4)), .int (nI pm), .ref (ad (q + 5)), .ref (ad (q + 6)), .ref (ad (q + 7)), .ref (ad (q + 8)), .int (nI em), .ref (ad (q + 9)), .ref (ad (q + 10)), .ref (ad (q + 11)), .ref (ad (q + 12))]) ∧ (∀ j, j ≠ q → E2 j = E j) ∧ r = a_page s pg k w) := by
  refine MI_of RX8 rfl (by decide) rfl (Nat.le_of_ble_eq_true rfl) ?_
  intro pp_ ee_ ss_ mm_ aa_ bb_ me_ cc_ A ls C hw hl
  have hx := C.1
  have hb := C.2.1
  have hown := C.2.2.2.2.1
  have hts := C.2.2.2.2.2.1
  have hl : lv_has ls 3 [(0, .ref (ad q)), (1, .int k), (2, .int w)] := hl
  have hinX8 : ∀ w ∈ u_ws RX8 TX8 17, w ∈ wsX8_page := by decide +kernel
  refine lv_aload_n hx hb dX8_page_0 rfl (lv_at hl 0 rfl) ?_
  refine lv_iconst (v := nI 0) hx hb dX8_page_1 rfl ?_
  refine r_put C hw RX8 TX8 17 5 hinX8 tyX8 tyX8_ok nmX8 (i := q) (by omega) hE0 rfl 0 (by decide) (by decide +kernel) rfl rfl (v := .int (nI 0)) rfl rfl (Nat.le_of_ble_eq_true rfl) dX8_page_2 (fun zE1 zH1 zL1 zg1 zf1 zw1 => ?_)
  have zh1_0 : zE1 q = .inr (5, [.int (nI 0), .ref (ad (q + 1)), .long se, .ref (ad (q + 2)), .ref (ad (q + 3)), .int (nI co), .ref (ad (q + 4)), .int (nI pm), .ref (ad (q + 5)), .ref (ad (q + 6)), .ref (ad (q + 7)), .ref (ad (q + 8)), .int (nI em), .ref (ad (q + 9)), .ref (ad (q + 10)), .ref (ad (q + 11)), .ref (ad (q + 12))]) := zg1
  have zk1_0 : zE1 (q + 1) = eI G 508 s := (zf1 _ (by omega)).trans hE1
  have zfr1 : ∀ j, j ≠ q → zE1 j = E j := fun j zm0 => zf1 j zm0
  refine lv_aload_n hx hb dX8_page_5 rfl (lv_at hl 0 rfl) ?_
  refine lv_iload_n hx hb dX8_page_6 rfl (lv_at hl 1 rfl) ?_
  refine r_vI C zw1 hl.1 (i := q) (by omega) zh1_0 (T := TX8) (n := 17) rfl [.int k] 1 rfl (c_X8_isPage (l := l) (G := G) (tC := tC) (ad := ad) (N := N) (E := zE1) (q := q) (co := co) (pm := pm) (em := em) (th := nI 0) (se := se) (pg := pg) (s := s) (k := k) (by omega) zh1_0 zk1_0 (by first | assumption | omega) (by first | assumption | omega)) gX8_page_X8_isPage rfl ⟨rfl, rfl⟩ (by decide +kernel) ⟨Nat.le_of_ble_eq_true rfl, Nat.le_of_ble_eq_true rfl⟩ (rest := []) rfl (Nat.le_of_ble_eq_true rfl) dX8_page_7 ⟨Nat.zero_le _, Nat.zero_le _⟩ (fun zr2 zE2 zH2 zL2 zp2 zw2 => ?_)
  obtain ⟨ze2, zq2⟩ := zp2
  rw [ze2] at zw2
  clear ze2
  rw [zq2]
  refine b_if_ne (tgt := 16) hx hb dX8_page_10 (by decide) (fun zc10 => ?_) (fun zc10 => ?_)
  · obtain ⟨j9, zj9, rfl⟩ := has_of zc10
    refine lv_iload_n hx hb dX8_page_16 rfl (lv_at hl 2 rfl) ?_
    refine lv_i2l (v := w.toInt64) hx hb dX8_page_17 rfl ?_
    refine lv_lconst (v := (nI 0).toInt64) hx hb dX8_page_18 (by decide) ?_
    refine lv_ldc2 (v := 8) hx hb hown (hts (.constantLong RX8 168 (8)) (by decide +kernel)) dX8_page_19 ?_
    refine r_asL (nI 8).toInt64 (by decide) ?_
    refine r_sI C zw2 hl.1 [.long w.toInt64, .long ((nI 0).toInt64), .long ((nI 8).toInt64)] 3 rfl (c_X8_in (l := l) (G := G) (tC := tC) (ad := ad) (N := N) (E := zE1) (x := w) (a := (nI 0)) (b := (nI 8))   ) gX8_page_X8_in rfl ⟨rfl, rfl⟩ (by decide +kernel) ⟨Nat.le_of_ble_eq_true rfl, Nat.le_of_ble_eq_true rfl⟩ (rest := []) rfl (Nat.le_of_ble_eq_true rfl) dX8_page_22 ⟨Nat.zero_le _, Nat.zero_le _⟩ (fun zr3 zE3 zH3 zL3 zp3 zw3 => ?_)
    obtain ⟨ze3, zq3⟩ := zp3
    rw [ze3] at zw3
    clear ze3
    rw [zq3]
    refine b_if_ne (tgt := 31) hx hb dX8_page_25 (by decide) (fun zc25 => ?_) (fun zc25 => ?_)
    · obtain ⟨j8, zj8, rfl⟩ := in_of (by omega) zc25
      refine lv_iload_n hx hb dX8_page_31 rfl (lv_at hl 2 rfl) ?_
      refine lv_iconst (v := nI 5) hx hb dX8_page_32 rfl ?_
      refine n_icmp_ge (tgt := 43) hx hb dX8_page_33 (by decide) (by omega) (by omega) (fun zc33 => ?_) (fun zc33 => ?_)
      · refine lv_iload_n hx hb dX8_page_43 rfl (lv_at hl 2 rfl) ?_
        refine lv_iconst (v := nI 5) hx hb dX8_page_44 rfl ?_
        refine n_icmp_ne (tgt := 56) hx hb dX8_page_45 (by decide) (by omega) (by omega) (fun zc45 => ?_) (fun zc45 => ?_)
        · refine lv_iload_n hx hb dX8_page_56 rfl (lv_at hl 2 rfl) ?_
          refine lv_bipush (v := nI 6) hx hb dX8_page_57 rfl ?_
          refine n_icmp_ne (tgt := 70) hx hb dX8_page_59 (by decide) (by omega) (by omega) (fun zc59 => ?_) (fun zc59 => ?_)
          · refine lv_iload_n hx hb dX8_page_70 rfl (lv_at hl 2 rfl) ?_
            refine lv_bipush (v := nI 7) hx hb dX8_page_71 rfl ?_
            refine n_icmp_ne (tgt := 84) hx hb dX8_page_73 (by decide) (by omega) (by omega) (fun zc73 => ?_) (fun zc73 => ?_)
            · refine lv_aload_n hx hb dX8_page_84 rfl (lv_at hl 0 rfl) ?_
              refine lv_iload_n hx hb dX8_page_85 rfl (lv_at hl 1 rfl) ?_
              refine r_vI C zw3 hl.1 (i := q) (by omega) zh1_0 (T := TX8) (n := 17) rfl [.int (nI j9)] 1 rfl (c_X8_linked (l := l) (G := G) (tC := tC) (ad := ad) (N := N) (E := zE1) (q := q) (co := co) (pm := pm) (em := em) (th := nI 0) (se := se) (pg := pg) (s := s) (k := j9) (by omega) zh1_0 zk1_0 (by first | assumption | omega) (by first | assumption | omega) (by first | assumption | omega)) gX8_page_X8_linked rfl ⟨rfl, rfl⟩ (by decide +kernel) ⟨Nat.le_of_ble_eq_true rfl, Nat.le_of_ble_eq_true rfl⟩ (rest := []) rfl (Nat.le_of_ble_eq_true rfl) dX8_page_86 ⟨Nat.zero_le _, Nat.zero_le _⟩ (fun zr4 zE4 zH4 zL4 zp4 zw4 => ?_)
              obtain ⟨ze4, zq4⟩ := zp4
              rw [ze4] at zw4
              clear ze4
              rw [zq4]
              exact r_iret C zw4 dX8_page_89 ⟨zh1_0, (fun j zm0 => zfr1 j zm0), (by rw [a_page, if_pos zc10, if_pos zc25, nI_clamp (by omega), nI_clamp (by omega), if_neg (by omega)]; first | rw [if_pos zc45] | (rw [if_neg zc45]; first | rw [if_pos zc59] | (rw [if_neg zc59]; first | rw [if_pos zc73] | rw [if_neg zc73])))⟩
            · refine lv_aload_n hx hb dX8_page_76 rfl (lv_at hl 0 rfl) ?_
              refine lv_iload_n hx hb dX8_page_77 rfl (lv_at hl 1 rfl) ?_
              refine r_vI C zw3 hl.1 (i := q) (by omega) zh1_0 (T := TX8) (n := 17) rfl [.int (nI j9)] 1 rfl (c_X8_sure (l := l) (G := G) (tC := tC) (ad := ad) (N := N) (E := zE1) (q := q) (co := co) (pm := pm) (em := em) (th := nI 0) (se := se) (s := s) (k := j9) (by omega) zh1_0 zk1_0 (by first | assumption | omega)) gX8_page_X8_sure rfl ⟨rfl, rfl⟩ (by decide +kernel) ⟨Nat.le_of_ble_eq_true rfl, Nat.le_of_ble_eq_true rfl⟩ (rest := []) rfl (Nat.le_of_ble_eq_true rfl) dX8_page_78 ⟨Nat.zero_le _, Nat.zero_le _⟩ (fun zr5 zE5 zH5 zL5 zp5 zw5 => ?_)
              obtain ⟨ze5, zq5⟩ := zp5
              rw [ze5] at zw5
              clear ze5
              rw [zq5]
              refine lv_goto (tgt := 89) hx hb dX8_page_81 (by decide) ?_
              exact r_iret C zw5 dX8_page_89 ⟨zh1_0, (fun j zm0 => zfr1 j zm0), (by rw [a_page, if_pos zc10, if_pos zc25, nI_clamp (by omega), nI_clamp (by omega), if_neg (by omega)]; first | rw [if_pos zc45] | (rw [if_neg zc45]; first | rw [if_pos zc59] | (rw [if_neg zc59]; first | rw [if_pos zc73] | rw [if_neg zc73])))⟩
          · refine lv_aload_n hx hb dX8_page_62 rfl (lv_at hl 0 rfl) ?_
            refine lv_iload_n hx hb dX8_page_63 rfl (lv_at hl 1 rfl) ?_
            refine r_vI C zw3 hl.1 (i := q) (by omega) zh1_0 (T := TX8) (n := 17) rfl [.int (nI j9)] 1 rfl (c_X8_lacks (l := l) (G := G) (tC := tC) (ad := ad) (N := N) (E := zE1) (q := q) (co := co) (pm := pm) (em := em) (th := nI 0) (se := se) (s := s) (k := j9) (by omega) zh1_0 zk1_0 (by first | assumption | omega)) gX8_page_X8_lacks rfl ⟨rfl, rfl⟩ (by decide +kernel) ⟨Nat.le_of_ble_eq_true rfl, Nat.le_of_ble_eq_true rfl⟩ (rest := []) rfl (Nat.le_of_ble_eq_true rfl) dX8_page_64 ⟨Nat.zero_le _, Nat.zero_le _⟩ (fun zr6 zE6 zH6 zL6 zp6 zw6 => ?_)
            obtain ⟨ze6, zq6⟩ := zp6
            rw [ze6] at zw6
            clear ze6
            rw [zq6]
            refine lv_goto (tgt := 89) hx hb dX8_page_67 (by decide) ?_
            exact r_iret C zw6 dX8_page_89 ⟨zh1_0, (fun j zm0 => zfr1 j zm0), (by rw [a_page, if_pos zc10, if_pos zc25, nI_clamp (by omega), nI_clamp (by omega), if_neg (by omega)]; first | rw [if_pos zc45] | (rw [if_neg zc45]; first | rw [if_pos zc59] | (rw [if_neg zc59]; first | rw [if_pos zc73] | rw [if_neg zc73])))⟩
        · refine lv_aload_n hx hb dX8_page_48 rfl (lv_at hl 0 rfl) ?_
          refine lv_iload_n hx hb dX8_page_49 rfl (lv_at hl 1 rfl) ?_
          refine r_vI C zw3 hl.1 (i := q) (by omega) zh1_0 (T := TX8) (n := 17) rfl [.int (nI j9)] 1 rfl (c_X8_lengthOf (l := l) (G := G) (tC := tC) (ad := ad) (N := N) (E := zE1) (q := q) (co := co) (pm := pm) (em := em) (th := nI 0) (se := se) (s := s) (k := j9) (by omega) zh1_0 zk1_0 (by first | assumption | omega)) gX8_page_X8_lengthOf rfl ⟨rfl, rfl⟩ (by decide +kernel) ⟨Nat.le_of_ble_eq_true rfl, Nat.le_of_ble_eq_true rfl⟩ (rest := []) rfl (Nat.le_of_ble_eq_true rfl) dX8_page_50 ⟨Nat.zero_le _, Nat.zero_le _⟩ (fun zr7 zE7 zH7 zL7 zp7 zw7 => ?_)
          obtain ⟨ze7, zq7⟩ := zp7
          rw [ze7] at zw7
          clear ze7
          rw [zq7]
          refine lv_goto (tgt := 89) hx hb dX8_page_53 (by decide) ?_
          exact r_iret C zw7 dX8_page_89 ⟨zh1_0, (fun j zm0 => zfr1 j zm0), (by rw [a_page, if_pos zc10, if_pos zc25, nI_clamp (by omega), nI_clamp (by omega), if_neg (by omega)]; first | rw [if_pos zc45] | (rw [if_neg zc45]; first | rw [if_pos zc59] | (rw [if_neg zc59]; first | rw [if_pos zc73] | rw [if_neg zc73])))⟩
      · refine lv_aload_n hx hb dX8_page_36 rfl (lv_at hl 0 rfl) ?_
        refine lv_iload_n hx hb dX8_page_37 rfl (lv_at hl 1 rfl) ?_
        refine lv_iload_n hx hb dX8_page_38 rfl (lv_at hl 2 rfl) ?_
        refine r_vI C zw3 hl.1 (i := q) (by omega) zh1_0 (T := TX8) (n := 17) rfl [.int (nI j9), .int (nI j8)] 2 rfl (c_X8_of (l := l) (G := G) (tC := tC) (ad := ad) (N := N) (E := zE1) (q := q) (co := co) (pm := pm) (em := em) (th := nI 0) (se := se) (s := s) (k := j9) (w := j8) (by omega) zh1_0 zk1_0 (by first | assumption | omega)) gX8_page_X8_of rfl ⟨rfl, rfl⟩ (by decide +kernel) ⟨Nat.le_of_ble_eq_true rfl, Nat.le_of_ble_eq_true rfl⟩ (rest := []) rfl (Nat.le_of_ble_eq_true rfl) dX8_page_39 ⟨Nat.zero_le _, Nat.zero_le _⟩ (fun zr8 zE8 zH8 zL8 zp8 zw8 => ?_)
        obtain ⟨ze8, zq8⟩ := zp8
        rw [ze8] at zw8
        clear ze8
        rw [zq8]
        exact r_iret C zw8 dX8_page_42 ⟨zh1_0, (fun j zm0 => zfr1 j zm0), (by rw [a_page, if_pos zc10, if_pos zc25, nI_clamp (by omega), nI_clamp (by omega), if_pos (by omega)])⟩
    · refine lv_ldc (v := -1000000002) hx hb hown (hts (.constant RX8 74 (-1000000002)) (by decide +kernel)) dX8_page_28 ?_
      exact r_iret C zw3 dX8_page_30 ⟨zh1_0, (fun j zm0 => zfr1 j zm0), (by rw [a_page, if_pos zc10, if_neg zc25])⟩
  · refine lv_ldc (v := -1000000001) hx hb hown (hts (.constant RX8 156 (-1000000001)) (by decide +kernel)) dX8_page_13 ?_
    exact r_iret C zw2 dX8_page_15 ⟨zh1_0, (fun j zm0 => zfr1 j zm0), (by rw [a_page, if_neg zc10])⟩

set_option maxHeartbeats 4000000 in
set_option maxRecDepth 100000 in
theorem c_X8_letter {l : Launch} {G : vG} {tC : Nat} {ad : Nat → Nat} {N : Nat} {E : Nat → va_E} {q co pm em : Nat} {th : Int32} {se : Int64} {pg : Nat} {s : Nat → Int32} {k row i : Int32} (hN0 : q + 13 ≤ N) (hE0 : E q = .inr (5, [.int th, .ref (ad (q + 1)), .long se, .ref (ad (q + 2)), .ref (ad (q + 3)), .int (nI co), .ref (ad (q + 4)), .int (nI pm), .ref (ad (q + 5)), .ref (ad (q + 6)), .ref (ad (q + 7)), .ref (ad (q + 8)), .int (nI em), .ref (ad (q + 9)), .ref (ad (q + 10)), .ref (ad (q + 11)), .ref (ad (q + 12))])) (hE1 : E (q + 1) = eI G 508 s) (hs0 : s 0 = nI pg) (hpg : pg ≤ 10) : MI l yX8_letter wsX8_letter ({ frames := 2, cells := 0, slots := 0, locals := 46 } : Room) G tC ad N E [.ref (ad q), .int k, .int row, .int i] (fun r E2 => E2 q = .inr (5, [.int (nI 0), .ref (ad (q + 1)), .long se, .ref (ad (q + 2)), .ref (ad (q + 3)), .int (nI co), .ref (ad (q + 4)), .int (nI pm), .ref (ad (q + 5)), .ref (ad (q + 6)), .ref (ad (q + 7)), .ref (ad (q + 8)), .int (nI em), .ref (ad (q + 9)), .ref (ad (q + 10)), .ref (ad (q + 11)), .ref (ad (q + 12))]) ∧ (∀ j, j ≠ q → E2 j = E j) ∧ r = a_letter s pg k row i) := by
  refine MI_of RX8 rfl (by decide) rfl (Nat.le_of_ble_eq_true rfl) ?_
  intro pp_ ee_ ss_ mm_ aa_ bb_ me_ cc_ A ls C hw hl
  have hx := C.1
  have hb := C.2.1
  have hown := C.2.2.2.2.1
  have hts := C.2.2.2.2.2.1
  have hl : lv_has ls 4 [(0, .ref (ad q)), (1, .int k), (2, .int row), (3, .int i)] := hl
  have hinX8 : ∀ w ∈ u_ws RX8 TX8 17, w ∈ wsX8_letter := by decide +kernel
  refine lv_aload_n hx hb dX8_letter_0 rfl (lv_at hl 0 rfl) ?_
  refine lv_iconst (v := nI 0) hx hb dX8_letter_1 rfl ?_
  refine r_put C hw RX8 TX8 17 5 hinX8 tyX8 tyX8_ok nmX8 (i := q) (by omega) hE0 rfl 0 (by decide) (by decide +kernel) rfl rfl (v := .int (nI 0)) rfl rfl (Nat.le_of_ble_eq_true rfl) dX8_letter_2 (fun zE1 zH1 zL1 zg1 zf1 zw1 => ?_)
  have zh1_0 : zE1 q = .inr (5, [.int (nI 0), .ref (ad (q + 1)), .long se, .ref (ad (q + 2)), .ref (ad (q + 3)), .int (nI co), .ref (ad (q + 4)), .int (nI pm), .ref (ad (q + 5)), .ref (ad (q + 6)), .ref (ad (q + 7)), .ref (ad (q + 8)), .int (nI em), .ref (ad (q + 9)), .ref (ad (q + 10)), .ref (ad (q + 11)), .ref (ad (q + 12))]) := zg1
  have zk1_0 : zE1 (q + 1) = eI G 508 s := (zf1 _ (by omega)).trans hE1
  have zfr1 : ∀ j, j ≠ q → zE1 j = E j := fun j zm0 => zf1 j zm0
  refine lv_aload_n hx hb dX8_letter_5 rfl (lv_at hl 0 rfl) ?_
  refine lv_iload_n hx hb dX8_letter_6 rfl (lv_at hl 1 rfl) ?_
  refine r_vI C zw1 hl.1 (i := q) (by omega) zh1_0 (T := TX8) (n := 17) rfl [.int k] 1 rfl (c_X8_isPage (l := l) (G := G) (tC := tC) (ad := ad) (N := N) (E := zE1) (q := q) (co := co) (pm := pm) (em := em) (th := nI 0) (se := se) (pg := pg) (s := s) (k := k) (by omega) zh1_0 zk1_0 (by first | assumption | omega) (by first | assumption | omega)) gX8_letter_X8_isPage rfl ⟨rfl, rfl⟩ (by decide +kernel) ⟨Nat.le_of_ble_eq_true rfl, Nat.le_of_ble_eq_true rfl⟩ (rest := []) rfl (Nat.le_of_ble_eq_true rfl) dX8_letter_7 ⟨Nat.zero_le _, Nat.zero_le _⟩ (fun zr2 zE2 zH2 zL2 zp2 zw2 => ?_)
  obtain ⟨ze2, zq2⟩ := zp2
  rw [ze2] at zw2
  clear ze2
  rw [zq2]
  refine b_if_ne (tgt := 16) hx hb dX8_letter_10 (by decide) (fun zc10 => ?_) (fun zc10 => ?_)
  · obtain ⟨j9, zj9, rfl⟩ := has_of zc10
    refine lv_iload_n hx hb dX8_letter_16 rfl (lv_at hl 2 rfl) ?_
    refine lv_i2l (v := row.toInt64) hx hb dX8_letter_17 rfl ?_
    refine lv_lconst (v := (nI 0).toInt64) hx hb dX8_letter_18 (by decide) ?_
    refine lv_ldc2 (v := 4) hx hb hown (hts (.constantLong RX8 179 (4)) (by decide +kernel)) dX8_letter_19 ?_
    refine r_asL (nI 4).toInt64 (by decide) ?_
    refine r_sI C zw2 hl.1 [.long row.toInt64, .long ((nI 0).toInt64), .long ((nI 4).toInt64)] 3 rfl (c_X8_in (l := l) (G := G) (tC := tC) (ad := ad) (N := N) (E := zE1) (x := row) (a := (nI 0)) (b := (nI 4))   ) gX8_letter_X8_in rfl ⟨rfl, rfl⟩ (by decide +kernel) ⟨Nat.le_of_ble_eq_true rfl, Nat.le_of_ble_eq_true rfl⟩ (rest := []) rfl (Nat.le_of_ble_eq_true rfl) dX8_letter_22 ⟨Nat.zero_le _, Nat.zero_le _⟩ (fun zr3 zE3 zH3 zL3 zp3 zw3 => ?_)
    obtain ⟨ze3, zq3⟩ := zp3
    rw [ze3] at zw3
    clear ze3
    rw [zq3]
    refine b_if_eq (tgt := 57) hx hb dX8_letter_25 (by decide) (fun zc25 => ?_) (fun zc25 => ?_)
    · refine lv_ldc (v := -1000000002) hx hb hown (hts (.constant RX8 74 (-1000000002)) (by decide +kernel)) dX8_letter_57 ?_
      exact r_iret C zw3 dX8_letter_59 ⟨zh1_0, (fun j zm0 => zfr1 j zm0), (by rw [a_letter, if_pos zc10, if_neg (by first | exact fun zq => zc37 zq.2 | exact fun zq => zc25 zq.1)])⟩
    · obtain ⟨j8, zj8, rfl⟩ := in_of (by omega) zc25
      refine lv_iload_n hx hb dX8_letter_28 rfl (lv_at hl 3 rfl) ?_
      refine lv_i2l (v := i.toInt64) hx hb dX8_letter_29 rfl ?_
      refine lv_lconst (v := (nI 0).toInt64) hx hb dX8_letter_30 (by decide) ?_
      refine lv_ldc2 (v := 7) hx hb hown (hts (.constantLong RX8 102 (7)) (by decide +kernel)) dX8_letter_31 ?_
      refine r_asL (nI 7).toInt64 (by decide) ?_
      refine r_sI C zw3 hl.1 [.long i.toInt64, .long ((nI 0).toInt64), .long ((nI 7).toInt64)] 3 rfl (c_X8_in (l := l) (G := G) (tC := tC) (ad := ad) (N := N) (E := zE1) (x := i) (a := (nI 0)) (b := (nI 7))   ) gX8_letter_X8_in rfl ⟨rfl, rfl⟩ (by decide +kernel) ⟨Nat.le_of_ble_eq_true rfl, Nat.le_of_ble_eq_true rfl⟩ (rest := []) rfl (Nat.le_of_ble_eq_true rfl) dX8_letter_34 ⟨Nat.zero_le _, Nat.zero_le _⟩ (fun zr4 zE4 zH4 zL4 zp4 zw4 => ?_)
      obtain ⟨ze4, zq4⟩ := zp4
      rw [ze4] at zw4
      clear ze4
      rw [zq4]
      refine b_if_eq (tgt := 57) hx hb dX8_letter_37 (by decide) (fun zc37 => ?_) (fun zc37 => ?_)
      · refine lv_ldc (v := -1000000002) hx hb hown (hts (.constant RX8 74 (-1000000002)) (by decide +kernel)) dX8_letter_57 ?_
        exact r_iret C zw4 dX8_letter_59 ⟨zh1_0, (fun j zm0 => zfr1 j zm0), (by rw [a_letter, if_pos zc10, if_neg (by first | exact fun zq => zc37 zq.2 | exact fun zq => zc25 zq.1)])⟩
      · obtain ⟨j7, zj7, rfl⟩ := in_of (by omega) zc37
        refine lv_aload_n hx hb dX8_letter_40 rfl (lv_at hl 0 rfl) ?_
        refine lv_iload_n hx hb dX8_letter_41 rfl (lv_at hl 1 rfl) ?_
        refine lv_bipush (v := nI 10) hx hb dX8_letter_42 rfl ?_
        refine lv_bipush (v := nI 8) hx hb dX8_letter_44 rfl ?_
        refine lv_iload_n hx hb dX8_letter_46 rfl (lv_at hl 2 rfl) ?_
        refine lv_imul hx hb dX8_letter_47 ?_
        refine r_nat (8 * j8) (pk_mul _ _) ?_
        refine lv_iadd hx hb dX8_letter_48 ?_
        refine r_nat (10 + 8 * j8) (nI_add _ _) ?_
        refine lv_iload_n hx hb dX8_letter_49 rfl (lv_at hl 3 rfl) ?_
        refine lv_iadd hx hb dX8_letter_50 ?_
        refine r_nat (10 + 8 * j8 + j7) (nI_add _ _) ?_
        refine r_vI C zw4 hl.1 (i := q) (by omega) zh1_0 (T := TX8) (n := 17) rfl [.int (nI j9), .int (nI (10 + 8 * j8 + j7))] 2 rfl (c_X8_of (l := l) (G := G) (tC := tC) (ad := ad) (N := N) (E := zE1) (q := q) (co := co) (pm := pm) (em := em) (th := nI 0) (se := se) (s := s) (k := j9) (w := 10 + 8 * j8 + j7) (by omega) zh1_0 zk1_0 (by first | assumption | omega)) gX8_letter_X8_of rfl ⟨rfl, rfl⟩ (by decide +kernel) ⟨Nat.le_of_ble_eq_true rfl, Nat.le_of_ble_eq_true rfl⟩ (rest := []) rfl (Nat.le_of_ble_eq_true rfl) dX8_letter_51 ⟨Nat.zero_le _, Nat.zero_le _⟩ (fun zr5 zE5 zH5 zL5 zp5 zw5 => ?_)
        obtain ⟨ze5, zq5⟩ := zp5
        rw [ze5] at zw5
        clear ze5
        rw [zq5]
        refine lv_goto (tgt := 59) hx hb dX8_letter_54 (by decide) ?_
        exact r_iret C zw5 dX8_letter_59 ⟨zh1_0, (fun j zm0 => zfr1 j zm0), (by rw [a_letter, if_pos zc10, if_pos ⟨zc25, zc37⟩, nI_clamp (by omega), nI_clamp (by omega), nI_clamp (by omega)])⟩
  · refine lv_ldc (v := -1000000001) hx hb hown (hts (.constant RX8 156 (-1000000001)) (by decide +kernel)) dX8_letter_13 ?_
    exact r_iret C zw2 dX8_letter_15 ⟨zh1_0, (fun j zm0 => zfr1 j zm0), (by rw [a_letter, if_neg zc10])⟩

set_option maxHeartbeats 4000000 in
set_option maxRecDepth 100000 in
theorem c_X8_link {l : Launch} {G : vG} {tC : Nat} {ad : Nat → Nat} {N : Nat} {E : Nat → va_E} {q co pm em : Nat} {th : Int32} {se : Int64} {pg : Nat} {s : Nat → Int32} {k i : Int32} (hN0 : q + 13 ≤ N) (hE0 : E q = .inr (5, [.int th, .ref (ad (q + 1)), .long se, .ref (ad (q + 2)), .ref (ad (q + 3)), .int (nI co), .ref (ad (q + 4)), .int (nI pm), .ref (ad (q + 5)), .ref (ad (q + 6)), .ref (ad (q + 7)), .ref (ad (q + 8)), .int (nI em), .ref (ad (q + 9)), .ref (ad (q + 10)), .ref (ad (q + 11)), .ref (ad (q + 12))])) (hE1 : E (q + 1) = eI G 508 s) (hs0 : s 0 = nI pg) (hpg : pg ≤ 10) : MI l yX8_link wsX8_link ({ frames := 2, cells := 0, slots := 0, locals := 46 } : Room) G tC ad N E [.ref (ad q), .int k, .int i] (fun r E2 => E2 q = .inr (5, [.int (nI 0), .ref (ad (q + 1)), .long se, .ref (ad (q + 2)), .ref (ad (q + 3)), .int (nI co), .ref (ad (q + 4)), .int (nI pm), .ref (ad (q + 5)), .ref (ad (q + 6)), .ref (ad (q + 7)), .ref (ad (q + 8)), .int (nI em), .ref (ad (q + 9)), .ref (ad (q + 10)), .ref (ad (q + 11)), .ref (ad (q + 12))]) ∧ (∀ j, j ≠ q → E2 j = E j) ∧ r = a_link s pg k i) := by
  refine MI_of RX8 rfl (by decide) rfl (Nat.le_of_ble_eq_true rfl) ?_
  intro pp_ ee_ ss_ mm_ aa_ bb_ me_ cc_ A ls C hw hl
  have hx := C.1
  have hb := C.2.1
  have hown := C.2.2.2.2.1
  have hts := C.2.2.2.2.2.1
  have hl : lv_has ls 3 [(0, .ref (ad q)), (1, .int k), (2, .int i)] := hl
  have hinX8 : ∀ w ∈ u_ws RX8 TX8 17, w ∈ wsX8_link := by decide +kernel
  refine lv_aload_n hx hb dX8_link_0 rfl (lv_at hl 0 rfl) ?_
  refine lv_iconst (v := nI 0) hx hb dX8_link_1 rfl ?_
  refine r_put C hw RX8 TX8 17 5 hinX8 tyX8 tyX8_ok nmX8 (i := q) (by omega) hE0 rfl 0 (by decide) (by decide +kernel) rfl rfl (v := .int (nI 0)) rfl rfl (Nat.le_of_ble_eq_true rfl) dX8_link_2 (fun zE1 zH1 zL1 zg1 zf1 zw1 => ?_)
  have zh1_0 : zE1 q = .inr (5, [.int (nI 0), .ref (ad (q + 1)), .long se, .ref (ad (q + 2)), .ref (ad (q + 3)), .int (nI co), .ref (ad (q + 4)), .int (nI pm), .ref (ad (q + 5)), .ref (ad (q + 6)), .ref (ad (q + 7)), .ref (ad (q + 8)), .int (nI em), .ref (ad (q + 9)), .ref (ad (q + 10)), .ref (ad (q + 11)), .ref (ad (q + 12))]) := zg1
  have zk1_0 : zE1 (q + 1) = eI G 508 s := (zf1 _ (by omega)).trans hE1
  have zfr1 : ∀ j, j ≠ q → zE1 j = E j := fun j zm0 => zf1 j zm0
  refine lv_aload_n hx hb dX8_link_5 rfl (lv_at hl 0 rfl) ?_
  refine lv_iload_n hx hb dX8_link_6 rfl (lv_at hl 1 rfl) ?_
  refine r_vI C zw1 hl.1 (i := q) (by omega) zh1_0 (T := TX8) (n := 17) rfl [.int k] 1 rfl (c_X8_isPage (l := l) (G := G) (tC := tC) (ad := ad) (N := N) (E := zE1) (q := q) (co := co) (pm := pm) (em := em) (th := nI 0) (se := se) (pg := pg) (s := s) (k := k) (by omega) zh1_0 zk1_0 (by first | assumption | omega) (by first | assumption | omega)) gX8_link_X8_isPage rfl ⟨rfl, rfl⟩ (by decide +kernel) ⟨Nat.le_of_ble_eq_true rfl, Nat.le_of_ble_eq_true rfl⟩ (rest := []) rfl (Nat.le_of_ble_eq_true rfl) dX8_link_7 ⟨Nat.zero_le _, Nat.zero_le _⟩ (fun zr2 zE2 zH2 zL2 zp2 zw2 => ?_)
  obtain ⟨ze2, zq2⟩ := zp2
  rw [ze2] at zw2
  clear ze2
  rw [zq2]
  refine b_if_ne (tgt := 16) hx hb dX8_link_10 (by decide) (fun zc10 => ?_) (fun zc10 => ?_)
  · obtain ⟨j9, zj9, rfl⟩ := has_of zc10
    refine lv_iload_n hx hb dX8_link_16 rfl (lv_at hl 2 rfl) ?_
    refine lv_i2l (v := i.toInt64) hx hb dX8_link_17 rfl ?_
    refine lv_lconst (v := (nI 0).toInt64) hx hb dX8_link_18 (by decide) ?_
    refine lv_ldc2 (v := 3) hx hb hown (hts (.constantLong RX8 115 (3)) (by decide +kernel)) dX8_link_19 ?_
    refine r_asL (nI 3).toInt64 (by decide) ?_
    refine r_sI C zw2 hl.1 [.long i.toInt64, .long ((nI 0).toInt64), .long ((nI 3).toInt64)] 3 rfl (c_X8_in (l := l) (G := G) (tC := tC) (ad := ad) (N := N) (E := zE1) (x := i) (a := (nI 0)) (b := (nI 3))   ) gX8_link_X8_in rfl ⟨rfl, rfl⟩ (by decide +kernel) ⟨Nat.le_of_ble_eq_true rfl, Nat.le_of_ble_eq_true rfl⟩ (rest := []) rfl (Nat.le_of_ble_eq_true rfl) dX8_link_22 ⟨Nat.zero_le _, Nat.zero_le _⟩ (fun zr3 zE3 zH3 zL3 zp3 zw3 => ?_)
    obtain ⟨ze3, zq3⟩ := zp3
    rw [ze3] at zw3
    clear ze3
    rw [zq3]
    refine b_if_eq (tgt := 40) hx hb dX8_link_25 (by decide) (fun zc25 => ?_) (fun zc25 => ?_)
    · refine lv_ldc (v := -1000000002) hx hb hown (hts (.constant RX8 74 (-1000000002)) (by decide +kernel)) dX8_link_40 ?_
      exact r_iret C zw3 dX8_link_42 ⟨zh1_0, (fun j zm0 => zfr1 j zm0), (by rw [a_link, if_pos zc10, if_neg zc25])⟩
    · obtain ⟨j8, zj8, rfl⟩ := in_of (by omega) zc25
      refine lv_aload_n hx hb dX8_link_28 rfl (lv_at hl 0 rfl) ?_
      refine lv_iload_n hx hb dX8_link_29 rfl (lv_at hl 1 rfl) ?_
      refine lv_bipush (v := nI 6) hx hb dX8_link_30 rfl ?_
      refine lv_iload_n hx hb dX8_link_32 rfl (lv_at hl 2 rfl) ?_
      refine lv_iadd hx hb dX8_link_33 ?_
      refine r_nat (6 + j8) (nI_add _ _) ?_
      refine r_vI C zw3 hl.1 (i := q) (by omega) zh1_0 (T := TX8) (n := 17) rfl [.int (nI j9), .int (nI (6 + j8))] 2 rfl (c_X8_of (l := l) (G := G) (tC := tC) (ad := ad) (N := N) (E := zE1) (q := q) (co := co) (pm := pm) (em := em) (th := nI 0) (se := se) (s := s) (k := j9) (w := 6 + j8) (by omega) zh1_0 zk1_0 (by first | assumption | omega)) gX8_link_X8_of rfl ⟨rfl, rfl⟩ (by decide +kernel) ⟨Nat.le_of_ble_eq_true rfl, Nat.le_of_ble_eq_true rfl⟩ (rest := []) rfl (Nat.le_of_ble_eq_true rfl) dX8_link_34 ⟨Nat.zero_le _, Nat.zero_le _⟩ (fun zr4 zE4 zH4 zL4 zp4 zw4 => ?_)
      obtain ⟨ze4, zq4⟩ := zp4
      rw [ze4] at zw4
      clear ze4
      rw [zq4]
      refine lv_goto (tgt := 42) hx hb dX8_link_37 (by decide) ?_
      exact r_iret C zw4 dX8_link_42 ⟨zh1_0, (fun j zm0 => zfr1 j zm0), (by rw [a_link, if_pos zc10, if_pos zc25, nI_clamp (by omega), nI_clamp (by omega)])⟩
  · refine lv_ldc (v := -1000000001) hx hb hown (hts (.constant RX8 156 (-1000000001)) (by decide +kernel)) dX8_link_13 ?_
    exact r_iret C zw2 dX8_link_15 ⟨zh1_0, (fun j zm0 => zfr1 j zm0), (by rw [a_link, if_neg zc10])⟩

set_option maxHeartbeats 4000000 in
set_option maxRecDepth 100000 in
theorem c_X8_find {l : Launch} {G : vG} {tC : Nat} {ad : Nat → Nat} {N : Nat} {E : Nat → va_E} {q co pm em : Nat} {th : Int32} {se : Int64} {pg : Nat} {s : Nat → Int32} {b n p9 : Int32} (hN0 : q + 13 ≤ N) (hE0 : E q = .inr (5, [.int th, .ref (ad (q + 1)), .long se, .ref (ad (q + 2)), .ref (ad (q + 3)), .int (nI co), .ref (ad (q + 4)), .int (nI pm), .ref (ad (q + 5)), .ref (ad (q + 6)), .ref (ad (q + 7)), .ref (ad (q + 8)), .int (nI em), .ref (ad (q + 9)), .ref (ad (q + 10)), .ref (ad (q + 11)), .ref (ad (q + 12))])) (hE1 : E (q + 1) = eI G 508 s) (hs0 : s 0 = nI pg) (hpg : pg ≤ 10) : MI l yX8_find wsX8_find ({ frames := 3, cells := 0, slots := 0, locals := 66 } : Room) G tC ad N E [.ref (ad q), .int b, .int n, .int p9] (fun r E2 => E2 q = .inr (5, [.int (nI 0), .ref (ad (q + 1)), .long se, .ref (ad (q + 2)), .ref (ad (q + 3)), .int (nI co), .ref (ad (q + 4)), .int (nI pm), .ref (ad (q + 5)), .ref (ad (q + 6)), .ref (ad (q + 7)), .ref (ad (q + 8)), .int (nI em), .ref (ad (q + 9)), .ref (ad (q + 10)), .ref (ad (q + 11)), .ref (ad (q + 12))]) ∧ (∀ j, j ≠ q → E2 j = E j) ∧ r = a_find s pg b n p9) := by
  refine MI_of RX8 rfl (by decide) rfl (Nat.le_of_ble_eq_true rfl) ?_
  intro pp_ ee_ ss_ mm_ aa_ bb_ me_ cc_ A ls C hw hl
  have hx := C.1
  have hb := C.2.1
  have hown := C.2.2.2.2.1
  have hts := C.2.2.2.2.2.1
  have hl : lv_has ls 4 [(0, .ref (ad q)), (1, .int b), (2, .int n), (3, .int p9)] := hl
  have hinX8 : ∀ w ∈ u_ws RX8 TX8 17, w ∈ wsX8_find := by decide +kernel
  refine lv_aload_n hx hb dX8_find_0 rfl (lv_at hl 0 rfl) ?_
  refine lv_iconst (v := nI 0) hx hb dX8_find_1 rfl ?_
  refine r_put C hw RX8 TX8 17 5 hinX8 tyX8 tyX8_ok nmX8 (i := q) (by omega) hE0 rfl 0 (by decide) (by decide +kernel) rfl rfl (v := .int (nI 0)) rfl rfl (Nat.le_of_ble_eq_true rfl) dX8_find_2 (fun zE1 zH1 zL1 zg1 zf1 zw1 => ?_)
  have zh1_0 : zE1 q = .inr (5, [.int (nI 0), .ref (ad (q + 1)), .long se, .ref (ad (q + 2)), .ref (ad (q + 3)), .int (nI co), .ref (ad (q + 4)), .int (nI pm), .ref (ad (q + 5)), .ref (ad (q + 6)), .ref (ad (q + 7)), .ref (ad (q + 8)), .int (nI em), .ref (ad (q + 9)), .ref (ad (q + 10)), .ref (ad (q + 11)), .ref (ad (q + 12))]) := zg1
  have zk1_0 : zE1 (q + 1) = eI G 508 s := (zf1 _ (by omega)).trans hE1
  have zfr1 : ∀ j, j ≠ q → zE1 j = E j := fun j zm0 => zf1 j zm0
  refine lv_aload_n hx hb dX8_find_5 rfl (lv_at hl 0 rfl) ?_
  refine lv_iload_n hx hb dX8_find_6 rfl (lv_at hl 1 rfl) ?_
  refine lv_iload_n hx hb dX8_find_7 rfl (lv_at hl 2 rfl) ?_
  refine lv_iload_n hx hb dX8_find_8 rfl (lv_at hl 3 rfl) ?_
  refine r_vI C zw1 hl.1 (i := q) (by omega) zh1_0 (T := TX8) (n := 17) rfl [.int b, .int n, .int p9] 3 rfl (c_X8_pageOf (l := l) (G := G) (tC := tC) (ad := ad) (N := N) (E := zE1) (q := q) (co := co) (pm := pm) (em := em) (th := nI 0) (se := se) (pg := pg) (s := s) (b := b) (n := n) (p9 := p9) (by omega) zh1_0 zk1_0 (by first | assumption | omega) (by first | assumption | omega)) gX8_find_X8_pageOf rfl ⟨rfl, rfl⟩ (by decide +kernel) ⟨Nat.le_of_ble_eq_true rfl, Nat.le_of_ble_eq_true rfl⟩ (rest := []) rfl (Nat.le_of_ble_eq_true rfl) dX8_find_9 ⟨Nat.zero_le _, Nat.zero_le _⟩ (fun zr2 zE2 zH2 zL2 zp2 zw2 => ?_)
  obtain ⟨ze2, zq2⟩ := zp2
  rw [ze2] at zw2
  clear ze2
  rw [zq2]
  exact r_iret C zw2 dX8_find_12 ⟨zh1_0, (fun j zm0 => zfr1 j zm0), (by rfl)⟩

set_option maxHeartbeats 4000000 in
set_option maxRecDepth 100000 in
theorem c_X8_far {l : Launch} {G : vG} {tC : Nat} {ad : Nat → Nat} {N : Nat} {E : Nat → va_E} {q co pm em : Nat} {th : Int32} {se : Int64} {pg : Nat} {s : Nat → Int32} {k o : Int32} (hN0 : q + 13 ≤ N) (hE0 : E q = .inr (5, [.int th, .ref (ad (q + 1)), .long se, .ref (ad (q + 2)), .ref (ad (q + 3)), .int (nI co), .ref (ad (q + 4)), .int (nI pm), .ref (ad (q + 5)), .ref (ad (q + 6)), .ref (ad (q + 7)), .ref (ad (q + 8)), .int (nI em), .ref (ad (q + 9)), .ref (ad (q + 10)), .ref (ad (q + 11)), .ref (ad (q + 12))])) (hE1 : E (q + 1) = eI G 508 s) (hs0 : s 0 = nI pg) (hpg : pg ≤ 10) : MI l yX8_far wsX8_far ({ frames := 3, cells := 0, slots := 0, locals := 66 } : Room) G tC ad N E [.ref (ad q), .int k, .int o] (fun r E2 => E2 q = .inr (5, [.int (nI 0), .ref (ad (q + 1)), .long se, .ref (ad (q + 2)), .ref (ad (q + 3)), .int (nI co), .ref (ad (q + 4)), .int (nI pm), .ref (ad (q + 5)), .ref (ad (q + 6)), .ref (ad (q + 7)), .ref (ad (q + 8)), .int (nI em), .ref (ad (q + 9)), .ref (ad (q + 10)), .ref (ad (q + 11)), .ref (ad (q + 12))]) ∧ (∀ j, j ≠ q → E2 j = E j) ∧ r = a_far s pg k o) := by
  refine MI_of RX8 rfl (by decide) rfl (Nat.le_of_ble_eq_true rfl) ?_
  intro pp_ ee_ ss_ mm_ aa_ bb_ me_ cc_ A ls C hw hl
  have hx := C.1
  have hb := C.2.1
  have hown := C.2.2.2.2.1
  have hts := C.2.2.2.2.2.1
  have hl : lv_has ls 7 [(0, .ref (ad q)), (1, .int k), (2, .int o)] := hl
  have hinX8 : ∀ w ∈ u_ws RX8 TX8 17, w ∈ wsX8_far := by decide +kernel
  refine lv_aload_n hx hb dX8_far_0 rfl (lv_at hl 0 rfl) ?_
  refine lv_iconst (v := nI 0) hx hb dX8_far_1 rfl ?_
  refine r_put C hw RX8 TX8 17 5 hinX8 tyX8 tyX8_ok nmX8 (i := q) (by omega) hE0 rfl 0 (by decide) (by decide +kernel) rfl rfl (v := .int (nI 0)) rfl rfl (Nat.le_of_ble_eq_true rfl) dX8_far_2 (fun zE1 zH1 zL1 zg1 zf1 zw1 => ?_)
  have zh1_0 : zE1 q = .inr (5, [.int (nI 0), .ref (ad (q + 1)), .long se, .ref (ad (q + 2)), .ref (ad (q + 3)), .int (nI co), .ref (ad (q + 4)), .int (nI pm), .ref (ad (q + 5)), .ref (ad (q + 6)), .ref (ad (q + 7)), .ref (ad (q + 8)), .int (nI em), .ref (ad (q + 9)), .ref (ad (q + 10)), .ref (ad (q + 11)), .ref (ad (q + 12))]) := zg1
  have zk1_0 : zE1 (q + 1) = eI G 508 s := (zf1 _ (by omega)).trans hE1
  have zfr1 : ∀ j, j ≠ q → zE1 j = E j := fun j zm0 => zf1 j zm0
  refine lv_aload_n hx hb dX8_far_5 rfl (lv_at hl 0 rfl) ?_
  refine lv_iload_n hx hb dX8_far_6 rfl (lv_at hl 1 rfl) ?_
  refine r_vI C zw1 hl.1 (i := q) (by omega) zh1_0 (T := TX8) (n := 17) rfl [.int k] 1 rfl (c_X8_isPage (l := l) (G := G) (tC := tC) (ad := ad) (N := N) (E := zE1) (q := q) (co := co) (pm := pm) (em := em) (th := nI 0) (se := se) (pg := pg) (s := s) (k := k) (by omega) zh1_0 zk1_0 (by first | assumption | omega) (by first | assumption | omega)) gX8_far_X8_isPage rfl ⟨rfl, rfl⟩ (by decide +kernel) ⟨Nat.le_of_ble_eq_true rfl, Nat.le_of_ble_eq_true rfl⟩ (rest := []) rfl (Nat.le_of_ble_eq_true rfl) dX8_far_7 ⟨Nat.zero_le _, Nat.zero_le _⟩ (fun zr2 zE2 zH2 zL2 zp2 zw2 => ?_)
  obtain ⟨ze2, zq2⟩ := zp2
  rw [ze2] at zw2
  clear ze2
  rw [zq2]
  refine b_if_eq (tgt := 21) hx hb dX8_far_10 (by decide) (fun zc10 => ?_) (fun zc10 => ?_)
  · refine lv_ldc (v := -1000000001) hx hb hown (hts (.constant RX8 156 (-1000000001)) (by decide +kernel)) dX8_far_21 ?_
    exact r_iret C zw2 dX8_far_23 ⟨zh1_0, (fun j zm0 => zfr1 j zm0), (by rw [a_far, if_neg (by first | exact fun zq => zc18 zq.2 | exact fun zq => zc10 zq.1)])⟩
  · obtain ⟨j9, zj9, rfl⟩ := has_of zc10
    refine lv_aload_n hx hb dX8_far_13 rfl (lv_at hl 0 rfl) ?_
    refine lv_iload_n hx hb dX8_far_14 rfl (lv_at hl 2 rfl) ?_
    refine r_vI C zw2 hl.1 (i := q) (by omega) zh1_0 (T := TX8) (n := 17) rfl [.int o] 1 rfl (c_X8_isPage (l := l) (G := G) (tC := tC) (ad := ad) (N := N) (E := zE1) (q := q) (co := co) (pm := pm) (em := em) (th := nI 0) (se := se) (pg := pg) (s := s) (k := o) (by omega) zh1_0 zk1_0 (by first | assumption | omega) (by first | assumption | omega)) gX8_far_X8_isPage rfl ⟨rfl, rfl⟩ (by decide +kernel) ⟨Nat.le_of_ble_eq_true rfl, Nat.le_of_ble_eq_true rfl⟩ (rest := []) rfl (Nat.le_of_ble_eq_true rfl) dX8_far_15 ⟨Nat.zero_le _, Nat.zero_le _⟩ (fun zr3 zE3 zH3 zL3 zp3 zw3 => ?_)
    obtain ⟨ze3, zq3⟩ := zp3
    rw [ze3] at zw3
    clear ze3
    rw [zq3]
    refine b_if_ne (tgt := 24) hx hb dX8_far_18 (by decide) (fun zc18 => ?_) (fun zc18 => ?_)
    · obtain ⟨j8, zj8, rfl⟩ := has_of zc18
      refine lv_iconst (v := nI 1) hx hb dX8_far_24 rfl ?_
      refine lv_iload_n hx hb dX8_far_25 rfl (lv_at hl 1 rfl) ?_
      refine lv_ishl hx hb dX8_far_26 ?_
      refine lv_istore_n (lv' := [(3, .int ((nI 1) <<< (nI j9 &&& 31))), (0, .ref (ad q)), (1, .int (nI j9)), (2, .int (nI j8))]) hx hb dX8_far_27 rfl hl (by decide) rfl (fun ls hl => ?_)
      refine lv_iconst (v := nI 0) hx hb dX8_far_28 rfl ?_
      refine lv_istore (lv' := [(4, .int (nI 0)), (3, .int ((nI 1) <<< (nI j9 &&& 31))), (0, .ref (ad q)), (1, .int (nI j9)), (2, .int (nI j8))]) hx hb dX8_far_29 hl (by decide) rfl (fun ls hl => ?_)
      have zlp31 : ∀ (zn : Nat) (f : Nat) (st : Int32), 10 - f < zn → (f ≤ 10) → (frS s pg j8 (10 - f) f st = frS s pg j8 10 0 (bitI j9)) → ∀ (E9 : Nat → va_E) (H9 : Heap) (L9 : List Loc), E9 (q + 1) = eI G 508 s → E9 q = .inr (5, [.int (nI 0), .ref (ad (q + 1)), .long se, .ref (ad (q + 2)), .ref (ad (q + 3)), .int (nI co), .ref (ad (q + 4)), .int (nI pm), .ref (ad (q + 5)), .ref (ad (q + 6)), .ref (ad (q + 7)), .ref (ad (q + 8)), .int (nI em), .ref (ad (q + 9)), .ref (ad (q + 10)), .ref (ad (q + 11)), .ref (ad (q + 12))]) → (∀ j, j ≠ q → E9 j = E j) → Wd G A ss_.heap H9 L9 ad E9 N → ∀ (ls : Array Slot), lv_has ls 7 [(0, .ref (ad q)), (1, .int (nI j9)), (2, .int (nI j8)), (3, .int st), (4, .int (nI f))] → W pp_ l ee_ ({ frames := 3, cells := 0, slots := 0, locals := 66 } : Room) ss_ mm_ aa_ bb_ me_ cc_ H9 L9 0 0 (QI bb_ aa_ ss_ G ad N A (fun r E2 => E2 q = .inr (5, [.int (nI 0), .ref (ad (q + 1)), .long se, .ref (ad (q + 2)), .ref (ad (q + 3)), .int (nI co), .ref (ad (q + 4)), .int (nI pm), .ref (ad (q + 5)), .ref (ad (q + 6)), .ref (ad (q + 7)), .ref (ad (q + 8)), .int (nI em), .ref (ad (q + 9)), .ref (ad (q + 10)), .ref (ad (q + 11)), .ref (ad (q + 12))]) ∧ (∀ j, j ≠ q → E2 j = E j) ∧ r = a_far s pg (nI j9) (nI j8))) (F0 mm_ 31 ls []) := by
        intro zn
        induction zn with
        | zero => intro f st zhm; exact absurd zhm (Nat.not_lt_zero _)
        | succ zn zih31 =>
          intro f st zhm31 hf hst zE_31 zH_31 zL_31 zl31_0 zl31_1 zlf31  zlw31 ls hl
          refine lv_iload hx hb dX8_far_31 (lv_at hl 4 rfl) ?_
          refine lv_bipush (v := nI 10) hx hb dX8_far_33 rfl ?_
          refine n_icmp_ge (tgt := 107) hx hb dX8_far_35 (by decide) (by omega) (by omega) (fun zc35 => ?_) (fun zc35 => ?_)
          · refine lv_iconst (v := -1) hx hb dX8_far_107 (by decide) ?_
            exact r_iret C zlw31 dX8_far_108 ⟨zl31_1, (fun j zm0 => zlf31 j zm0), (by rw [a_far, if_pos ⟨zc10, zc18⟩, nI_clamp (by omega), nI_clamp (by omega), ← hst, show 10 - f = 0 by omega]; rfl)⟩
          · refine lv_iload_n hx hb dX8_far_38 rfl (lv_at hl 3 rfl) ?_
            refine lv_iload_n hx hb dX8_far_39 rfl (lv_at hl 2 rfl) ?_
            refine lv_ishr hx hb dX8_far_40 ?_
            refine lv_iconst (v := nI 1) hx hb dX8_far_41 rfl ?_
            refine lv_iand hx hb dX8_far_42 ?_
            refine lv_iconst (v := nI 1) hx hb dX8_far_43 rfl ?_
            refine lv_icmp_ne (tgt := 50) hx hb dX8_far_44 (by decide) (fun zc44 => ?_) (fun zc44 => ?_)
            · refine lv_iload_n hx hb dX8_far_50 rfl (lv_at hl 3 rfl) ?_
              refine lv_istore (lv' := [(5, .int st), (0, .ref (ad q)), (1, .int (nI j9)), (2, .int (nI j8)), (3, .int st), (4, .int (nI f))]) hx hb dX8_far_51 hl (by decide) rfl (fun ls hl => ?_)
              refine lv_iconst (v := nI 0) hx hb dX8_far_53 rfl ?_
              refine lv_istore (lv' := [(6, .int (nI 0)), (5, .int st), (0, .ref (ad q)), (1, .int (nI j9)), (2, .int (nI j8)), (3, .int st), (4, .int (nI f))]) hx hb dX8_far_54 hl (by decide) rfl (fun ls hl => ?_)
              have zlp56 : ∀ (zn : Nat) (e : Nat) (mo : Int32), pg - e < zn → (e ≤ pg) → (mo = frM s pg st st e) → ∀ (E9 : Nat → va_E) (H9 : Heap) (L9 : List Loc), E9 (q + 1) = eI G 508 s → E9 q = .inr (5, [.int (nI 0), .ref (ad (q + 1)), .long se, .ref (ad (q + 2)), .ref (ad (q + 3)), .int (nI co), .ref (ad (q + 4)), .int (nI pm), .ref (ad (q + 5)), .ref (ad (q + 6)), .ref (ad (q + 7)), .ref (ad (q + 8)), .int (nI em), .ref (ad (q + 9)), .ref (ad (q + 10)), .ref (ad (q + 11)), .ref (ad (q + 12))]) → (∀ j, j ≠ q → E9 j = E j) → Wd G A ss_.heap H9 L9 ad E9 N → ∀ (ls : Array Slot), lv_has ls 7 [(0, .ref (ad q)), (1, .int (nI j9)), (2, .int (nI j8)), (3, .int st), (4, .int (nI f)), (5, .int mo), (6, .int (nI e))] → W pp_ l ee_ ({ frames := 3, cells := 0, slots := 0, locals := 66 } : Room) ss_ mm_ aa_ bb_ me_ cc_ H9 L9 0 0 (QI bb_ aa_ ss_ G ad N A (fun r E2 => E2 q = .inr (5, [.int (nI 0), .ref (ad (q + 1)), .long se, .ref (ad (q + 2)), .ref (ad (q + 3)), .int (nI co), .ref (ad (q + 4)), .int (nI pm), .ref (ad (q + 5)), .ref (ad (q + 6)), .ref (ad (q + 7)), .ref (ad (q + 8)), .int (nI em), .ref (ad (q + 9)), .ref (ad (q + 10)), .ref (ad (q + 11)), .ref (ad (q + 12))]) ∧ (∀ j, j ≠ q → E2 j = E j) ∧ r = a_far s pg (nI j9) (nI j8))) (F0 mm_ 56 ls []) := by
                intro zn
                induction zn with
                | zero => intro e mo zhm; exact absurd zhm (Nat.not_lt_zero _)
                | succ zn zih56 =>
                  intro e mo zhm56 he hmo zE_56 zH_56 zL_56 zl56_0 zl56_1 zlf56  zlw56 ls hl
                  refine lv_iload hx hb dX8_far_56 (lv_at hl 6 rfl) ?_
                  refine lv_aload_n hx hb dX8_far_58 rfl (lv_at hl 0 rfl) ?_
                  refine r_get C zlw56 RX8 TX8 17 5 hinX8 (i := q) (by omega) zl56_1 rfl 1 (by decide) (by decide +kernel) rfl (v := .ref (ad (q + 1))) rfl dX8_far_59 ?_
                  refine lv_iconst (v := nI 0) hx hb dX8_far_62 rfl ?_
                  refine r_iaN C zlw56 (i := (q + 1)) (by omega) zl56_0 (j := 0) (by omega) (by omega) dX8_far_63 ?_
                  refine r_nat pg hs0 ?_
                  refine n_icmp_ge (tgt := 98) hx hb dX8_far_64 (by decide) (by omega) (by omega) (fun zc64 => ?_) (fun zc64 => ?_)
                  · refine lv_iload hx hb dX8_far_98 (lv_at hl 5 rfl) ?_
                    refine lv_istore_n (lv' := [(3, .int mo), (0, .ref (ad q)), (1, .int (nI j9)), (2, .int (nI j8)), (4, .int (nI f)), (5, .int mo), (6, .int (nI e))]) hx hb dX8_far_100 rfl hl (by decide) rfl (fun ls hl => ?_)
                    refine lv_iinc (v := nI (f + 1)) (lv' := [(4, .int (nI (f + 1))), (3, .int mo), (0, .ref (ad q)), (1, .int (nI j9)), (2, .int (nI j8)), (5, .int mo), (6, .int (nI e))]) hx hb dX8_far_101 hl (k := 4) rfl (by rw [show Int32.ofInt 1 = nI 1 from rfl, nI_add]) (by decide) rfl (fun ls hl => ?_)
                    refine lv_goto (tgt := 31) hx hb dX8_far_104 (by decide) ?_
                    exact zih31 (f + 1) mo (by omega) (by omega) (by rw [← hst, show 10 - f = (10 - (f + 1)) + 1 by omega, frS, if_neg zc44, hmo, show e = pg by omega]) _ _ _ zl56_0 zl56_1 (fun j zm0 => zlf56 j zm0) zlw56 _ (lv_sub hl [2, 3, 4, 1, 0] rfl)
                  · refine lv_iload hx hb dX8_far_67 (lv_at hl 5 rfl) ?_
                    refine lv_iload_n hx hb dX8_far_69 rfl (lv_at hl 3 rfl) ?_
                    refine lv_iload hx hb dX8_far_70 (lv_at hl 6 rfl) ?_
                    refine lv_ishr hx hb dX8_far_72 ?_
                    refine lv_iconst (v := nI 1) hx hb dX8_far_73 rfl ?_
                    refine lv_iand hx hb dX8_far_74 ?_
                    refine lv_iconst (v := nI 1) hx hb dX8_far_75 rfl ?_
                    refine lv_icmp_ne (tgt := 88) hx hb dX8_far_76 (by decide) (fun zc76 => ?_) (fun zc76 => ?_)
                    · refine lv_iconst (v := nI 0) hx hb dX8_far_88 rfl ?_
                      refine lv_ior hx hb dX8_far_89 ?_
                      refine lv_istore (lv' := [(5, .int (mo ||| (nI 0))), (0, .ref (ad q)), (1, .int (nI j9)), (2, .int (nI j8)), (3, .int st), (4, .int (nI f)), (6, .int (nI e))]) hx hb dX8_far_90 hl (by decide) rfl (fun ls hl => ?_)
                      refine lv_iinc (v := nI (e + 1)) (lv' := [(6, .int (nI (e + 1))), (5, .int (mo ||| (nI 0))), (0, .ref (ad q)), (1, .int (nI j9)), (2, .int (nI j8)), (3, .int st), (4, .int (nI f))]) hx hb dX8_far_92 hl (k := 6) rfl (by rw [show Int32.ofInt 1 = nI 1 from rfl, nI_add]) (by decide) rfl (fun ls hl => ?_)
                      refine lv_goto (tgt := 56) hx hb dX8_far_95 (by decide) ?_
                      exact zih56 (e + 1) (mo ||| (nI 0)) (by omega) (by omega) (by rw [hmo, frM]; first | rw [if_pos zc76] | rw [if_neg zc76]) _ _ _ zl56_0 zl56_1 (fun j zm0 => zlf56 j zm0) zlw56 _ (lv_sub hl [2, 3, 4, 5, 6, 1, 0] rfl)
                    · refine lv_aload_n hx hb dX8_far_79 rfl (lv_at hl 0 rfl) ?_
                      refine lv_iload hx hb dX8_far_80 (lv_at hl 6 rfl) ?_
                      refine r_vI C zlw56 hl.1 (i := q) (by omega) zl56_1 (T := TX8) (n := 17) rfl [.int (nI e)] 1 rfl (c_X8_linked (l := l) (G := G) (tC := tC) (ad := ad) (N := N) (E := zE_56) (q := q) (co := co) (pm := pm) (em := em) (th := nI 0) (se := se) (pg := pg) (s := s) (k := e) (by omega) zl56_1 zl56_0 (by first | assumption | omega) (by first | assumption | omega) (by first | assumption | omega)) gX8_far_X8_linked rfl ⟨rfl, rfl⟩ (by decide +kernel) ⟨Nat.le_of_ble_eq_true rfl, Nat.le_of_ble_eq_true rfl⟩ (rest := [.int mo]) rfl (Nat.le_of_ble_eq_true rfl) dX8_far_82 ⟨Nat.zero_le _, Nat.zero_le _⟩ (fun zr4 zE4 zH4 zL4 zp4 zw4 => ?_)
                      obtain ⟨ze4, zq4⟩ := zp4
                      rw [ze4] at zw4
                      clear ze4
                      rw [zq4]
                      refine lv_goto (tgt := 89) hx hb dX8_far_85 (by decide) ?_
                      refine lv_ior hx hb dX8_far_89 ?_
                      refine lv_istore (lv' := [(5, .int (mo ||| (lkd s e pg))), (0, .ref (ad q)), (1, .int (nI j9)), (2, .int (nI j8)), (3, .int st), (4, .int (nI f)), (6, .int (nI e))]) hx hb dX8_far_90 hl (by decide) rfl (fun ls hl => ?_)
                      refine lv_iinc (v := nI (e + 1)) (lv' := [(6, .int (nI (e + 1))), (5, .int (mo ||| (lkd s e pg))), (0, .ref (ad q)), (1, .int (nI j9)), (2, .int (nI j8)), (3, .int st), (4, .int (nI f))]) hx hb dX8_far_92 hl (k := 6) rfl (by rw [show Int32.ofInt 1 = nI 1 from rfl, nI_add]) (by decide) rfl (fun ls hl => ?_)
                      refine lv_goto (tgt := 56) hx hb dX8_far_95 (by decide) ?_
                      exact zih56 (e + 1) (mo ||| (lkd s e pg)) (by omega) (by omega) (by rw [hmo, frM]; first | rw [if_pos zc76] | rw [if_neg zc76]) _ _ _ zl56_0 zl56_1 (fun j zm0 => zlf56 j zm0) zw4 _ (lv_sub hl [2, 3, 4, 5, 6, 1, 0] rfl)
              exact zlp56 _ 0 st (Nat.lt_succ_self _) (by omega) (by rfl) _ _ _ zl31_0 zl31_1 (fun j zm0 => zlf31 j zm0) zlw31 _ (lv_sub hl [2, 3, 4, 5, 6, 1, 0] rfl)
            · refine lv_iload hx hb dX8_far_47 (lv_at hl 4 rfl) ?_
              exact r_iret C zlw31 dX8_far_49 ⟨zl31_1, (fun j zm0 => zlf31 j zm0), (by rw [a_far, if_pos ⟨zc10, zc18⟩, nI_clamp (by omega), nI_clamp (by omega), ← hst, show 10 - f = (10 - (f + 1)) + 1 by omega, frS, if_pos zc44])⟩
      exact zlp31 _ 0 ((nI 1) <<< (nI j9 &&& 31)) (Nat.lt_succ_self _) (by omega) (by rfl) _ _ _ zk1_0 zh1_0 (fun j zm0 => zfr1 j zm0) zw3 _ (lv_sub hl [2, 3, 4, 1, 0] rfl)
    · refine lv_ldc (v := -1000000001) hx hb hown (hts (.constant RX8 156 (-1000000001)) (by decide +kernel)) dX8_far_21 ?_
      exact r_iret C zw3 dX8_far_23 ⟨zh1_0, (fun j zm0 => zfr1 j zm0), (by rw [a_far, if_neg (by first | exact fun zq => zc18 zq.2 | exact fun zq => zc10 zq.1)])⟩

