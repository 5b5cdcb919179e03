set_option maxHeartbeats 4000000 in
set_option maxRecDepth 100000 in
theorem c_X7_coded {l : Launch} {G : vG} {tC : Nat} {ad : Nat → Nat} {N : Nat} {E : Nat → va_E} {o : Nat} {v : Int32} (hN0 : o + 75 ≤ N) : MI l yX7_coded wsX7_coded ({ frames := 1, cells := 0, slots := 0, locals := 22 } : Room) G tC ad N E [.ref (ad o), .int v] (fun r E2 => E2 = E ∧ r = a_coded v) := by
  refine MI_of RX7 rfl (by decide) rfl (Nat.le_of_ble_eq_true rfl) ?_
  intro pp_ ee_ ss_ mm_ aa_ bb_ me_ cc_ A ls C hw hl
  have hx := C.1
  have hb := C.2.1
  have hown := C.2.2.2.2.1
  have hts := C.2.2.2.2.2.1
  have hl : lv_has ls 2 [(0, .ref (ad o)), (1, .int v)] := hl
  refine lv_iload_n hx hb dX7_coded_0 rfl (lv_at hl 1 rfl) ?_
  refine lv_iconst (v := nI 0) hx hb dX7_coded_1 rfl ?_
  refine lv_bipush (v := nI 15) hx hb dX7_coded_2 rfl ?_
  refine r_sI C hw hl.1 [.int v, .int (nI 0), .int (nI 15)] 3 rfl (c_X7_isWithin (l := l) (G := G) (tC := tC) (ad := ad) (N := N) (E := E) (x := v) (a := nI 0) (b := nI 15)   ) gX7_coded_X7_isWithin rfl ⟨rfl, rfl⟩ (by decide +kernel) ⟨Nat.le_of_ble_eq_true rfl, Nat.le_of_ble_eq_true rfl⟩ (rest := []) rfl (Nat.le_of_ble_eq_true rfl) dX7_coded_4 ⟨Nat.zero_le _, Nat.zero_le _⟩ (fun zr1 zE1 zH1 zL1 zp1 zw1 => ?_)
  obtain ⟨ze1, zq1⟩ := zp1
  rw [ze1] at zw1
  clear ze1
  rw [zq1]
  refine b_if_eq (tgt := 17) hx hb dX7_coded_7 (by decide) (fun zc7 => ?_) (fun zc7 => ?_)
  · refine lv_ldc (v := -1000000002) hx hb hown (hts (.constant RX7 62 (-1000000002)) (by decide +kernel)) dX7_coded_17 ?_
    exact r_iret C zw1 dX7_coded_19 ⟨rfl, (by rw [a_coded, if_neg zc7])⟩
  · obtain ⟨j9, zj9, rfl⟩ := in_of (by omega) zc7
    refine lv_iload_n hx hb dX7_coded_10 rfl (lv_at hl 1 rfl) ?_
    refine r_sI C zw1 hl.1 [.int (nI j9)] 1 rfl (c_X1_encode (l := l) (G := G) (tC := tC) (ad := ad) (N := N) (E := E) (v := j9)   (by first | assumption | omega)) gX7_coded_X1_encode rfl ⟨rfl, rfl⟩ (by decide +kernel) ⟨Nat.le_of_ble_eq_true rfl, Nat.le_of_ble_eq_true rfl⟩ (rest := []) rfl (Nat.le_of_ble_eq_true rfl) dX7_coded_11 ⟨Nat.zero_le _, Nat.zero_le _⟩ (fun zr2 zE2 zH2 zL2 zp2 zw2 => ?_)
    obtain ⟨ze2, zq2⟩ := zp2
    rw [ze2] at zw2
    clear ze2
    rw [zq2]
    refine r_nat (codeN j9) (codeT_nI _ (by omega)) ?_
    refine lv_goto (tgt := 19) hx hb dX7_coded_14 (by decide) ?_
    exact r_iret C zw2 dX7_coded_19 ⟨rfl, (by rw [a_coded, if_pos zc7, nI_clamp (by omega)])⟩

set_option maxHeartbeats 4000000 in
set_option maxRecDepth 100000 in
theorem c_X7_read {l : Launch} {G : vG} {tC : Nat} {ad : Nat → Nat} {N : Nat} {E : Nat → va_E} {o : Nat} {v : Int32} (hN0 : o + 75 ≤ N) : MI l yX7_read wsX7_read ({ frames := 2, cells := 0, slots := 0, locals := 41 } : Room) G tC ad N E [.ref (ad o), .int v] (fun r E2 => E2 = E ∧ r = a_read v) := by
  refine MI_of RX7 rfl (by decide) rfl (Nat.le_of_ble_eq_true rfl) ?_
  intro pp_ ee_ ss_ mm_ aa_ bb_ me_ cc_ A ls C hw hl
  have hx := C.1
  have hb := C.2.1
  have hown := C.2.2.2.2.1
  have hts := C.2.2.2.2.2.1
  have hl : lv_has ls 2 [(0, .ref (ad o)), (1, .int v)] := hl
  refine lv_iload_n hx hb dX7_read_0 rfl (lv_at hl 1 rfl) ?_
  refine lv_iconst (v := nI 0) hx hb dX7_read_1 rfl ?_
  refine lv_sipush (v := nI 255) hx hb dX7_read_2 rfl ?_
  refine r_sI C hw hl.1 [.int v, .int (nI 0), .int (nI 255)] 3 rfl (c_X7_isWithin (l := l) (G := G) (tC := tC) (ad := ad) (N := N) (E := E) (x := v) (a := nI 0) (b := nI 255)   ) gX7_read_X7_isWithin rfl ⟨rfl, rfl⟩ (by decide +kernel) ⟨Nat.le_of_ble_eq_true rfl, Nat.le_of_ble_eq_true rfl⟩ (rest := []) rfl (Nat.le_of_ble_eq_true rfl) dX7_read_5 ⟨Nat.zero_le _, Nat.zero_le _⟩ (fun zr1 zE1 zH1 zL1 zp1 zw1 => ?_)
  obtain ⟨ze1, zq1⟩ := zp1
  rw [ze1] at zw1
  clear ze1
  rw [zq1]
  refine b_if_eq (tgt := 18) hx hb dX7_read_8 (by decide) (fun zc8 => ?_) (fun zc8 => ?_)
  · refine lv_ldc (v := -1000000002) hx hb hown (hts (.constant RX7 62 (-1000000002)) (by decide +kernel)) dX7_read_18 ?_
    exact r_iret C zw1 dX7_read_20 ⟨rfl, (by rw [a_read, if_neg zc8])⟩
  · obtain ⟨j9, zj9, rfl⟩ := in_of (by omega) zc8
    refine lv_iload_n hx hb dX7_read_11 rfl (lv_at hl 1 rfl) ?_
    refine r_sI C zw1 hl.1 [.int (nI j9)] 1 rfl (c_X1_decode (l := l) (G := G) (tC := tC) (ad := ad) (N := N) (E := E) (o := j9)   (by first | assumption | omega)) gX7_read_X1_decode rfl ⟨rfl, rfl⟩ (by decide +kernel) ⟨Nat.le_of_ble_eq_true rfl, Nat.le_of_ble_eq_true rfl⟩ (rest := []) rfl (Nat.le_of_ble_eq_true rfl) dX7_read_12 ⟨Nat.zero_le _, Nat.zero_le _⟩ (fun zr2 zE2 zH2 zL2 zp2 zw2 => ?_)
    obtain ⟨ze2, zq2⟩ := zp2
    rw [ze2] at zw2
    clear ze2
    rw [zq2]
    refine lv_goto (tgt := 20) hx hb dX7_read_15 (by decide) ?_
    exact r_iret C zw2 dX7_read_20 ⟨rfl, (by rw [a_read, if_pos zc8, nI_clamp (by omega)])⟩

set_option maxHeartbeats 4000000 in
set_option maxRecDepth 100000 in
theorem c_X7_open {l : Launch} {G : vG} {tC : Nat} {ad : Nat → Nat} {N : Nat} {E : Nat → va_E} {o co pg cm hd : Nat} {lst md sd : Int32} {cs op : Nat → Int32} {s : Nat → Int32} {b : Int32} (hN0 : o + 75 ≤ N) (hE0 : E o = .inr (4, [.ref (ad (o + 1)), .ref (ad (o + 4)), .ref (ad (o + 54)), .ref (ad (o + 61)), .ref (ad (o + 62)), .ref (ad (o + 67)), .ref (ad (o + 73)), .ref (ad (o + 74)), .int (nI co)])) (hE1 : E (o + 1) = .inr (2, [.ref (ad (o + 2)), .ref (ad (o + 3)), .int (nI pg), .int (nI cm), .int lst, .int md, .int sd, .int (nI hd)])) (hE2 : E (o + 2) = eI G 500 cs) (hE3 : E (o + 3) = eI G 4 op) (hrep : RepS s cs op pg cm hd lst md (cm + 1)) : MI l yX7_open wsX7_open ({ frames := 1, cells := 0, slots := 0, locals := 22 } : Room) G tC ad N E [.ref (ad o), .int b] (fun r E2 => E2 = E ∧ r = a_open s b) := by
  refine MI_of RX7 rfl (by decide) rfl (Nat.le_of_ble_eq_true rfl) ?_
  intro pp_ ee_ ss_ mm_ aa_ bb_ me_ cc_ A ls C hw hl
  have hx := C.1
  have hb := C.2.1
  have hown := C.2.2.2.2.1
  have hts := C.2.2.2.2.2.1
  have hl : lv_has ls 2 [(0, .ref (ad o)), (1, .int b)] := hl
  have hinX5 : ∀ w ∈ u_ws RX5 TX5 8, w ∈ wsX7_open := by decide +kernel
  have hinX7 : ∀ w ∈ u_ws RX7 TX7 9, w ∈ wsX7_open := by decide +kernel
  have hag := hrep.2.2.1
  have hp := hrep.1.2.1
  refine lv_iload_n hx hb dX7_open_0 rfl (lv_at hl 1 rfl) ?_
  refine lv_iconst (v := nI 0) hx hb dX7_open_1 rfl ?_
  refine lv_iconst (v := nI 3) hx hb dX7_open_2 rfl ?_
  refine r_sI C hw hl.1 [.int b, .int (nI 0), .int (nI 3)] 3 rfl (c_X7_isWithin (l := l) (G := G) (tC := tC) (ad := ad) (N := N) (E := E) (x := b) (a := nI 0) (b := nI 3)   ) gX7_open_X7_isWithin rfl ⟨rfl, rfl⟩ (by decide +kernel) ⟨Nat.le_of_ble_eq_true rfl, Nat.le_of_ble_eq_true rfl⟩ (rest := []) rfl (Nat.le_of_ble_eq_true rfl) dX7_open_3 ⟨Nat.zero_le _, Nat.zero_le _⟩ (fun zr1 zE1 zH1 zL1 zp1 zw1 => ?_)
  obtain ⟨ze1, zq1⟩ := zp1
  rw [ze1] at zw1
  clear ze1
  rw [zq1]
  refine b_if_eq (tgt := 21) hx hb dX7_open_6 (by decide) (fun zc6 => ?_) (fun zc6 => ?_)
  · refine lv_ldc (v := -1000000001) hx hb hown (hts (.constant RX7 103 (-1000000001)) (by decide +kernel)) dX7_open_21 ?_
    exact r_iret C zw1 dX7_open_23 ⟨rfl, (by rw [a_open, if_neg zc6])⟩
  · obtain ⟨j9, zj9, rfl⟩ := in_of (by omega) zc6
    refine lv_aload_n hx hb dX7_open_9 rfl (lv_at hl 0 rfl) ?_
    refine r_get C zw1 RX7 TX7 9 4 hinX7 (i := o) (by omega) hE0 rfl 0 (by decide) (by decide +kernel) rfl (v := .ref (ad (o + 1))) rfl dX7_open_10 ?_
    refine r_get C zw1 RX5 TX5 8 2 hinX5 (i := (o + 1)) (by omega) hE1 rfl 1 (by decide) (by decide +kernel) rfl (v := .ref (ad (o + 3))) rfl dX7_open_13 ?_
    refine lv_iload_n hx hb dX7_open_16 rfl (lv_at hl 1 rfl) ?_
    refine r_iaN C zw1 (i := (o + 3)) (by omega) hE3 (j := j9) (by omega) (by omega) dX7_open_17 ?_
    refine lv_goto (tgt := 23) hx hb dX7_open_18 (by decide) ?_
    exact r_iret C zw1 dX7_open_23 ⟨rfl, (by rw [a_open, if_pos zc6, nI_clamp (by omega)]; exact hrep.2.1.1 _ (by omega))⟩

set_option maxHeartbeats 4000000 in
set_option maxRecDepth 100000 in
theorem c_X7_told {l : Launch} {G : vG} {tC : Nat} {ad : Nat → Nat} {N : Nat} {E : Nat → va_E} {o co pg cm hd : Nat} {lst md sd : Int32} {cs op : Nat → Int32} {s : Nat → Int32} {em : Nat} {bp br bi bl : Nat → Int32} {ek er ei el : Nat → Nat} {pm : Nat} {pa : Nat → Int32} {w : Int32} (hN0 : o + 75 ≤ N) (hE0 : E o = .inr (4, [.ref (ad (o + 1)), .ref (ad (o + 4)), .ref (ad (o + 54)), .ref (ad (o + 61)), .ref (ad (o + 62)), .ref (ad (o + 67)), .ref (ad (o + 73)), .ref (ad (o + 74)), .int (nI co)])) (hE1 : E (o + 1) = .inr (2, [.ref (ad (o + 2)), .ref (ad (o + 3)), .int (nI pg), .int (nI cm), .int lst, .int md, .int sd, .int (nI hd)])) (hE2 : E (o + 2) = eI G 500 cs) (hE3 : E (o + 3) = eI G 4 op) (hE4 : E (o + 62) = .inr (0, [.ref (ad (o + 63)), .ref (ad (o + 64)), .ref (ad (o + 65)), .ref (ad (o + 66)), .int (nI em)])) (hE5 : E (o + 63) = eI G 20 bp) (hE6 : E (o + 64) = eI G 20 br) (hE7 : E (o + 65) = eI G 20 bi) (hE8 : E (o + 66) = eI G 20 bl) (hrep : RepS s cs op pg cm hd lst md (cm + 1)) (hbk : bkOk bp br bi bl em ek er ei el) (hem : em ≤ 20) (hrg : Ring G ad E (o + 4) pa pm) : MI l yX7_told wsX7_told ({ frames := 4, cells := 0, slots := 0, locals := 91 } : Room) G tC ad N E [.ref (ad o), .int w] (fun r E2 => E2 = E ∧ r = a_told s pg co em pm ek er ei el w) := by
  refine MI_of RX7 rfl (by decide) rfl (Nat.le_of_ble_eq_true rfl) ?_
  intro pp_ ee_ ss_ mm_ aa_ bb_ me_ cc_ A ls C hw hl
  have hx := C.1
  have hb := C.2.1
  have hown := C.2.2.2.2.1
  have hts := C.2.2.2.2.2.1
  have hl : lv_has ls 2 [(0, .ref (ad o)), (1, .int w)] := hl
  have hinX2 : ∀ w ∈ u_ws RX2 TX2 5, w ∈ wsX7_told := by decide +kernel
  have hinX5 : ∀ w ∈ u_ws RX5 TX5 8, w ∈ wsX7_told := by decide +kernel
  have hinX6 : ∀ w ∈ u_ws RX6 TX6 3, w ∈ wsX7_told := by decide +kernel
  have hinX7 : ∀ w ∈ u_ws RX7 TX7 9, w ∈ wsX7_told := by decide +kernel
  have hag := hrep.2.2.1
  have hp := hrep.1.2.1
  obtain ⟨nx, fz, hrn⟩ := id hrg
  have ht0 := hrn.2.2.1
  refine lv_iload_n hx hb dX7_told_0 rfl (lv_at hl 1 rfl) ?_
  rcases sw_cases (w.toInt) (0) (7) with zc1 | zc1
  · refine lv_tableOut (tgt := 113) hx hb dX7_told_1 zc1 (by decide) ?_
    refine lv_ldc (v := -1000000002) hx hb hown (hts (.constant RX7 62 (-1000000002)) (by decide +kernel)) dX7_told_113 ?_
    exact r_iret C hw dX7_told_115 ⟨rfl, (by rw [a_told, if_neg (sw_out (b := 7) (by omega) zc1)])⟩
  · obtain zc1 : w = nI 0 ∨ w = nI 1 ∨ w = nI 2 ∨ w = nI 3 ∨ w = nI 4 ∨ w = nI 5 ∨ w = nI 6 ∨ w = nI 7 := by
      have : w.toInt = 0 ∨ w.toInt = 1 ∨ w.toInt = 2 ∨ w.toInt = 3 ∨ w.toInt = 4 ∨ w.toInt = 5 ∨ w.toInt = 6 ∨ w.toInt = 7 := by omega
      rcases this with h | h | h | h | h | h | h | h
      all_goals first | exact (Or.inl (Int32.toInt_inj.mp h)) | exact (Or.inr (Or.inl (Int32.toInt_inj.mp h))) | exact (Or.inr (Or.inr (Or.inl (Int32.toInt_inj.mp h)))) | exact (Or.inr (Or.inr (Or.inr (Or.inl (Int32.toInt_inj.mp h))))) | exact (Or.inr (Or.inr (Or.inr (Or.inr (Or.inl (Int32.toInt_inj.mp h)))))) | exact (Or.inr (Or.inr (Or.inr (Or.inr (Or.inr (Or.inl (Int32.toInt_inj.mp h))))))) | exact (Or.inr (Or.inr (Or.inr (Or.inr (Or.inr (Or.inr (Or.inl (Int32.toInt_inj.mp h)))))))) | exact (Or.inr (Or.inr (Or.inr (Or.inr (Or.inr (Or.inr (Or.inr (Int32.toInt_inj.mp h))))))))
    rcases zc1 with zc1 | zc1 | zc1 | zc1 | zc1 | zc1 | zc1 | zc1
    · refine lv_tableIn (tgt := 48) hx hb dX7_told_1 (off := 47) (by rw [zc1]; decide) (by rw [zc1]; decide) (by rw [zc1]; rfl) (by decide) ?_
      refine lv_aload_n hx hb dX7_told_48 rfl (lv_at hl 0 rfl) ?_
      refine r_get C hw RX7 TX7 9 4 hinX7 (i := o) (by omega) hE0 rfl 0 (by decide) (by decide +kernel) rfl (v := .ref (ad (o + 1))) rfl dX7_told_49 ?_
      refine r_get C hw RX5 TX5 8 2 hinX5 (i := (o + 1)) (by omega) hE1 rfl 2 (by decide) (by decide +kernel) rfl (v := .int (nI pg)) rfl dX7_told_52 ?_
      exact r_iret C hw dX7_told_55 ⟨rfl, (by rw [zc1, told_k (by omega)]; exact hrep.1.1.symm)⟩
    · refine lv_tableIn (tgt := 56) hx hb dX7_told_1 (off := 55) (by rw [zc1]; decide) (by rw [zc1]; decide) (by rw [zc1]; rfl) (by decide) ?_
      refine lv_aload_n hx hb dX7_told_56 rfl (lv_at hl 0 rfl) ?_
      refine r_get C hw RX7 TX7 9 4 hinX7 (i := o) (by omega) hE0 rfl 0 (by decide) (by decide +kernel) rfl (v := .ref (ad (o + 1))) rfl dX7_told_57 ?_
      refine r_get C hw RX5 TX5 8 2 hinX5 (i := (o + 1)) (by omega) hE1 rfl 3 (by decide) (by decide +kernel) rfl (v := .int (nI cm)) rfl dX7_told_60 ?_
      exact r_iret C hw dX7_told_63 ⟨rfl, (by rw [zc1, told_k (by omega)]; exact hrep.1.2.2.1.symm)⟩
    · refine lv_tableIn (tgt := 64) hx hb dX7_told_1 (off := 63) (by rw [zc1]; decide) (by rw [zc1]; decide) (by rw [zc1]; rfl) (by decide) ?_
      refine lv_aload_n hx hb dX7_told_64 rfl (lv_at hl 0 rfl) ?_
      refine r_get C hw RX7 TX7 9 4 hinX7 (i := o) (by omega) hE0 rfl 0 (by decide) (by decide +kernel) rfl (v := .ref (ad (o + 1))) rfl dX7_told_65 ?_
      refine r_get C hw RX5 TX5 8 2 hinX5 (i := (o + 1)) (by omega) hE1 rfl 4 (by decide) (by decide +kernel) rfl (v := .int lst) rfl dX7_told_68 ?_
      exact r_iret C hw dX7_told_71 ⟨rfl, (by rw [zc1, told_k (by omega)]; exact hrep.1.2.2.2.1.symm)⟩
    · refine lv_tableIn (tgt := 72) hx hb dX7_told_1 (off := 71) (by rw [zc1]; decide) (by rw [zc1]; decide) (by rw [zc1]; rfl) (by decide) ?_
      refine lv_aload_n hx hb dX7_told_72 rfl (lv_at hl 0 rfl) ?_
      refine r_get C hw RX7 TX7 9 4 hinX7 (i := o) (by omega) hE0 rfl 0 (by decide) (by decide +kernel) rfl (v := .ref (ad (o + 1))) rfl dX7_told_73 ?_
      refine r_get C hw RX5 TX5 8 2 hinX5 (i := (o + 1)) (by omega) hE1 rfl 5 (by decide) (by decide +kernel) rfl (v := .int md) rfl dX7_told_76 ?_
      exact r_iret C hw dX7_told_79 ⟨rfl, (by rw [zc1, told_k (by omega)]; exact hrep.1.2.2.2.2.symm)⟩
    · refine lv_tableIn (tgt := 80) hx hb dX7_told_1 (off := 79) (by rw [zc1]; decide) (by rw [zc1]; decide) (by rw [zc1]; rfl) (by decide) ?_
      refine lv_aload_n hx hb dX7_told_80 rfl (lv_at hl 0 rfl) ?_
      refine r_get C hw RX7 TX7 9 4 hinX7 (i := o) (by omega) hE0 rfl 8 (by decide) (by decide +kernel) rfl (v := .int (nI co)) rfl dX7_told_81 ?_
      exact r_iret C hw dX7_told_84 ⟨rfl, (by rw [zc1, told_k (by omega)]; exact rfl)⟩
    · refine lv_tableIn (tgt := 85) hx hb dX7_told_1 (off := 84) (by rw [zc1]; decide) (by rw [zc1]; decide) (by rw [zc1]; rfl) (by decide) ?_
      refine lv_aload_n hx hb dX7_told_85 rfl (lv_at hl 0 rfl) ?_
      refine r_get C hw RX7 TX7 9 4 hinX7 (i := o) (by omega) hE0 rfl 4 (by decide) (by decide +kernel) rfl (v := .ref (ad (o + 62))) rfl dX7_told_86 ?_
      refine r_get C hw RX2 TX2 5 0 hinX2 (i := (o + 62)) (by omega) hE4 rfl 4 (by decide) (by decide +kernel) rfl (v := .int (nI em)) rfl dX7_told_89 ?_
      exact r_iret C hw dX7_told_92 ⟨rfl, (by rw [zc1, told_k (by omega)]; exact rfl)⟩
    · refine lv_tableIn (tgt := 93) hx hb dX7_told_1 (off := 92) (by rw [zc1]; decide) (by rw [zc1]; decide) (by rw [zc1]; rfl) (by decide) ?_
      refine lv_aload_n hx hb dX7_told_93 rfl (lv_at hl 0 rfl) ?_
      refine r_get C hw RX7 TX7 9 4 hinX7 (i := o) (by omega) hE0 rfl 4 (by decide) (by decide +kernel) rfl (v := .ref (ad (o + 62))) rfl dX7_told_94 ?_
      refine lv_aload_n hx hb dX7_told_97 rfl (lv_at hl 0 rfl) ?_
      refine r_get C hw RX7 TX7 9 4 hinX7 (i := o) (by omega) hE0 rfl 0 (by decide) (by decide +kernel) rfl (v := .ref (ad (o + 1))) rfl dX7_told_98 ?_
      refine r_vI C hw hl.1 (i := (o + 62)) (by omega) hE4 (T := TX2) (n := 5) rfl [.ref (ad (o + 1))] 1 rfl (c_X2_firstWrong (l := l) (G := G) (tC := tC) (ad := ad) (N := N) (E := E) (i := (o + 1)) (pg := pg) (cm := cm) (hd := hd) (lst := lst) (md := md) (sd := sd) (cs := cs) (s := s) (b := (o + 62)) (em := em) (bp := bp) (br := br) (bi := bi) (bl := bl) (ek := ek) (er := er) (ei := ei) (el := el) (by omega) (by omega) hE1 hE2 hE4 hE5 hE6 hE7 hE8 (by first | assumption | omega) (by first | assumption | omega) (by first | assumption | omega) (by first | assumption | omega)) gX7_told_X2_firstWrong rfl ⟨rfl, rfl⟩ (by decide +kernel) ⟨Nat.le_of_ble_eq_true rfl, Nat.le_of_ble_eq_true rfl⟩ (rest := []) rfl (Nat.le_of_ble_eq_true rfl) dX7_told_101 ⟨Nat.zero_le _, Nat.zero_le _⟩ (fun zr1 zE1 zH1 zL1 zp1 zw1 => ?_)
      obtain ⟨ze1, zq1⟩ := zp1
      rw [ze1] at zw1
      clear ze1
      rw [zq1]
      exact r_iret C zw1 dX7_told_104 ⟨rfl, (by rw [zc1, told_k (by omega)]; exact rfl)⟩
    · refine lv_tableIn (tgt := 105) hx hb dX7_told_1 (off := 104) (by rw [zc1]; decide) (by rw [zc1]; decide) (by rw [zc1]; rfl) (by decide) ?_
      refine lv_aload_n hx hb dX7_told_105 rfl (lv_at hl 0 rfl) ?_
      refine r_get C hw RX7 TX7 9 4 hinX7 (i := o) (by omega) hE0 rfl 1 (by decide) (by decide +kernel) rfl (v := .ref (ad (o + 4))) rfl dX7_told_106 ?_
      refine r_get C hw RX6 TX6 3 3 hinX6 (i := (o + 4)) (by omega) ht0 rfl 2 (by decide) (by decide +kernel) rfl (v := .int (nI pm)) rfl dX7_told_109 ?_
      exact r_iret C hw dX7_told_112 ⟨rfl, (by rw [zc1, told_k (by omega)]; exact rfl)⟩

set_option maxHeartbeats 4000000 in
set_option maxRecDepth 100000 in
theorem c_X7_page {l : Launch} {G : vG} {tC : Nat} {ad : Nat → Nat} {N : Nat} {E : Nat → va_E} {o co pg cm hd : Nat} {lst md sd : Int32} {cs op : Nat → Int32} {s : Nat → Int32} {k w : Int32} (hN0 : o + 75 ≤ N) (hE0 : E o = .inr (4, [.ref (ad (o + 1)), .ref (ad (o + 4)), .ref (ad (o + 54)), .ref (ad (o + 61)), .ref (ad (o + 62)), .ref (ad (o + 67)), .ref (ad (o + 73)), .ref (ad (o + 74)), .int (nI co)])) (hE1 : E (o + 1) = .inr (2, [.ref (ad (o + 2)), .ref (ad (o + 3)), .int (nI pg), .int (nI cm), .int lst, .int md, .int sd, .int (nI hd)])) (hE2 : E (o + 2) = eI G 500 cs) (hE3 : E (o + 3) = eI G 4 op) (hrep : RepS s cs op pg cm hd lst md (cm + 1)) : MI l yX7_page wsX7_page ({ frames := 5, cells := 0, slots := 0, locals := 114 } : Room) G tC ad N E [.ref (ad o), .int k, .int w] (fun r E2 => E2 = E ∧ r = a_page s pg k w) := by
  refine MI_of RX7 rfl (by decide) rfl (Nat.le_of_ble_eq_true rfl) ?_
  intro pp_ ee_ ss_ mm_ aa_ bb_ me_ cc_ A ls C hw hl
  have hx := C.1
  have hb := C.2.1
  have hown := C.2.2.2.2.1
  have hts := C.2.2.2.2.2.1
  have hl : lv_has ls 3 [(0, .ref (ad o)), (1, .int k), (2, .int w)] := hl
  have hinX7 : ∀ w ∈ u_ws RX7 TX7 9, w ∈ wsX7_page := by decide +kernel
  have hag := hrep.2.2.1
  have hp := hrep.1.2.1
  refine lv_aload_n hx hb dX7_page_0 rfl (lv_at hl 0 rfl) ?_
  refine r_get C hw RX7 TX7 9 4 hinX7 (i := o) (by omega) hE0 rfl 0 (by decide) (by decide +kernel) rfl (v := .ref (ad (o + 1))) rfl dX7_page_1 ?_
  refine lv_iload_n hx hb dX7_page_4 rfl (lv_at hl 1 rfl) ?_
  refine r_vI C hw hl.1 (i := (o + 1)) (by omega) hE1 (T := TX5) (n := 8) rfl [.int k] 1 rfl (c_X5_has (l := l) (G := G) (tC := tC) (ad := ad) (N := N) (E := E) (i := (o + 1)) (pg := pg) (cm := cm) (hd := hd) (lst := lst) (md := md) (sd := sd) (k := k) (by omega) hE1 (by first | assumption | omega)) gX7_page_X5_has rfl ⟨rfl, rfl⟩ (by decide +kernel) ⟨Nat.le_of_ble_eq_true rfl, Nat.le_of_ble_eq_true rfl⟩ (rest := []) rfl (Nat.le_of_ble_eq_true rfl) dX7_page_5 ⟨Nat.zero_le _, Nat.zero_le _⟩ (fun zr1 zE1 zH1 zL1 zp1 zw1 => ?_)
  obtain ⟨ze1, zq1⟩ := zp1
  rw [ze1] at zw1
  clear ze1
  rw [zq1]
  refine b_if_ne (tgt := 14) hx hb dX7_page_8 (by decide) (fun zc8 => ?_) (fun zc8 => ?_)
  · obtain ⟨j9, zj9, rfl⟩ := has_of zc8
    refine lv_iload_n hx hb dX7_page_14 rfl (lv_at hl 2 rfl) ?_
    rcases sw_cases (w.toInt) (0) (8) with zc15 | zc15
    · refine lv_tableOut (tgt := 150) hx hb dX7_page_15 zc15 (by decide) ?_
      refine lv_ldc (v := -1000000002) hx hb hown (hts (.constant RX7 62 (-1000000002)) (by decide +kernel)) dX7_page_150 ?_
      exact r_iret C zw1 dX7_page_152 ⟨rfl, (by rw [a_page, if_pos zc8, if_neg (sw_out (b := 8) (by omega) zc15)])⟩
    · obtain zc15 : w = nI 0 ∨ w = nI 1 ∨ w = nI 2 ∨ w = nI 3 ∨ w = nI 4 ∨ w = nI 5 ∨ w = nI 6 ∨ w = nI 7 ∨ w = nI 8 := by
        have : w.toInt = 0 ∨ w.toInt = 1 ∨ w.toInt = 2 ∨ w.toInt = 3 ∨ w.toInt = 4 ∨ w.toInt = 5 ∨ w.toInt = 6 ∨ w.toInt = 7 ∨ w.toInt = 8 := by omega
        rcases this with h | h | h | h | h | h | h | h | h
        all_goals first | exact (Or.inl (Int32.toInt_inj.mp h)) | exact (Or.inr (Or.inl (Int32.toInt_inj.mp h))) | exact (Or.inr (Or.inr (Or.inl (Int32.toInt_inj.mp h)))) | exact (Or.inr (Or.inr (Or.inr (Or.inl (Int32.toInt_inj.mp h))))) | exact (Or.inr (Or.inr (Or.inr (Or.inr (Or.inl (Int32.toInt_inj.mp h)))))) | exact (Or.inr (Or.inr (Or.inr (Or.inr (Or.inr (Or.inl (Int32.toInt_inj.mp h))))))) | exact (Or.inr (Or.inr (Or.inr (Or.inr (Or.inr (Or.inr (Or.inl (Int32.toInt_inj.mp h)))))))) | exact (Or.inr (Or.inr (Or.inr (Or.inr (Or.inr (Or.inr (Or.inr (Or.inl (Int32.toInt_inj.mp h))))))))) | exact (Or.inr (Or.inr (Or.inr (Or.inr (Or.inr (Or.inr (Or.inr (Or.inr (Int32.toInt_inj.mp h)))))))))
      rcases zc15 with zc15 | zc15 | zc15 | zc15 | zc15 | zc15 | zc15 | zc15 | zc15
      · refine lv_tableIn (tgt := 64) hx hb dX7_page_15 (off := 49) (by rw [zc15]; decide) (by rw [zc15]; decide) (by rw [zc15]; rfl) (by decide) ?_
        refine lv_aload_n hx hb dX7_page_64 rfl (lv_at hl 0 rfl) ?_
        refine r_get C zw1 RX7 TX7 9 4 hinX7 (i := o) (by omega) hE0 rfl 0 (by decide) (by decide +kernel) rfl (v := .ref (ad (o + 1))) rfl dX7_page_65 ?_
        refine lv_iload_n hx hb dX7_page_68 rfl (lv_at hl 1 rfl) ?_
        refine lv_iconst (v := nI 0) hx hb dX7_page_69 rfl ?_
        refine r_vI C zw1 hl.1 (i := (o + 1)) (by omega) hE1 (T := TX5) (n := 8) rfl [.int (nI j9), .int (nI 0)] 2 rfl (c_X5_get_s (l := l) (G := G) (tC := tC) (ad := ad) (N := N) (E := E) (i := (o + 1)) (pg := pg) (cm := cm) (hd := hd) (lst := lst) (md := md) (sd := sd) (cs := cs) (s := s) (k := j9) (cl := 0) (by omega) hE1 hE2 (by first | assumption | omega) (by first | assumption | omega) (by first | assumption | omega) (by first | assumption | omega) (by first | assumption | omega)) gX7_page_X5_get rfl ⟨rfl, rfl⟩ (by decide +kernel) ⟨Nat.le_of_ble_eq_true rfl, Nat.le_of_ble_eq_true rfl⟩ (rest := []) rfl (Nat.le_of_ble_eq_true rfl) dX7_page_70 ⟨Nat.zero_le _, Nat.zero_le _⟩ (fun zr2 zE2 zH2 zL2 zp2 zw2 => ?_)
        obtain ⟨ze2, zq2⟩ := zp2
        rw [ze2] at zw2
        clear ze2
        rw [zq2]
        exact r_iret C zw2 dX7_page_73 ⟨rfl, (by rw [zc15, page_k zj9 hp (by omega)]; rfl)⟩
      · refine lv_tableIn (tgt := 74) hx hb dX7_page_15 (off := 59) (by rw [zc15]; decide) (by rw [zc15]; decide) (by rw [zc15]; rfl) (by decide) ?_
        refine lv_aload_n hx hb dX7_page_74 rfl (lv_at hl 0 rfl) ?_
        refine r_get C zw1 RX7 TX7 9 4 hinX7 (i := o) (by omega) hE0 rfl 0 (by decide) (by decide +kernel) rfl (v := .ref (ad (o + 1))) rfl dX7_page_75 ?_
        refine lv_iload_n hx hb dX7_page_78 rfl (lv_at hl 1 rfl) ?_
        refine lv_iconst (v := nI 1) hx hb dX7_page_79 rfl ?_
        refine r_vI C zw1 hl.1 (i := (o + 1)) (by omega) hE1 (T := TX5) (n := 8) rfl [.int (nI j9), .int (nI 1)] 2 rfl (c_X5_get_s (l := l) (G := G) (tC := tC) (ad := ad) (N := N) (E := E) (i := (o + 1)) (pg := pg) (cm := cm) (hd := hd) (lst := lst) (md := md) (sd := sd) (cs := cs) (s := s) (k := j9) (cl := 1) (by omega) hE1 hE2 (by first | assumption | omega) (by first | assumption | omega) (by first | assumption | omega) (by first | assumption | omega) (by first | assumption | omega)) gX7_page_X5_get rfl ⟨rfl, rfl⟩ (by decide +kernel) ⟨Nat.le_of_ble_eq_true rfl, Nat.le_of_ble_eq_true rfl⟩ (rest := []) rfl (Nat.le_of_ble_eq_true rfl) dX7_page_80 ⟨Nat.zero_le _, Nat.zero_le _⟩ (fun zr3 zE3 zH3 zL3 zp3 zw3 => ?_)
        obtain ⟨ze3, zq3⟩ := zp3
        rw [ze3] at zw3
        clear ze3
        rw [zq3]
        exact r_iret C zw3 dX7_page_83 ⟨rfl, (by rw [zc15, page_k zj9 hp (by omega)]; rfl)⟩
      · refine lv_tableIn (tgt := 84) hx hb dX7_page_15 (off := 69) (by rw [zc15]; decide) (by rw [zc15]; decide) (by rw [zc15]; rfl) (by decide) ?_
        refine lv_aload_n hx hb dX7_page_84 rfl (lv_at hl 0 rfl) ?_
        refine r_get C zw1 RX7 TX7 9 4 hinX7 (i := o) (by omega) hE0 rfl 0 (by decide) (by decide +kernel) rfl (v := .ref (ad (o + 1))) rfl dX7_page_85 ?_
        refine lv_iload_n hx hb dX7_page_88 rfl (lv_at hl 1 rfl) ?_
        refine lv_iconst (v := nI 2) hx hb dX7_page_89 rfl ?_
        refine r_vI C zw1 hl.1 (i := (o + 1)) (by omega) hE1 (T := TX5) (n := 8) rfl [.int (nI j9), .int (nI 2)] 2 rfl (c_X5_get_s (l := l) (G := G) (tC := tC) (ad := ad) (N := N) (E := E) (i := (o + 1)) (pg := pg) (cm := cm) (hd := hd) (lst := lst) (md := md) (sd := sd) (cs := cs) (s := s) (k := j9) (cl := 2) (by omega) hE1 hE2 (by first | assumption | omega) (by first | assumption | omega) (by first | assumption | omega) (by first | assumption | omega) (by first | assumption | omega)) gX7_page_X5_get rfl ⟨rfl, rfl⟩ (by decide +kernel) ⟨Nat.le_of_ble_eq_true rfl, Nat.le_of_ble_eq_true rfl⟩ (rest := []) rfl (Nat.le_of_ble_eq_true rfl) dX7_page_90 ⟨Nat.zero_le _, Nat.zero_le _⟩ (fun zr4 zE4 zH4 zL4 zp4 zw4 => ?_)
        obtain ⟨ze4, zq4⟩ := zp4
        rw [ze4] at zw4
        clear ze4
        rw [zq4]
        exact r_iret C zw4 dX7_page_93 ⟨rfl, (by rw [zc15, page_k zj9 hp (by omega)]; rfl)⟩
      · refine lv_tableIn (tgt := 94) hx hb dX7_page_15 (off := 79) (by rw [zc15]; decide) (by rw [zc15]; decide) (by rw [zc15]; rfl) (by decide) ?_
        refine lv_aload_n hx hb dX7_page_94 rfl (lv_at hl 0 rfl) ?_
        refine r_get C zw1 RX7 TX7 9 4 hinX7 (i := o) (by omega) hE0 rfl 0 (by decide) (by decide +kernel) rfl (v := .ref (ad (o + 1))) rfl dX7_page_95 ?_
        refine lv_iload_n hx hb dX7_page_98 rfl (lv_at hl 1 rfl) ?_
        refine lv_iconst (v := nI 3) hx hb dX7_page_99 rfl ?_
        refine r_vI C zw1 hl.1 (i := (o + 1)) (by omega) hE1 (T := TX5) (n := 8) rfl [.int (nI j9), .int (nI 3)] 2 rfl (c_X5_get_s (l := l) (G := G) (tC := tC) (ad := ad) (N := N) (E := E) (i := (o + 1)) (pg := pg) (cm := cm) (hd := hd) (lst := lst) (md := md) (sd := sd) (cs := cs) (s := s) (k := j9) (cl := 3) (by omega) hE1 hE2 (by first | assumption | omega) (by first | assumption | omega) (by first | assumption | omega) (by first | assumption | omega) (by first | assumption | omega)) gX7_page_X5_get rfl ⟨rfl, rfl⟩ (by decide +kernel) ⟨Nat.le_of_ble_eq_true rfl, Nat.le_of_ble_eq_true rfl⟩ (rest := []) rfl (Nat.le_of_ble_eq_true rfl) dX7_page_100 ⟨Nat.zero_le _, Nat.zero_le _⟩ (fun zr5 zE5 zH5 zL5 zp5 zw5 => ?_)
        obtain ⟨ze5, zq5⟩ := zp5
        rw [ze5] at zw5
        clear ze5
        rw [zq5]
        exact r_iret C zw5 dX7_page_103 ⟨rfl, (by rw [zc15, page_k zj9 hp (by omega)]; rfl)⟩
      · refine lv_tableIn (tgt := 104) hx hb dX7_page_15 (off := 89) (by rw [zc15]; decide) (by rw [zc15]; decide) (by rw [zc15]; rfl) (by decide) ?_
        refine lv_aload_n hx hb dX7_page_104 rfl (lv_at hl 0 rfl) ?_
        refine r_get C zw1 RX7 TX7 9 4 hinX7 (i := o) (by omega) hE0 rfl 0 (by decide) (by decide +kernel) rfl (v := .ref (ad (o + 1))) rfl dX7_page_105 ?_
        refine lv_iload_n hx hb dX7_page_108 rfl (lv_at hl 1 rfl) ?_
        refine lv_iconst (v := nI 4) hx hb dX7_page_109 rfl ?_
        refine r_vI C zw1 hl.1 (i := (o + 1)) (by omega) hE1 (T := TX5) (n := 8) rfl [.int (nI j9), .int (nI 4)] 2 rfl (c_X5_get_s (l := l) (G := G) (tC := tC) (ad := ad) (N := N) (E := E) (i := (o + 1)) (pg := pg) (cm := cm) (hd := hd) (lst := lst) (md := md) (sd := sd) (cs := cs) (s := s) (k := j9) (cl := 4) (by omega) hE1 hE2 (by first | assumption | omega) (by first | assumption | omega) (by first | assumption | omega) (by first | assumption | omega) (by first | assumption | omega)) gX7_page_X5_get rfl ⟨rfl, rfl⟩ (by decide +kernel) ⟨Nat.le_of_ble_eq_true rfl, Nat.le_of_ble_eq_true rfl⟩ (rest := []) rfl (Nat.le_of_ble_eq_true rfl) dX7_page_110 ⟨Nat.zero_le _, Nat.zero_le _⟩ (fun zr6 zE6 zH6 zL6 zp6 zw6 => ?_)
        obtain ⟨ze6, zq6⟩ := zp6
        rw [ze6] at zw6
        clear ze6
        rw [zq6]
        exact r_iret C zw6 dX7_page_113 ⟨rfl, (by rw [zc15, page_k zj9 hp (by omega)]; rfl)⟩
      · refine lv_tableIn (tgt := 114) hx hb dX7_page_15 (off := 99) (by rw [zc15]; decide) (by rw [zc15]; decide) (by rw [zc15]; rfl) (by decide) ?_
        refine lv_aload_n hx hb dX7_page_114 rfl (lv_at hl 0 rfl) ?_
        refine r_get C zw1 RX7 TX7 9 4 hinX7 (i := o) (by omega) hE0 rfl 0 (by decide) (by decide +kernel) rfl (v := .ref (ad (o + 1))) rfl dX7_page_115 ?_
        refine lv_iload_n hx hb dX7_page_118 rfl (lv_at hl 1 rfl) ?_
        refine r_sI C zw1 hl.1 [.ref (ad (o + 1)), .int (nI j9)] 2 rfl (c_X0_length (l := l) (G := G) (tC := tC) (ad := ad) (N := N) (E := E) (i := (o + 1)) (pg := pg) (cm := cm) (hd := hd) (lst := lst) (md := md) (sd := sd) (cs := cs) (s := s) (k := j9) (by omega) hE1 hE2 (by first | assumption | omega) (by first | assumption | omega) (by first | assumption | omega)) gX7_page_X0_length rfl ⟨rfl, rfl⟩ (by decide +kernel) ⟨Nat.le_of_ble_eq_true rfl, Nat.le_of_ble_eq_true rfl⟩ (rest := []) rfl (Nat.le_of_ble_eq_true rfl) dX7_page_119 ⟨Nat.zero_le _, Nat.zero_le _⟩ (fun zr7 zE7 zH7 zL7 zp7 zw7 => ?_)
        obtain ⟨ze7, zq7⟩ := zp7
        rw [ze7] at zw7
        clear ze7
        rw [zq7]
        exact r_iret C zw7 dX7_page_122 ⟨rfl, (by rw [zc15, page_k zj9 hp (by omega)]; rfl)⟩
      · refine lv_tableIn (tgt := 123) hx hb dX7_page_15 (off := 108) (by rw [zc15]; decide) (by rw [zc15]; decide) (by rw [zc15]; rfl) (by decide) ?_
        refine lv_aload_n hx hb dX7_page_123 rfl (lv_at hl 0 rfl) ?_
        refine r_get C zw1 RX7 TX7 9 4 hinX7 (i := o) (by omega) hE0 rfl 0 (by decide) (by decide +kernel) rfl (v := .ref (ad (o + 1))) rfl dX7_page_124 ?_
        refine lv_iload_n hx hb dX7_page_127 rfl (lv_at hl 1 rfl) ?_
        refine r_sI C zw1 hl.1 [.ref (ad (o + 1)), .int (nI j9)] 2 rfl (c_X0_lacks (l := l) (G := G) (tC := tC) (ad := ad) (N := N) (E := E) (i := (o + 1)) (pg := pg) (cm := cm) (hd := hd) (lst := lst) (md := md) (sd := sd) (cs := cs) (s := s) (k := j9) (by omega) hE1 hE2 (by first | assumption | omega) (by first | assumption | omega) (by first | assumption | omega)) gX7_page_X0_lacks rfl ⟨rfl, rfl⟩ (by decide +kernel) ⟨Nat.le_of_ble_eq_true rfl, Nat.le_of_ble_eq_true rfl⟩ (rest := []) rfl (Nat.le_of_ble_eq_true rfl) dX7_page_128 ⟨Nat.zero_le _, Nat.zero_le _⟩ (fun zr8 zE8 zH8 zL8 zp8 zw8 => ?_)
        obtain ⟨ze8, zq8⟩ := zp8
        rw [ze8] at zw8
        clear ze8
        rw [zq8]
        exact r_iret C zw8 dX7_page_131 ⟨rfl, (by rw [zc15, page_k zj9 hp (by omega)]; rfl)⟩
      · refine lv_tableIn (tgt := 132) hx hb dX7_page_15 (off := 117) (by rw [zc15]; decide) (by rw [zc15]; decide) (by rw [zc15]; rfl) (by decide) ?_
        refine lv_aload_n hx hb dX7_page_132 rfl (lv_at hl 0 rfl) ?_
        refine r_get C zw1 RX7 TX7 9 4 hinX7 (i := o) (by omega) hE0 rfl 0 (by decide) (by decide +kernel) rfl (v := .ref (ad (o + 1))) rfl dX7_page_133 ?_
        refine lv_iload_n hx hb dX7_page_136 rfl (lv_at hl 1 rfl) ?_
        refine r_sI C zw1 hl.1 [.ref (ad (o + 1)), .int (nI j9)] 2 rfl (c_X0_sureOnes (l := l) (G := G) (tC := tC) (ad := ad) (N := N) (E := E) (i := (o + 1)) (pg := pg) (cm := cm) (hd := hd) (lst := lst) (md := md) (sd := sd) (cs := cs) (s := s) (k := j9) (by omega) hE1 hE2 (by first | assumption | omega) (by first | assumption | omega) (by first | assumption | omega)) gX7_page_X0_sureOnes rfl ⟨rfl, rfl⟩ (by decide +kernel) ⟨Nat.le_of_ble_eq_true rfl, Nat.le_of_ble_eq_true rfl⟩ (rest := []) rfl (Nat.le_of_ble_eq_true rfl) dX7_page_137 ⟨Nat.zero_le _, Nat.zero_le _⟩ (fun zr9 zE9 zH9 zL9 zp9 zw9 => ?_)
        obtain ⟨ze9, zq9⟩ := zp9
        rw [ze9] at zw9
        clear ze9
        rw [zq9]
        exact r_iret C zw9 dX7_page_140 ⟨rfl, (by rw [zc15, page_k zj9 hp (by omega)]; rfl)⟩
      · refine lv_tableIn (tgt := 141) hx hb dX7_page_15 (off := 126) (by rw [zc15]; decide) (by rw [zc15]; decide) (by rw [zc15]; rfl) (by decide) ?_
        refine lv_aload_n hx hb dX7_page_141 rfl (lv_at hl 0 rfl) ?_
        refine r_get C zw1 RX7 TX7 9 4 hinX7 (i := o) (by omega) hE0 rfl 0 (by decide) (by decide +kernel) rfl (v := .ref (ad (o + 1))) rfl dX7_page_142 ?_
        refine lv_iload_n hx hb dX7_page_145 rfl (lv_at hl 1 rfl) ?_
        refine r_sI C zw1 hl.1 [.ref (ad (o + 1)), .int (nI j9)] 2 rfl (c_X0_linked (l := l) (G := G) (tC := tC) (ad := ad) (N := N) (E := E) (i := (o + 1)) (pg := pg) (cm := cm) (hd := hd) (lst := lst) (md := md) (sd := sd) (cs := cs) (s := s) (k := j9) (by omega) hE1 hE2 (by first | assumption | omega) (by first | assumption | omega) (by first | assumption | omega)) gX7_page_X0_linked rfl ⟨rfl, rfl⟩ (by decide +kernel) ⟨Nat.le_of_ble_eq_true rfl, Nat.le_of_ble_eq_true rfl⟩ (rest := []) rfl (Nat.le_of_ble_eq_true rfl) dX7_page_146 ⟨Nat.zero_le _, Nat.zero_le _⟩ (fun zr10 zE10 zH10 zL10 zp10 zw10 => ?_)
        obtain ⟨ze10, zq10⟩ := zp10
        rw [ze10] at zw10
        clear ze10
        rw [zq10]
        exact r_iret C zw10 dX7_page_149 ⟨rfl, (by rw [zc15, page_k zj9 hp (by omega)]; rfl)⟩
  · refine lv_ldc (v := -1000000001) hx hb hown (hts (.constant RX7 103 (-1000000001)) (by decide +kernel)) dX7_page_11 ?_
    exact r_iret C zw1 dX7_page_13 ⟨rfl, (by rw [a_page, if_neg zc8])⟩

set_option maxHeartbeats 4000000 in
set_option maxRecDepth 100000 in
theorem c_X7_letter {l : Launch} {G : vG} {tC : Nat} {ad : Nat → Nat} {N : Nat} {E : Nat → va_E} {o co pg cm hd : Nat} {lst md sd : Int32} {cs op : Nat → Int32} {s : Nat → Int32} {k row j : Int32} (hN0 : o + 75 ≤ N) (hE0 : E o = .inr (4, [.ref (ad (o + 1)), .ref (ad (o + 4)), .ref (ad (o + 54)), .ref (ad (o + 61)), .ref (ad (o + 62)), .ref (ad (o + 67)), .ref (ad (o + 73)), .ref (ad (o + 74)), .int (nI co)])) (hE1 : E (o + 1) = .inr (2, [.ref (ad (o + 2)), .ref (ad (o + 3)), .int (nI pg), .int (nI cm), .int lst, .int md, .int sd, .int (nI hd)])) (hE2 : E (o + 2) = eI G 500 cs) (hE3 : E (o + 3) = eI G 4 op) (hrep : RepS s cs op pg cm hd lst md (cm + 1)) : MI l yX7_letter wsX7_letter ({ frames := 2, cells := 0, slots := 0, locals := 46 } : Room) G tC ad N E [.ref (ad o), .int k, .int row, .int j] (fun r E2 => E2 = E ∧ r = a_letter s pg k row j) := by
  refine MI_of RX7 rfl (by decide) rfl (Nat.le_of_ble_eq_true rfl) ?_
  intro pp_ ee_ ss_ mm_ aa_ bb_ me_ cc_ A ls C hw hl
  have hx := C.1
  have hb := C.2.1
  have hown := C.2.2.2.2.1
  have hts := C.2.2.2.2.2.1
  have hl : lv_has ls 4 [(0, .ref (ad o)), (1, .int k), (2, .int row), (3, .int j)] := hl
  have hinX7 : ∀ w ∈ u_ws RX7 TX7 9, w ∈ wsX7_letter := by decide +kernel
  have hag := hrep.2.2.1
  have hp := hrep.1.2.1
  refine lv_aload_n hx hb dX7_letter_0 rfl (lv_at hl 0 rfl) ?_
  refine r_get C hw RX7 TX7 9 4 hinX7 (i := o) (by omega) hE0 rfl 0 (by decide) (by decide +kernel) rfl (v := .ref (ad (o + 1))) rfl dX7_letter_1 ?_
  refine lv_iload_n hx hb dX7_letter_4 rfl (lv_at hl 1 rfl) ?_
  refine r_vI C hw hl.1 (i := (o + 1)) (by omega) hE1 (T := TX5) (n := 8) rfl [.int k] 1 rfl (c_X5_has (l := l) (G := G) (tC := tC) (ad := ad) (N := N) (E := E) (i := (o + 1)) (pg := pg) (cm := cm) (hd := hd) (lst := lst) (md := md) (sd := sd) (k := k) (by omega) hE1 (by first | assumption | omega)) gX7_letter_X5_has rfl ⟨rfl, rfl⟩ (by decide +kernel) ⟨Nat.le_of_ble_eq_true rfl, Nat.le_of_ble_eq_true rfl⟩ (rest := []) rfl (Nat.le_of_ble_eq_true rfl) dX7_letter_5 ⟨Nat.zero_le _, Nat.zero_le _⟩ (fun zr1 zE1 zH1 zL1 zp1 zw1 => ?_)
  obtain ⟨ze1, zq1⟩ := zp1
  rw [ze1] at zw1
  clear ze1
  rw [zq1]
  refine b_if_ne (tgt := 14) hx hb dX7_letter_8 (by decide) (fun zc8 => ?_) (fun zc8 => ?_)
  · obtain ⟨j9, zj9, rfl⟩ := has_of zc8
    refine lv_iload_n hx hb dX7_letter_14 rfl (lv_at hl 2 rfl) ?_
    refine lv_iload_n hx hb dX7_letter_15 rfl (lv_at hl 3 rfl) ?_
    refine r_sI C zw1 hl.1 [.int row, .int j] 2 rfl (c_X7_isPlace (l := l) (G := G) (tC := tC) (ad := ad) (N := N) (E := E) (x := row) (y := j)   ) gX7_letter_X7_isPlace rfl ⟨rfl, rfl⟩ (by decide +kernel) ⟨Nat.le_of_ble_eq_true rfl, Nat.le_of_ble_eq_true rfl⟩ (rest := []) rfl (Nat.le_of_ble_eq_true rfl) dX7_letter_16 ⟨Nat.zero_le _, Nat.zero_le _⟩ (fun zr2 zE2 zH2 zL2 zp2 zw2 => ?_)
    obtain ⟨ze2, zq2⟩ := zp2
    rw [ze2] at zw2
    clear ze2
    rw [zq2]
    refine b_if_eq (tgt := 35) hx hb dX7_letter_19 (by decide) (fun zc19 => ?_) (fun zc19 => ?_)
    · refine lv_ldc (v := -1000000002) hx hb hown (hts (.constant RX7 62 (-1000000002)) (by decide +kernel)) dX7_letter_35 ?_
      exact r_iret C zw2 dX7_letter_37 ⟨rfl, (by rw [a_letter, if_pos zc8, if_neg zc19])⟩
    · obtain ⟨j8, zj8, rfl⟩ := in_of (by omega) zc19.1
      obtain ⟨j7, zj7, rfl⟩ := in_of (by omega) zc19.2
      refine lv_aload_n hx hb dX7_letter_22 rfl (lv_at hl 0 rfl) ?_
      refine r_get C zw2 RX7 TX7 9 4 hinX7 (i := o) (by omega) hE0 rfl 0 (by decide) (by decide +kernel) rfl (v := .ref (ad (o + 1))) rfl dX7_letter_23 ?_
      refine lv_iload_n hx hb dX7_letter_26 rfl (lv_at hl 1 rfl) ?_
      refine lv_iload_n hx hb dX7_letter_27 rfl (lv_at hl 2 rfl) ?_
      refine lv_iload_n hx hb dX7_letter_28 rfl (lv_at hl 3 rfl) ?_
      refine r_vI C zw2 hl.1 (i := (o + 1)) (by omega) hE1 (T := TX5) (n := 8) rfl [.int (nI j9), .int (nI j8), .int (nI j7)] 3 rfl (c_X5_letterAt_s (l := l) (G := G) (tC := tC) (ad := ad) (N := N) (E := E) (i := (o + 1)) (pg := pg) (cm := cm) (hd := hd) (lst := lst) (md := md) (sd := sd) (cs := cs) (s := s) (k := j9) (row := j8) (j := j7) (by omega) hE1 hE2 (by first | assumption | omega) (by first | assumption | omega) (by first | assumption | omega) (by first | assumption | omega) (by first | assumption | omega)) gX7_letter_X5_letterAt rfl ⟨rfl, rfl⟩ (by decide +kernel) ⟨Nat.le_of_ble_eq_true rfl, Nat.le_of_ble_eq_true rfl⟩ (rest := []) rfl (Nat.le_of_ble_eq_true rfl) dX7_letter_29 ⟨Nat.zero_le _, Nat.zero_le _⟩ (fun zr3 zE3 zH3 zL3 zp3 zw3 => ?_)
      obtain ⟨ze3, zq3⟩ := zp3
      rw [ze3] at zw3
      clear ze3
      rw [zq3]
      refine lv_goto (tgt := 37) hx hb dX7_letter_32 (by decide) ?_
      exact r_iret C zw3 dX7_letter_37 ⟨rfl, (by rw [a_letter, if_pos zc8, if_pos zc19, nI_clamp (by omega), nI_clamp (by omega), nI_clamp (by omega)]; show s _ = s _; congr 1; omega)⟩
  · refine lv_ldc (v := -1000000001) hx hb hown (hts (.constant RX7 103 (-1000000001)) (by decide +kernel)) dX7_letter_11 ?_
    exact r_iret C zw1 dX7_letter_13 ⟨rfl, (by rw [a_letter, if_neg zc8])⟩

set_option maxHeartbeats 4000000 in
set_option maxRecDepth 100000 in
theorem c_X7_link {l : Launch} {G : vG} {tC : Nat} {ad : Nat → Nat} {N : Nat} {E : Nat → va_E} {o co pg cm hd : Nat} {lst md sd : Int32} {cs op : Nat → Int32} {s : Nat → Int32} {k j : Int32} (hN0 : o + 75 ≤ N) (hE0 : E o = .inr (4, [.ref (ad (o + 1)), .ref (ad (o + 4)), .ref (ad (o + 54)), .ref (ad (o + 61)), .ref (ad (o + 62)), .ref (ad (o + 67)), .ref (ad (o + 73)), .ref (ad (o + 74)), .int (nI co)])) (hE1 : E (o + 1) = .inr (2, [.ref (ad (o + 2)), .ref (ad (o + 3)), .int (nI pg), .int (nI cm), .int lst, .int md, .int sd, .int (nI hd)])) (hE2 : E (o + 2) = eI G 500 cs) (hE3 : E (o + 3) = eI G 4 op) (hrep : RepS s cs op pg cm hd lst md (cm + 1)) : MI l yX7_link wsX7_link ({ frames := 2, cells := 0, slots := 0, locals := 45 } : Room) G tC ad N E [.ref (ad o), .int k, .int j] (fun r E2 => E2 = E ∧ r = a_link s pg k j) := by
  refine MI_of RX7 rfl (by decide) rfl (Nat.le_of_ble_eq_true rfl) ?_
  intro pp_ ee_ ss_ mm_ aa_ bb_ me_ cc_ A ls C hw hl
  have hx := C.1
  have hb := C.2.1
  have hown := C.2.2.2.2.1
  have hts := C.2.2.2.2.2.1
  have hl : lv_has ls 3 [(0, .ref (ad o)), (1, .int k), (2, .int j)] := hl
  have hinX7 : ∀ w ∈ u_ws RX7 TX7 9, w ∈ wsX7_link := by decide +kernel
  have hag := hrep.2.2.1
  have hp := hrep.1.2.1
  refine lv_aload_n hx hb dX7_link_0 rfl (lv_at hl 0 rfl) ?_
  refine r_get C hw RX7 TX7 9 4 hinX7 (i := o) (by omega) hE0 rfl 0 (by decide) (by decide +kernel) rfl (v := .ref (ad (o + 1))) rfl dX7_link_1 ?_
  refine lv_iload_n hx hb dX7_link_4 rfl (lv_at hl 1 rfl) ?_
  refine r_vI C hw hl.1 (i := (o + 1)) (by omega) hE1 (T := TX5) (n := 8) rfl [.int k] 1 rfl (c_X5_has (l := l) (G := G) (tC := tC) (ad := ad) (N := N) (E := E) (i := (o + 1)) (pg := pg) (cm := cm) (hd := hd) (lst := lst) (md := md) (sd := sd) (k := k) (by omega) hE1 (by first | assumption | omega)) gX7_link_X5_has rfl ⟨rfl, rfl⟩ (by decide +kernel) ⟨Nat.le_of_ble_eq_true rfl, Nat.le_of_ble_eq_true rfl⟩ (rest := []) rfl (Nat.le_of_ble_eq_true rfl) dX7_link_5 ⟨Nat.zero_le _, Nat.zero_le _⟩ (fun zr1 zE1 zH1 zL1 zp1 zw1 => ?_)
  obtain ⟨ze1, zq1⟩ := zp1
  rw [ze1] at zw1
  clear ze1
  rw [zq1]
  refine b_if_ne (tgt := 14) hx hb dX7_link_8 (by decide) (fun zc8 => ?_) (fun zc8 => ?_)
  · obtain ⟨j9, zj9, rfl⟩ := has_of zc8
    refine lv_iload_n hx hb dX7_link_14 rfl (lv_at hl 2 rfl) ?_
    refine lv_iconst (v := nI 0) hx hb dX7_link_15 rfl ?_
    refine lv_iconst (v := nI 3) hx hb dX7_link_16 rfl ?_
    refine r_sI C zw1 hl.1 [.int j, .int (nI 0), .int (nI 3)] 3 rfl (c_X7_isWithin (l := l) (G := G) (tC := tC) (ad := ad) (N := N) (E := E) (x := j) (a := nI 0) (b := nI 3)   ) gX7_link_X7_isWithin rfl ⟨rfl, rfl⟩ (by decide +kernel) ⟨Nat.le_of_ble_eq_true rfl, Nat.le_of_ble_eq_true rfl⟩ (rest := []) rfl (Nat.le_of_ble_eq_true rfl) dX7_link_17 ⟨Nat.zero_le _, Nat.zero_le _⟩ (fun zr2 zE2 zH2 zL2 zp2 zw2 => ?_)
    obtain ⟨ze2, zq2⟩ := zp2
    rw [ze2] at zw2
    clear ze2
    rw [zq2]
    refine b_if_eq (tgt := 35) hx hb dX7_link_20 (by decide) (fun zc20 => ?_) (fun zc20 => ?_)
    · refine lv_ldc (v := -1000000002) hx hb hown (hts (.constant RX7 62 (-1000000002)) (by decide +kernel)) dX7_link_35 ?_
      exact r_iret C zw2 dX7_link_37 ⟨rfl, (by rw [a_link, if_pos zc8, if_neg zc20])⟩
    · obtain ⟨j8, zj8, rfl⟩ := in_of (by omega) zc20
      refine lv_aload_n hx hb dX7_link_23 rfl (lv_at hl 0 rfl) ?_
      refine r_get C zw2 RX7 TX7 9 4 hinX7 (i := o) (by omega) hE0 rfl 0 (by decide) (by decide +kernel) rfl (v := .ref (ad (o + 1))) rfl dX7_link_24 ?_
      refine lv_iload_n hx hb dX7_link_27 rfl (lv_at hl 1 rfl) ?_
      refine lv_iload_n hx hb dX7_link_28 rfl (lv_at hl 2 rfl) ?_
      refine r_vI C zw2 hl.1 (i := (o + 1)) (by omega) hE1 (T := TX5) (n := 8) rfl [.int (nI j9), .int (nI j8)] 2 rfl (c_X5_linkAt_s (l := l) (G := G) (tC := tC) (ad := ad) (N := N) (E := E) (i := (o + 1)) (pg := pg) (cm := cm) (hd := hd) (lst := lst) (md := md) (sd := sd) (cs := cs) (s := s) (k := j9) (j := j8) (by omega) hE1 hE2 (by first | assumption | omega) (by first | assumption | omega) (by first | assumption | omega) (by first | assumption | omega)) gX7_link_X5_linkAt rfl ⟨rfl, rfl⟩ (by decide +kernel) ⟨Nat.le_of_ble_eq_true rfl, Nat.le_of_ble_eq_true rfl⟩ (rest := []) rfl (Nat.le_of_ble_eq_true rfl) dX7_link_29 ⟨Nat.zero_le _, Nat.zero_le _⟩ (fun zr3 zE3 zH3 zL3 zp3 zw3 => ?_)
      obtain ⟨ze3, zq3⟩ := zp3
      rw [ze3] at zw3
      clear ze3
      rw [zq3]
      refine lv_goto (tgt := 37) hx hb dX7_link_32 (by decide) ?_
      exact r_iret C zw3 dX7_link_37 ⟨rfl, (by rw [a_link, if_pos zc8, if_pos zc20, nI_clamp (by omega), nI_clamp (by omega)])⟩
  · refine lv_ldc (v := -1000000001) hx hb hown (hts (.constant RX7 103 (-1000000001)) (by decide +kernel)) dX7_link_11 ?_
    exact r_iret C zw1 dX7_link_13 ⟨rfl, (by rw [a_link, if_neg zc8])⟩

set_option maxHeartbeats 4000000 in
set_option maxRecDepth 100000 in
theorem c_X7_far {l : Launch} {G : vG} {tC : Nat} {ad : Nat → Nat} {N : Nat} {E : Nat → va_E} {o co pg cm hd : Nat} {lst md sd : Int32} {cs op : Nat → Int32} {s : Nat → Int32} {k y : Int32} (hN0 : o + 75 ≤ N) (hE0 : E o = .inr (4, [.ref (ad (o + 1)), .ref (ad (o + 4)), .ref (ad (o + 54)), .ref (ad (o + 61)), .ref (ad (o + 62)), .ref (ad (o + 67)), .ref (ad (o + 73)), .ref (ad (o + 74)), .int (nI co)])) (hE1 : E (o + 1) = .inr (2, [.ref (ad (o + 2)), .ref (ad (o + 3)), .int (nI pg), .int (nI cm), .int lst, .int md, .int sd, .int (nI hd)])) (hE2 : E (o + 2) = eI G 500 cs) (hE3 : E (o + 3) = eI G 4 op) (hrep : RepS s cs op pg cm hd lst md (cm + 1)) : MI l yX7_far wsX7_far ({ frames := 6, cells := 0, slots := 0, locals := 139 } : Room) G tC ad N E [.ref (ad o), .int k, .int y] (fun r E2 => E2 = E ∧ r = a_far s pg k y) := by
  refine MI_of RX7 rfl (by decide) rfl (Nat.le_of_ble_eq_true rfl) ?_
  intro pp_ ee_ ss_ mm_ aa_ bb_ me_ cc_ A ls C hw hl
  have hx := C.1
  have hb := C.2.1
  have hown := C.2.2.2.2.1
  have hts := C.2.2.2.2.2.1
  have hl : lv_has ls 3 [(0, .ref (ad o)), (1, .int k), (2, .int y)] := hl
  have hinX7 : ∀ w ∈ u_ws RX7 TX7 9, w ∈ wsX7_far := by decide +kernel
  have hag := hrep.2.2.1
  have hp := hrep.1.2.1
  refine lv_aload_n hx hb dX7_far_0 rfl (lv_at hl 0 rfl) ?_
  refine r_get C hw RX7 TX7 9 4 hinX7 (i := o) (by omega) hE0 rfl 0 (by decide) (by decide +kernel) rfl (v := .ref (ad (o + 1))) rfl dX7_far_1 ?_
  refine lv_iload_n hx hb dX7_far_4 rfl (lv_at hl 1 rfl) ?_
  refine r_vI C hw hl.1 (i := (o + 1)) (by omega) hE1 (T := TX5) (n := 8) rfl [.int k] 1 rfl (c_X5_has (l := l) (G := G) (tC := tC) (ad := ad) (N := N) (E := E) (i := (o + 1)) (pg := pg) (cm := cm) (hd := hd) (lst := lst) (md := md) (sd := sd) (k := k) (by omega) hE1 (by first | assumption | omega)) gX7_far_X5_has rfl ⟨rfl, rfl⟩ (by decide +kernel) ⟨Nat.le_of_ble_eq_true rfl, Nat.le_of_ble_eq_true rfl⟩ (rest := []) rfl (Nat.le_of_ble_eq_true rfl) dX7_far_5 ⟨Nat.zero_le _, Nat.zero_le _⟩ (fun zr1 zE1 zH1 zL1 zp1 zw1 => ?_)
  obtain ⟨ze1, zq1⟩ := zp1
  rw [ze1] at zw1
  clear ze1
  rw [zq1]
  refine b_if_eq (tgt := 34) hx hb dX7_far_8 (by decide) (fun zc8 => ?_) (fun zc8 => ?_)
  · refine lv_ldc (v := -1000000001) hx hb hown (hts (.constant RX7 103 (-1000000001)) (by decide +kernel)) dX7_far_34 ?_
    exact r_iret C zw1 dX7_far_36 ⟨rfl, (by rw [a_far, if_neg (by first | exact fun zq => zc8 zq.1 | exact fun zq => zc19 zq.2)])⟩
  · refine lv_aload_n hx hb dX7_far_11 rfl (lv_at hl 0 rfl) ?_
    refine r_get C zw1 RX7 TX7 9 4 hinX7 (i := o) (by omega) hE0 rfl 0 (by decide) (by decide +kernel) rfl (v := .ref (ad (o + 1))) rfl dX7_far_12 ?_
    refine lv_iload_n hx hb dX7_far_15 rfl (lv_at hl 2 rfl) ?_
    refine r_vI C zw1 hl.1 (i := (o + 1)) (by omega) hE1 (T := TX5) (n := 8) rfl [.int y] 1 rfl (c_X5_has (l := l) (G := G) (tC := tC) (ad := ad) (N := N) (E := E) (i := (o + 1)) (pg := pg) (cm := cm) (hd := hd) (lst := lst) (md := md) (sd := sd) (k := y) (by omega) hE1 (by first | assumption | omega)) gX7_far_X5_has rfl ⟨rfl, rfl⟩ (by decide +kernel) ⟨Nat.le_of_ble_eq_true rfl, Nat.le_of_ble_eq_true rfl⟩ (rest := []) rfl (Nat.le_of_ble_eq_true rfl) dX7_far_16 ⟨Nat.zero_le _, Nat.zero_le _⟩ (fun zr2 zE2 zH2 zL2 zp2 zw2 => ?_)
    obtain ⟨ze2, zq2⟩ := zp2
    rw [ze2] at zw2
    clear ze2
    rw [zq2]
    refine b_if_eq (tgt := 34) hx hb dX7_far_19 (by decide) (fun zc19 => ?_) (fun zc19 => ?_)
    · refine lv_ldc (v := -1000000001) hx hb hown (hts (.constant RX7 103 (-1000000001)) (by decide +kernel)) dX7_far_34 ?_
      exact r_iret C zw2 dX7_far_36 ⟨rfl, (by rw [a_far, if_neg (by first | exact fun zq => zc8 zq.1 | exact fun zq => zc19 zq.2)])⟩
    · obtain ⟨j9, zj9, rfl⟩ := has_of zc8
      obtain ⟨j8, zj8, rfl⟩ := has_of zc19
      refine lv_aload_n hx hb dX7_far_22 rfl (lv_at hl 0 rfl) ?_
      refine r_get C zw2 RX7 TX7 9 4 hinX7 (i := o) (by omega) hE0 rfl 0 (by decide) (by decide +kernel) rfl (v := .ref (ad (o + 1))) rfl dX7_far_23 ?_
      refine lv_iload_n hx hb dX7_far_26 rfl (lv_at hl 1 rfl) ?_
      refine lv_iload_n hx hb dX7_far_27 rfl (lv_at hl 2 rfl) ?_
      refine r_sI C zw2 hl.1 [.ref (ad (o + 1)), .int (nI j9), .int (nI j8)] 3 rfl (c_X0_steps (l := l) (G := G) (tC := tC) (ad := ad) (N := N) (E := E) (i := (o + 1)) (pg := pg) (cm := cm) (hd := hd) (lst := lst) (md := md) (sd := sd) (cs := cs) (s := s) (k := j9) (o := j8) (by omega) hE1 hE2 (by first | assumption | omega) (by first | assumption | omega) (by first | assumption | omega) (by first | assumption | omega)) gX7_far_X0_steps rfl ⟨rfl, rfl⟩ (by decide +kernel) ⟨Nat.le_of_ble_eq_true rfl, Nat.le_of_ble_eq_true rfl⟩ (rest := []) rfl (Nat.le_of_ble_eq_true rfl) dX7_far_28 ⟨Nat.zero_le _, Nat.zero_le _⟩ (fun zr3 zE3 zH3 zL3 zp3 zw3 => ?_)
      obtain ⟨ze3, zq3⟩ := zp3
      rw [ze3] at zw3
      clear ze3
      rw [zq3]
      refine lv_goto (tgt := 36) hx hb dX7_far_31 (by decide) ?_
      exact r_iret C zw3 dX7_far_36 ⟨rfl, (by rw [a_far, if_pos ⟨zc8, zc19⟩, nI_clamp (by omega), nI_clamp (by omega)])⟩

set_option maxHeartbeats 4000000 in
set_option maxRecDepth 100000 in
theorem c_X7_find {l : Launch} {G : vG} {tC : Nat} {ad : Nat → Nat} {N : Nat} {E : Nat → va_E} {o co pg cm hd : Nat} {lst md sd : Int32} {cs op : Nat → Int32} {s : Nat → Int32} {b n p9 : Int32} (hN0 : o + 75 ≤ N) (hE0 : E o = .inr (4, [.ref (ad (o + 1)), .ref (ad (o + 4)), .ref (ad (o + 54)), .ref (ad (o + 61)), .ref (ad (o + 62)), .ref (ad (o + 67)), .ref (ad (o + 73)), .ref (ad (o + 74)), .int (nI co)])) (hE1 : E (o + 1) = .inr (2, [.ref (ad (o + 2)), .ref (ad (o + 3)), .int (nI pg), .int (nI cm), .int lst, .int md, .int sd, .int (nI hd)])) (hE2 : E (o + 2) = eI G 500 cs) (hE3 : E (o + 3) = eI G 4 op) (hrep : RepS s cs op pg cm hd lst md (cm + 1)) : MI l yX7_find wsX7_find ({ frames := 2, cells := 0, slots := 0, locals := 47 } : Room) G tC ad N E [.ref (ad o), .int b, .int n, .int p9] (fun r E2 => E2 = E ∧ r = a_find s pg b n p9) := by
  refine MI_of RX7 rfl (by decide) rfl (Nat.le_of_ble_eq_true rfl) ?_
  intro pp_ ee_ ss_ mm_ aa_ bb_ me_ cc_ A ls C hw hl
  have hx := C.1
  have hb := C.2.1
  have hown := C.2.2.2.2.1
  have hts := C.2.2.2.2.2.1
  have hl : lv_has ls 4 [(0, .ref (ad o)), (1, .int b), (2, .int n), (3, .int p9)] := hl
  have hinX7 : ∀ w ∈ u_ws RX7 TX7 9, w ∈ wsX7_find := by decide +kernel
  have hag := hrep.2.2.1
  have hp := hrep.1.2.1
  refine lv_aload_n hx hb dX7_find_0 rfl (lv_at hl 0 rfl) ?_
  refine r_get C hw RX7 TX7 9 4 hinX7 (i := o) (by omega) hE0 rfl 0 (by decide) (by decide +kernel) rfl (v := .ref (ad (o + 1))) rfl dX7_find_1 ?_
  refine lv_iload_n hx hb dX7_find_4 rfl (lv_at hl 1 rfl) ?_
  refine lv_iload_n hx hb dX7_find_5 rfl (lv_at hl 2 rfl) ?_
  refine lv_iload_n hx hb dX7_find_6 rfl (lv_at hl 3 rfl) ?_
  refine r_vI C hw hl.1 (i := (o + 1)) (by omega) hE1 (T := TX5) (n := 8) rfl [.int b, .int n, .int p9] 3 rfl (c_X5_search (l := l) (G := G) (tC := tC) (ad := ad) (N := N) (E := E) (i := (o + 1)) (pg := pg) (cm := cm) (hd := hd) (lst := lst) (md := md) (sd := sd) (cs := cs) (s := s) (b := b) (n := n) (p9 := p9) (by omega) hE1 hE2 (by first | assumption | omega) (by first | assumption | omega)) gX7_find_X5_search rfl ⟨rfl, rfl⟩ (by decide +kernel) ⟨Nat.le_of_ble_eq_true rfl, Nat.le_of_ble_eq_true rfl⟩ (rest := []) rfl (Nat.le_of_ble_eq_true rfl) dX7_find_7 ⟨Nat.zero_le _, Nat.zero_le _⟩ (fun zr1 zE1 zH1 zL1 zp1 zw1 => ?_)
  obtain ⟨ze1, zq1⟩ := zp1
  rw [ze1] at zw1
  clear ze1
  rw [zq1]
  exact r_iret C zw1 dX7_find_10 ⟨rfl, (by rfl)⟩

set_option maxHeartbeats 4000000 in
set_option maxRecDepth 100000 in
theorem c_X7_sent {l : Launch} {G : vG} {tC : Nat} {ad : Nat → Nat} {N : Nat} {E : Nat → va_E} {o co pg cm hd : Nat} {lst md sd : Int32} {cs op : Nat → Int32} {s : Nat → Int32} {rp : Nat} {tm : Int32} {ln wt og en wa : Nat → Int32} {rule j : Int32} (hN0 : o + 75 ≤ N) (hE0 : E o = .inr (4, [.ref (ad (o + 1)), .ref (ad (o + 4)), .ref (ad (o + 54)), .ref (ad (o + 61)), .ref (ad (o + 62)), .ref (ad (o + 67)), .ref (ad (o + 73)), .ref (ad (o + 74)), .int (nI co)])) (hE1 : E (o + 1) = .inr (2, [.ref (ad (o + 2)), .ref (ad (o + 3)), .int (nI pg), .int (nI cm), .int lst, .int md, .int sd, .int (nI hd)])) (hE2 : E (o + 2) = eI G 500 cs) (hE3 : E (o + 3) = eI G 4 op) (hE4 : E (o + 67) = .inr (1, [.ref (ad (o + 68)), .ref (ad (o + 69)), .ref (ad (o + 70)), .ref (ad (o + 71)), .ref (ad (o + 72)), .int (nI rp), .int tm])) (hE5 : E (o + 68) = eI G 10 ln) (hE6 : E (o + 69) = eI G 10 wt) (hE7 : E (o + 70) = eI G 10 og) (hE8 : E (o + 71) = eI G 10 en) (hE9 : E (o + 72) = eI G 10 wa) (hrep : RepS s cs op pg cm hd lst md (cm + 1)) : MI l yX7_sent wsX7_sent ({ frames := 6, cells := 0, slots := 0, locals := 136 } : Room) G tC ad N E [.ref (ad o), .int rule, .int j] (fun r E2 => ∃ ln2 : Nat → Int32, ∃ wt2 : Nat → Int32, ∃ og2 : Nat → Int32, ∃ en2 : Nat → Int32, ∃ wa2 : Nat → Int32, ∃ tm2 : Int32, ∃ rp2 : Nat, E2 (o + 67) = .inr (1, [.ref (ad (o + 68)), .ref (ad (o + 69)), .ref (ad (o + 70)), .ref (ad (o + 71)), .ref (ad (o + 72)), .int (nI rp2), .int tm2]) ∧ E2 (o + 68) = eI G 10 ln2 ∧ E2 (o + 69) = eI G 10 wt2 ∧ E2 (o + 70) = eI G 10 og2 ∧ E2 (o + 71) = eI G 10 en2 ∧ E2 (o + 72) = eI G 10 wa2 ∧ (∀ j, j ≠ (o + 67) → j ≠ (o + 68) → j ≠ (o + 69) → j ≠ (o + 70) → j ≠ (o + 71) → j ≠ (o + 72) → E2 j = E j) ∧ r = a_sent s pg rule j) := by
  refine MI_of RX7 rfl (by decide) rfl (Nat.le_of_ble_eq_true rfl) ?_
  intro pp_ ee_ ss_ mm_ aa_ bb_ me_ cc_ A ls C hw hl
  have hx := C.1
  have hb := C.2.1
  have hown := C.2.2.2.2.1
  have hts := C.2.2.2.2.2.1
  have hl : lv_has ls 3 [(0, .ref (ad o)), (1, .int rule), (2, .int j)] := hl
  have hinX7 : ∀ w ∈ u_ws RX7 TX7 9, w ∈ wsX7_sent := by decide +kernel
  have hag := hrep.2.2.1
  have hp := hrep.1.2.1
  refine lv_iload_n hx hb dX7_sent_0 rfl (lv_at hl 1 rfl) ?_
  refine lv_iconst (v := nI 0) hx hb dX7_sent_1 rfl ?_
  refine lv_iconst (v := nI 3) hx hb dX7_sent_2 rfl ?_
  refine r_sI C hw hl.1 [.int rule, .int (nI 0), .int (nI 3)] 3 rfl (c_X7_isWithin (l := l) (G := G) (tC := tC) (ad := ad) (N := N) (E := E) (x := rule) (a := nI 0) (b := nI 3)   ) gX7_sent_X7_isWithin rfl ⟨rfl, rfl⟩ (by decide +kernel) ⟨Nat.le_of_ble_eq_true rfl, Nat.le_of_ble_eq_true rfl⟩ (rest := []) rfl (Nat.le_of_ble_eq_true rfl) dX7_sent_3 ⟨Nat.zero_le _, Nat.zero_le _⟩ (fun zr1 zE1 zH1 zL1 zp1 zw1 => ?_)
  obtain ⟨ze1, zq1⟩ := zp1
  rw [ze1] at zw1
  clear ze1
  rw [zq1]
  refine b_if_eq (tgt := 19) hx hb dX7_sent_6 (by decide) (fun zc6 => ?_) (fun zc6 => ?_)
  · refine lv_ldc (v := -1000000002) hx hb hown (hts (.constant RX7 62 (-1000000002)) (by decide +kernel)) dX7_sent_19 ?_
    exact r_iret C zw1 dX7_sent_21 ⟨ln, wt, og, en, wa, tm, rp, hE4, hE5, hE6, hE7, hE8, hE9, (fun j _ _ _ _ _ _ => rfl), (by rw [a_sent, if_neg (by first | exact fun zq => zc6 zq.1 | exact fun zq => zc16 zq.2)])⟩
  · refine lv_iload_n hx hb dX7_sent_9 rfl (lv_at hl 2 rfl) ?_
    refine lv_iconst (v := nI 0) hx hb dX7_sent_10 rfl ?_
    refine lv_bipush (v := nI 59) hx hb dX7_sent_11 rfl ?_
    refine r_sI C zw1 hl.1 [.int j, .int (nI 0), .int (nI 59)] 3 rfl (c_X7_isWithin (l := l) (G := G) (tC := tC) (ad := ad) (N := N) (E := E) (x := j) (a := nI 0) (b := nI 59)   ) gX7_sent_X7_isWithin rfl ⟨rfl, rfl⟩ (by decide +kernel) ⟨Nat.le_of_ble_eq_true rfl, Nat.le_of_ble_eq_true rfl⟩ (rest := []) rfl (Nat.le_of_ble_eq_true rfl) dX7_sent_13 ⟨Nat.zero_le _, Nat.zero_le _⟩ (fun zr2 zE2 zH2 zL2 zp2 zw2 => ?_)
    obtain ⟨ze2, zq2⟩ := zp2
    rw [ze2] at zw2
    clear ze2
    rw [zq2]
    refine b_if_ne (tgt := 22) hx hb dX7_sent_16 (by decide) (fun zc16 => ?_) (fun zc16 => ?_)
    · obtain ⟨j9, zj9, rfl⟩ := in_of (by omega) zc6
      obtain ⟨j8, zj8, rfl⟩ := in_of (by omega) zc16
      refine lv_aload_n hx hb dX7_sent_22 rfl (lv_at hl 0 rfl) ?_
      refine r_get C zw2 RX7 TX7 9 4 hinX7 (i := o) (by omega) hE0 rfl 5 (by decide) (by decide +kernel) rfl (v := .ref (ad (o + 67))) rfl dX7_sent_23 ?_
      refine lv_aload_n hx hb dX7_sent_26 rfl (lv_at hl 0 rfl) ?_
      refine r_get C zw2 RX7 TX7 9 4 hinX7 (i := o) (by omega) hE0 rfl 0 (by decide) (by decide +kernel) rfl (v := .ref (ad (o + 1))) rfl dX7_sent_27 ?_
      refine r_vV C zw2 hl.1 (i := (o + 67)) (by omega) hE4 (T := TX4) (n := 7) rfl [.ref (ad (o + 1))] 1 rfl (c_X4_prepare (l := l) (G := G) (tC := tC) (ad := ad) (N := N) (E := E) (i := (o + 1)) (pg := pg) (cm := cm) (hd := hd) (lst := lst) (md := md) (sd := sd) (cs := cs) (s := s) (z := (o + 67)) (rp := rp) (tm := tm) (ln := ln) (wt := wt) (og := og) (en := en) (wa := wa) (l9 := (lenF s)) (w9 := (wtF s)) (by omega) (by omega) hE1 hE2 hE4 hE5 hE6 (by first | assumption | omega) (by first | assumption | omega) (by first | assumption | omega)) gX7_sent_X4_prepare rfl ⟨rfl, rfl⟩ (by decide +kernel) ⟨Nat.le_of_ble_eq_true rfl, Nat.le_of_ble_eq_true rfl⟩ (rest := []) rfl (Nat.le_of_ble_eq_true rfl) dX7_sent_30 ⟨Nat.zero_le _, Nat.zero_le _⟩ (fun zE3 zH3 zL3 zp3 zw3 => ?_)
      obtain ⟨zln23, zwt23, zg3_0, zg3_1, zg3_2, zf3, zq3⟩ := zp3
      have zh3_0 : zE3 (o + 67) = .inr (1, [.ref (ad (o + 68)), .ref (ad (o + 69)), .ref (ad (o + 70)), .ref (ad (o + 71)), .ref (ad (o + 72)), .int (nI pg), .int tm]) := zg3_0
      have zh3_1 : zE3 (o + 68) = eI G 10 zln23 := zg3_1
      have zh3_2 : zE3 (o + 69) = eI G 10 zwt23 := zg3_2
      have zk3_0 : zE3 o = .inr (4, [.ref (ad (o + 1)), .ref (ad (o + 4)), .ref (ad (o + 54)), .ref (ad (o + 61)), .ref (ad (o + 62)), .ref (ad (o + 67)), .ref (ad (o + 73)), .ref (ad (o + 74)), .int (nI co)]) := (zf3 _ (by omega) (by omega) (by omega)).trans hE0
      have zk3_1 : zE3 (o + 1) = .inr (2, [.ref (ad (o + 2)), .ref (ad (o + 3)), .int (nI pg), .int (nI cm), .int lst, .int md, .int sd, .int (nI hd)]) := (zf3 _ (by omega) (by omega) (by omega)).trans hE1
      have zk3_2 : zE3 (o + 2) = eI G 500 cs := (zf3 _ (by omega) (by omega) (by omega)).trans hE2
      have zk3_3 : zE3 (o + 3) = eI G 4 op := (zf3 _ (by omega) (by omega) (by omega)).trans hE3
      have zk3_4 : zE3 (o + 70) = eI G 10 og := (zf3 _ (by omega) (by omega) (by omega)).trans hE7
      have zk3_5 : zE3 (o + 71) = eI G 10 en := (zf3 _ (by omega) (by omega) (by omega)).trans hE8
      have zk3_6 : zE3 (o + 72) = eI G 10 wa := (zf3 _ (by omega) (by omega) (by omega)).trans hE9
      have zfr3 : ∀ j, j ≠ (o + 67) → j ≠ (o + 68) → j ≠ (o + 69) → zE3 j = E j := fun j zm0 zm1 zm2 => zf3 j zm0 zm1 zm2
      rcases Nat.eq_zero_or_pos pg with zs33 | zs33
      · refine lv_aload_n hx hb dX7_sent_33 rfl (lv_at hl 0 rfl) ?_
        refine r_get C zw3 RX7 TX7 9 4 hinX7 (i := o) (by omega) zk3_0 rfl 5 (by decide) (by decide +kernel) rfl (v := .ref (ad (o + 67))) rfl dX7_sent_34 ?_
        refine lv_iload_n hx hb dX7_sent_37 rfl (lv_at hl 1 rfl) ?_
        refine lv_iload_n hx hb dX7_sent_38 rfl (lv_at hl 2 rfl) ?_
        refine lv_iconst (v := nI 1) hx hb dX7_sent_39 rfl ?_
        refine lv_iadd hx hb dX7_sent_40 ?_
        refine r_nat (j8 + 1) (nI_add _ _) ?_
        refine r_vI C zw3 hl.1 (i := (o + 67)) (by omega) zh3_0 (T := TX4) (n := 7) rfl [.int (nI j9), .int (nI (j8 + 1))] 2 rfl (c_X4_run_0 (l := l) (G := G) (tC := tC) (ad := ad) (N := N) (E := zE3) (z := (o + 67)) (rp := pg) (tm := tm) (ln := zln23) (wt := zwt23) (og := og) (en := en) (wa := wa) (l9 := (lenF s)) (w9 := (wtF s)) (rho := j9) (n := j8 + 1) (by omega) zh3_0 zh3_1 zh3_2 zk3_4 zk3_5 zk3_6 (by first | assumption | omega) (by first | assumption | omega) (by first | assumption | omega) (by first | assumption | omega) zs33) gX7_sent_X4_run rfl ⟨rfl, rfl⟩ (by decide +kernel) ⟨Nat.le_of_ble_eq_true rfl, Nat.le_of_ble_eq_true rfl⟩ (rest := []) rfl (Nat.le_of_ble_eq_true rfl) dX7_sent_41 ⟨Nat.zero_le _, Nat.zero_le _⟩ (fun zr4 zE4 zH4 zL4 zp4 zw4 => ?_)
        obtain ⟨ztm24, zog24, zen24, zwa24, zg4_0, zg4_1, zg4_2, zg4_3, zf4, zq4⟩ := zp4
        have zh4_0 : zE4 (o + 67) = .inr (1, [.ref (ad (o + 68)), .ref (ad (o + 69)), .ref (ad (o + 70)), .ref (ad (o + 71)), .ref (ad (o + 72)), .int (nI pg), .int ztm24]) := zg4_0
        have zh4_1 : zE4 (o + 70) = eI G 10 zog24 := zg4_1
        have zh4_2 : zE4 (o + 71) = eI G 10 zen24 := zg4_2
        have zh4_3 : zE4 (o + 72) = eI G 10 zwa24 := zg4_3
        have zk4_0 : zE4 o = .inr (4, [.ref (ad (o + 1)), .ref (ad (o + 4)), .ref (ad (o + 54)), .ref (ad (o + 61)), .ref (ad (o + 62)), .ref (ad (o + 67)), .ref (ad (o + 73)), .ref (ad (o + 74)), .int (nI co)]) := (zf4 _ (by omega) (by omega) (by omega) (by omega)).trans zk3_0
        have zk4_1 : zE4 (o + 1) = .inr (2, [.ref (ad (o + 2)), .ref (ad (o + 3)), .int (nI pg), .int (nI cm), .int lst, .int md, .int sd, .int (nI hd)]) := (zf4 _ (by omega) (by omega) (by omega) (by omega)).trans zk3_1
        have zk4_2 : zE4 (o + 2) = eI G 500 cs := (zf4 _ (by omega) (by omega) (by omega) (by omega)).trans zk3_2
        have zk4_3 : zE4 (o + 3) = eI G 4 op := (zf4 _ (by omega) (by omega) (by omega) (by omega)).trans zk3_3
        have zk4_4 : zE4 (o + 68) = eI G 10 zln23 := (zf4 _ (by omega) (by omega) (by omega) (by omega)).trans zh3_1
        have zk4_5 : zE4 (o + 69) = eI G 10 zwt23 := (zf4 _ (by omega) (by omega) (by omega) (by omega)).trans zh3_2
        have zfr4 : ∀ j, j ≠ (o + 67) → j ≠ (o + 68) → j ≠ (o + 69) → j ≠ (o + 70) → j ≠ (o + 71) → j ≠ (o + 72) → zE4 j = E j := fun j zm0 zm1 zm2 zm3 zm4 zm5 => (zf4 j zm0 zm3 zm4 zm5).trans (zfr3 j zm0 zm1 zm2)
        rw [zq4]
        exact r_iret C zw4 dX7_sent_44 ⟨zln23, zwt23, zog24, zen24, zwa24, ztm24, pg, zh4_0, zk4_4, zk4_5, zh4_1, zh4_2, zh4_3, (fun j zm0 zm1 zm2 zm3 zm4 zm5 => zfr4 j zm0 zm1 zm2 zm3 zm4 zm5), (by rw [a_sent, if_pos ⟨zc6, zc16⟩, if_pos zs33])⟩
      · refine lv_aload_n hx hb dX7_sent_33 rfl (lv_at hl 0 rfl) ?_
        refine r_get C zw3 RX7 TX7 9 4 hinX7 (i := o) (by omega) zk3_0 rfl 5 (by decide) (by decide +kernel) rfl (v := .ref (ad (o + 67))) rfl dX7_sent_34 ?_
        refine lv_iload_n hx hb dX7_sent_37 rfl (lv_at hl 1 rfl) ?_
        refine lv_iload_n hx hb dX7_sent_38 rfl (lv_at hl 2 rfl) ?_
        refine lv_iconst (v := nI 1) hx hb dX7_sent_39 rfl ?_
        refine lv_iadd hx hb dX7_sent_40 ?_
        refine r_nat (j8 + 1) (nI_add _ _) ?_
        refine r_vI C zw3 hl.1 (i := (o + 67)) (by omega) zh3_0 (T := TX4) (n := 7) rfl [.int (nI j9), .int (nI (j8 + 1))] 2 rfl (c_X4_run_y (l := l) (G := G) (tC := tC) (ad := ad) (N := N) (E := zE3) (z := (o + 67)) (rp := pg) (tm := tm) (ln := zln23) (wt := zwt23) (og := og) (en := en) (wa := wa) (l9 := (lenF s)) (w9 := (wtF s)) (rho := j9) (n := j8 + 1) (by omega) zh3_0 zh3_1 zh3_2 zk3_4 zk3_5 zk3_6 (by first | assumption | omega) (by first | assumption | omega) (by first | assumption | omega) (by first | assumption | omega) zs33 (by first | assumption | omega)) gX7_sent_X4_run rfl ⟨rfl, rfl⟩ (by decide +kernel) ⟨Nat.le_of_ble_eq_true rfl, Nat.le_of_ble_eq_true rfl⟩ (rest := []) rfl (Nat.le_of_ble_eq_true rfl) dX7_sent_41 ⟨Nat.zero_le _, Nat.zero_le _⟩ (fun zr5 zE5 zH5 zL5 zp5 zw5 => ?_)
        obtain ⟨ztm25, zog25, zen25, zg5_0, zg5_1, zg5_2, zg5_3, zf5, zq5⟩ := zp5
        have zh5_0 : zE5 (o + 67) = .inr (1, [.ref (ad (o + 68)), .ref (ad (o + 69)), .ref (ad (o + 70)), .ref (ad (o + 71)), .ref (ad (o + 72)), .int (nI pg), .int ztm25]) := zg5_0
        have zh5_1 : zE5 (o + 70) = eI G 10 zog25 := zg5_1
        have zh5_2 : zE5 (o + 71) = eI G 10 zen25 := zg5_2
        have zh5_3 : zE5 (o + 72) = eI G 10 (waitF (lenF s) (wtF s) j9 pg (j8 + 1)) := zg5_3
        have zk5_0 : zE5 o = .inr (4, [.ref (ad (o + 1)), .ref (ad (o + 4)), .ref (ad (o + 54)), .ref (ad (o + 61)), .ref (ad (o + 62)), .ref (ad (o + 67)), .ref (ad (o + 73)), .ref (ad (o + 74)), .int (nI co)]) := (zf5 _ (by omega) (by omega) (by omega) (by omega)).trans zk3_0
        have zk5_1 : zE5 (o + 1) = .inr (2, [.ref (ad (o + 2)), .ref (ad (o + 3)), .int (nI pg), .int (nI cm), .int lst, .int md, .int sd, .int (nI hd)]) := (zf5 _ (by omega) (by omega) (by omega) (by omega)).trans zk3_1
        have zk5_2 : zE5 (o + 2) = eI G 500 cs := (zf5 _ (by omega) (by omega) (by omega) (by omega)).trans zk3_2
        have zk5_3 : zE5 (o + 3) = eI G 4 op := (zf5 _ (by omega) (by omega) (by omega) (by omega)).trans zk3_3
        have zk5_4 : zE5 (o + 68) = eI G 10 zln23 := (zf5 _ (by omega) (by omega) (by omega) (by omega)).trans zh3_1
        have zk5_5 : zE5 (o + 69) = eI G 10 zwt23 := (zf5 _ (by omega) (by omega) (by omega) (by omega)).trans zh3_2
        have zfr5 : ∀ j, j ≠ (o + 67) → j ≠ (o + 68) → j ≠ (o + 69) → j ≠ (o + 70) → j ≠ (o + 71) → j ≠ (o + 72) → zE5 j = E j := fun j zm0 zm1 zm2 zm3 zm4 zm5 => (zf5 j zm0 zm3 zm4 zm5).trans (zfr3 j zm0 zm1 zm2)
        rw [zq5]
        exact r_iret C zw5 dX7_sent_44 ⟨zln23, zwt23, zog25, zen25, waitF (lenF s) (wtF s) j9 pg (j8 + 1), ztm25, pg, zh5_0, zk5_4, zk5_5, zh5_1, zh5_2, zh5_3, (fun j zm0 zm1 zm2 zm3 zm4 zm5 => zfr5 j zm0 zm1 zm2 zm3 zm4 zm5), (by rw [a_sent, if_pos ⟨zc6, zc16⟩, if_neg (by omega), nI_clamp (by omega), nI_clamp (by omega)]; rfl)⟩
    · refine lv_ldc (v := -1000000002) hx hb hown (hts (.constant RX7 62 (-1000000002)) (by decide +kernel)) dX7_sent_19 ?_
      exact r_iret C zw2 dX7_sent_21 ⟨ln, wt, og, en, wa, tm, rp, hE4, hE5, hE6, hE7, hE8, hE9, (fun j _ _ _ _ _ _ => rfl), (by rw [a_sent, if_neg (by first | exact fun zq => zc6 zq.1 | exact fun zq => zc16 zq.2)])⟩

set_option maxHeartbeats 4000000 in
set_option maxRecDepth 100000 in
theorem c_X7_waits {l : Launch} {G : vG} {tC : Nat} {ad : Nat → Nat} {N : Nat} {E : Nat → va_E} {o co pg cm hd : Nat} {lst md sd : Int32} {cs op : Nat → Int32} {s : Nat → Int32} {rp : Nat} {tm : Int32} {ln wt og en wa : Nat → Int32} {k rule n : Int32} (hN0 : o + 75 ≤ N) (hE0 : E o = .inr (4, [.ref (ad (o + 1)), .ref (ad (o + 4)), .ref (ad (o + 54)), .ref (ad (o + 61)), .ref (ad (o + 62)), .ref (ad (o + 67)), .ref (ad (o + 73)), .ref (ad (o + 74)), .int (nI co)])) (hE1 : E (o + 1) = .inr (2, [.ref (ad (o + 2)), .ref (ad (o + 3)), .int (nI pg), .int (nI cm), .int lst, .int md, .int sd, .int (nI hd)])) (hE2 : E (o + 2) = eI G 500 cs) (hE3 : E (o + 3) = eI G 4 op) (hE4 : E (o + 67) = .inr (1, [.ref (ad (o + 68)), .ref (ad (o + 69)), .ref (ad (o + 70)), .ref (ad (o + 71)), .ref (ad (o + 72)), .int (nI rp), .int tm])) (hE5 : E (o + 68) = eI G 10 ln) (hE6 : E (o + 69) = eI G 10 wt) (hE7 : E (o + 70) = eI G 10 og) (hE8 : E (o + 71) = eI G 10 en) (hE9 : E (o + 72) = eI G 10 wa) (hrep : RepS s cs op pg cm hd lst md (cm + 1)) : MI l yX7_waits wsX7_waits ({ frames := 6, cells := 0, slots := 0, locals := 136 } : Room) G tC ad N E [.ref (ad o), .int k, .int rule, .int n] (fun r E2 => ∃ ln2 : Nat → Int32, ∃ wt2 : Nat → Int32, ∃ og2 : Nat → Int32, ∃ en2 : Nat → Int32, ∃ wa2 : Nat → Int32, ∃ tm2 : Int32, ∃ rp2 : Nat, E2 (o + 67) = .inr (1, [.ref (ad (o + 68)), .ref (ad (o + 69)), .ref (ad (o + 70)), .ref (ad (o + 71)), .ref (ad (o + 72)), .int (nI rp2), .int tm2]) ∧ E2 (o + 68) = eI G 10 ln2 ∧ E2 (o + 69) = eI G 10 wt2 ∧ E2 (o + 70) = eI G 10 og2 ∧ E2 (o + 71) = eI G 10 en2 ∧ E2 (o + 72) = eI G 10 wa2 ∧ (∀ j, j ≠ (o + 67) → j ≠ (o + 68) → j ≠ (o + 69) → j ≠ (o + 70) → j ≠ (o + 71) → j ≠ (o + 72) → E2 j = E j) ∧ r = a_waits s pg k rule n) := by
  refine MI_of RX7 rfl (by decide) rfl (Nat.le_of_ble_eq_true rfl) ?_
  intro pp_ ee_ ss_ mm_ aa_ bb_ me_ cc_ A ls C hw hl
  have hx := C.1
  have hb := C.2.1
  have hown := C.2.2.2.2.1
  have hts := C.2.2.2.2.2.1
  have hl : lv_has ls 4 [(0, .ref (ad o)), (1, .int k), (2, .int rule), (3, .int n)] := hl
  have hinX7 : ∀ w ∈ u_ws RX7 TX7 9, w ∈ wsX7_waits := by decide +kernel
  have hag := hrep.2.2.1
  have hp := hrep.1.2.1
  refine lv_aload_n hx hb dX7_waits_0 rfl (lv_at hl 0 rfl) ?_
  refine r_get C hw RX7 TX7 9 4 hinX7 (i := o) (by omega) hE0 rfl 0 (by decide) (by decide +kernel) rfl (v := .ref (ad (o + 1))) rfl dX7_waits_1 ?_
  refine lv_iload_n hx hb dX7_waits_4 rfl (lv_at hl 1 rfl) ?_
  refine r_vI C hw hl.1 (i := (o + 1)) (by omega) hE1 (T := TX5) (n := 8) rfl [.int k] 1 rfl (c_X5_has (l := l) (G := G) (tC := tC) (ad := ad) (N := N) (E := E) (i := (o + 1)) (pg := pg) (cm := cm) (hd := hd) (lst := lst) (md := md) (sd := sd) (k := k) (by omega) hE1 (by first | assumption | omega)) gX7_waits_X5_has rfl ⟨rfl, rfl⟩ (by decide +kernel) ⟨Nat.le_of_ble_eq_true rfl, Nat.le_of_ble_eq_true rfl⟩ (rest := []) rfl (Nat.le_of_ble_eq_true rfl) dX7_waits_5 ⟨Nat.zero_le _, Nat.zero_le _⟩ (fun zr1 zE1 zH1 zL1 zp1 zw1 => ?_)
  obtain ⟨ze1, zq1⟩ := zp1
  rw [ze1] at zw1
  clear ze1
  rw [zq1]
  refine b_if_ne (tgt := 14) hx hb dX7_waits_8 (by decide) (fun zc8 => ?_) (fun zc8 => ?_)
  · obtain ⟨j9, zj9, rfl⟩ := has_of zc8
    refine lv_iload_n hx hb dX7_waits_14 rfl (lv_at hl 2 rfl) ?_
    refine lv_iconst (v := nI 0) hx hb dX7_waits_15 rfl ?_
    refine lv_iconst (v := nI 3) hx hb dX7_waits_16 rfl ?_
    refine r_sI C zw1 hl.1 [.int rule, .int (nI 0), .int (nI 3)] 3 rfl (c_X7_isWithin (l := l) (G := G) (tC := tC) (ad := ad) (N := N) (E := E) (x := rule) (a := nI 0) (b := nI 3)   ) gX7_waits_X7_isWithin rfl ⟨rfl, rfl⟩ (by decide +kernel) ⟨Nat.le_of_ble_eq_true rfl, Nat.le_of_ble_eq_true rfl⟩ (rest := []) rfl (Nat.le_of_ble_eq_true rfl) dX7_waits_17 ⟨Nat.zero_le _, Nat.zero_le _⟩ (fun zr2 zE2 zH2 zL2 zp2 zw2 => ?_)
    obtain ⟨ze2, zq2⟩ := zp2
    rw [ze2] at zw2
    clear ze2
    rw [zq2]
    refine b_if_eq (tgt := 33) hx hb dX7_waits_20 (by decide) (fun zc20 => ?_) (fun zc20 => ?_)
    · refine lv_ldc (v := -1000000002) hx hb hown (hts (.constant RX7 62 (-1000000002)) (by decide +kernel)) dX7_waits_33 ?_
      exact r_iret C zw2 dX7_waits_35 ⟨ln, wt, og, en, wa, tm, rp, hE4, hE5, hE6, hE7, hE8, hE9, (fun j _ _ _ _ _ _ => rfl), (by rw [a_waits, if_pos zc8, if_neg (by first | exact fun zq => zc20 zq.1 | exact fun zq => zc30 zq.2)])⟩
    · refine lv_iload_n hx hb dX7_waits_23 rfl (lv_at hl 3 rfl) ?_
      refine lv_iconst (v := nI 1) hx hb dX7_waits_24 rfl ?_
      refine lv_bipush (v := nI 60) hx hb dX7_waits_25 rfl ?_
      refine r_sI C zw2 hl.1 [.int n, .int (nI 1), .int (nI 60)] 3 rfl (c_X7_isWithin (l := l) (G := G) (tC := tC) (ad := ad) (N := N) (E := E) (x := n) (a := nI 1) (b := nI 60)   ) gX7_waits_X7_isWithin rfl ⟨rfl, rfl⟩ (by decide +kernel) ⟨Nat.le_of_ble_eq_true rfl, Nat.le_of_ble_eq_true rfl⟩ (rest := []) rfl (Nat.le_of_ble_eq_true rfl) dX7_waits_27 ⟨Nat.zero_le _, Nat.zero_le _⟩ (fun zr3 zE3 zH3 zL3 zp3 zw3 => ?_)
      obtain ⟨ze3, zq3⟩ := zp3
      rw [ze3] at zw3
      clear ze3
      rw [zq3]
      refine b_if_ne (tgt := 36) hx hb dX7_waits_30 (by decide) (fun zc30 => ?_) (fun zc30 => ?_)
      · obtain ⟨j8, zj8, rfl⟩ := in_of (by omega) zc20
        obtain ⟨j7, zj7, zj6, rfl⟩ := in_of1 (by omega) (by omega) zc30
        refine lv_aload_n hx hb dX7_waits_36 rfl (lv_at hl 0 rfl) ?_
        refine r_get C zw3 RX7 TX7 9 4 hinX7 (i := o) (by omega) hE0 rfl 5 (by decide) (by decide +kernel) rfl (v := .ref (ad (o + 67))) rfl dX7_waits_37 ?_
        refine lv_aload_n hx hb dX7_waits_40 rfl (lv_at hl 0 rfl) ?_
        refine r_get C zw3 RX7 TX7 9 4 hinX7 (i := o) (by omega) hE0 rfl 0 (by decide) (by decide +kernel) rfl (v := .ref (ad (o + 1))) rfl dX7_waits_41 ?_
        refine r_vV C zw3 hl.1 (i := (o + 67)) (by omega) hE4 (T := TX4) (n := 7) rfl [.ref (ad (o + 1))] 1 rfl (c_X4_prepare (l := l) (G := G) (tC := tC) (ad := ad) (N := N) (E := E) (i := (o + 1)) (pg := pg) (cm := cm) (hd := hd) (lst := lst) (md := md) (sd := sd) (cs := cs) (s := s) (z := (o + 67)) (rp := rp) (tm := tm) (ln := ln) (wt := wt) (og := og) (en := en) (wa := wa) (l9 := (lenF s)) (w9 := (wtF s)) (by omega) (by omega) hE1 hE2 hE4 hE5 hE6 (by first | assumption | omega) (by first | assumption | omega) (by first | assumption | omega)) gX7_waits_X4_prepare rfl ⟨rfl, rfl⟩ (by decide +kernel) ⟨Nat.le_of_ble_eq_true rfl, Nat.le_of_ble_eq_true rfl⟩ (rest := []) rfl (Nat.le_of_ble_eq_true rfl) dX7_waits_44 ⟨Nat.zero_le _, Nat.zero_le _⟩ (fun zE4 zH4 zL4 zp4 zw4 => ?_)
        obtain ⟨zln24, zwt24, zg4_0, zg4_1, zg4_2, zf4, zq4⟩ := zp4
        have zh4_0 : zE4 (o + 67) = .inr (1, [.ref (ad (o + 68)), .ref (ad (o + 69)), .ref (ad (o + 70)), .ref (ad (o + 71)), .ref (ad (o + 72)), .int (nI pg), .int tm]) := zg4_0
        have zh4_1 : zE4 (o + 68) = eI G 10 zln24 := zg4_1
        have zh4_2 : zE4 (o + 69) = eI G 10 zwt24 := zg4_2
        have zk4_0 : zE4 o = .inr (4, [.ref (ad (o + 1)), .ref (ad (o + 4)), .ref (ad (o + 54)), .ref (ad (o + 61)), .ref (ad (o + 62)), .ref (ad (o + 67)), .ref (ad (o + 73)), .ref (ad (o + 74)), .int (nI co)]) := (zf4 _ (by omega) (by omega) (by omega)).trans hE0
        have zk4_1 : zE4 (o + 1) = .inr (2, [.ref (ad (o + 2)), .ref (ad (o + 3)), .int (nI pg), .int (nI cm), .int lst, .int md, .int sd, .int (nI hd)]) := (zf4 _ (by omega) (by omega) (by omega)).trans hE1
        have zk4_2 : zE4 (o + 2) = eI G 500 cs := (zf4 _ (by omega) (by omega) (by omega)).trans hE2
        have zk4_3 : zE4 (o + 3) = eI G 4 op := (zf4 _ (by omega) (by omega) (by omega)).trans hE3
        have zk4_4 : zE4 (o + 70) = eI G 10 og := (zf4 _ (by omega) (by omega) (by omega)).trans hE7
        have zk4_5 : zE4 (o + 71) = eI G 10 en := (zf4 _ (by omega) (by omega) (by omega)).trans hE8
        have zk4_6 : zE4 (o + 72) = eI G 10 wa := (zf4 _ (by omega) (by omega) (by omega)).trans hE9
        have zfr4 : ∀ j, j ≠ (o + 67) → j ≠ (o + 68) → j ≠ (o + 69) → zE4 j = E j := fun j zm0 zm1 zm2 => zf4 j zm0 zm1 zm2
        refine lv_aload_n hx hb dX7_waits_47 rfl (lv_at hl 0 rfl) ?_
        refine r_get C zw4 RX7 TX7 9 4 hinX7 (i := o) (by omega) zk4_0 rfl 5 (by decide) (by decide +kernel) rfl (v := .ref (ad (o + 67))) rfl dX7_waits_48 ?_
        refine lv_iload_n hx hb dX7_waits_51 rfl (lv_at hl 2 rfl) ?_
        refine lv_iload_n hx hb dX7_waits_52 rfl (lv_at hl 3 rfl) ?_
        refine r_vI C zw4 hl.1 (i := (o + 67)) (by omega) zh4_0 (T := TX4) (n := 7) rfl [.int (nI j8), .int (nI j7)] 2 rfl (c_X4_run_y (l := l) (G := G) (tC := tC) (ad := ad) (N := N) (E := zE4) (z := (o + 67)) (rp := pg) (tm := tm) (ln := zln24) (wt := zwt24) (og := og) (en := en) (wa := wa) (l9 := (lenF s)) (w9 := (wtF s)) (rho := j8) (n := j7) (by omega) zh4_0 zh4_1 zh4_2 zk4_4 zk4_5 zk4_6 (by first | assumption | omega) (by first | assumption | omega) (by first | assumption | omega) (by first | assumption | omega) (by omega) (by first | assumption | omega)) gX7_waits_X4_run rfl ⟨rfl, rfl⟩ (by decide +kernel) ⟨Nat.le_of_ble_eq_true rfl, Nat.le_of_ble_eq_true rfl⟩ (rest := []) rfl (Nat.le_of_ble_eq_true rfl) dX7_waits_53 ⟨Nat.zero_le _, Nat.zero_le _⟩ (fun zr5 zE5 zH5 zL5 zp5 zw5 => ?_)
        obtain ⟨ztm25, zog25, zen25, zg5_0, zg5_1, zg5_2, zg5_3, zf5, zq5⟩ := zp5
        have zh5_0 : zE5 (o + 67) = .inr (1, [.ref (ad (o + 68)), .ref (ad (o + 69)), .ref (ad (o + 70)), .ref (ad (o + 71)), .ref (ad (o + 72)), .int (nI pg), .int ztm25]) := zg5_0
        have zh5_1 : zE5 (o + 70) = eI G 10 zog25 := zg5_1
        have zh5_2 : zE5 (o + 71) = eI G 10 zen25 := zg5_2
        have zh5_3 : zE5 (o + 72) = eI G 10 (waitF (lenF s) (wtF s) j8 pg j7) := zg5_3
        have zk5_0 : zE5 o = .inr (4, [.ref (ad (o + 1)), .ref (ad (o + 4)), .ref (ad (o + 54)), .ref (ad (o + 61)), .ref (ad (o + 62)), .ref (ad (o + 67)), .ref (ad (o + 73)), .ref (ad (o + 74)), .int (nI co)]) := (zf5 _ (by omega) (by omega) (by omega) (by omega)).trans zk4_0
        have zk5_1 : zE5 (o + 1) = .inr (2, [.ref (ad (o + 2)), .ref (ad (o + 3)), .int (nI pg), .int (nI cm), .int lst, .int md, .int sd, .int (nI hd)]) := (zf5 _ (by omega) (by omega) (by omega) (by omega)).trans zk4_1
        have zk5_2 : zE5 (o + 2) = eI G 500 cs := (zf5 _ (by omega) (by omega) (by omega) (by omega)).trans zk4_2
        have zk5_3 : zE5 (o + 3) = eI G 4 op := (zf5 _ (by omega) (by omega) (by omega) (by omega)).trans zk4_3
        have zk5_4 : zE5 (o + 68) = eI G 10 zln24 := (zf5 _ (by omega) (by omega) (by omega) (by omega)).trans zh4_1
        have zk5_5 : zE5 (o + 69) = eI G 10 zwt24 := (zf5 _ (by omega) (by omega) (by omega) (by omega)).trans zh4_2
        have zfr5 : ∀ j, j ≠ (o + 67) → j ≠ (o + 68) → j ≠ (o + 69) → j ≠ (o + 70) → j ≠ (o + 71) → j ≠ (o + 72) → zE5 j = E j := fun j zm0 zm1 zm2 zm3 zm4 zm5 => (zf5 j zm0 zm3 zm4 zm5).trans (zfr4 j zm0 zm1 zm2)
        rw [zq5]
        refine lv_pop hx hb dX7_waits_56 rfl ?_
        refine lv_aload_n hx hb dX7_waits_57 rfl (lv_at hl 0 rfl) ?_
        refine r_get C zw5 RX7 TX7 9 4 hinX7 (i := o) (by omega) zk5_0 rfl 5 (by decide) (by decide +kernel) rfl (v := .ref (ad (o + 67))) rfl dX7_waits_58 ?_
        refine lv_iload_n hx hb dX7_waits_61 rfl (lv_at hl 1 rfl) ?_
        refine r_vI C zw5 hl.1 (i := (o + 67)) (by omega) zh5_0 (T := TX4) (n := 7) rfl [.int (nI j9)] 1 rfl (c_X4_waitOf (l := l) (G := G) (tC := tC) (ad := ad) (N := N) (E := zE5) (z := (o + 67)) (rp := pg) (tm := ztm25) (wa := waitF (lenF s) (wtF s) j8 pg j7) (k := j9) (by omega) zh5_0 zh5_3 (by first | assumption | omega) (by first | assumption | omega)) gX7_waits_X4_waitOf rfl ⟨rfl, rfl⟩ (by decide +kernel) ⟨Nat.le_of_ble_eq_true rfl, Nat.le_of_ble_eq_true rfl⟩ (rest := []) rfl (Nat.le_of_ble_eq_true rfl) dX7_waits_62 ⟨Nat.zero_le _, Nat.zero_le _⟩ (fun zr6 zE6 zH6 zL6 zp6 zw6 => ?_)
        obtain ⟨ze6, zq6⟩ := zp6
        rw [ze6] at zw6
        clear ze6
        rw [zq6]
        exact r_iret C zw6 dX7_waits_65 ⟨zln24, zwt24, zog25, zen25, waitF (lenF s) (wtF s) j8 pg j7, ztm25, pg, zh5_0, zk5_4, zk5_5, zh5_1, zh5_2, zh5_3, (fun j zm0 zm1 zm2 zm3 zm4 zm5 => zfr5 j zm0 zm1 zm2 zm3 zm4 zm5), (by rw [a_waits, if_pos zc8, if_pos ⟨zc20, zc30⟩, nI_clamp (by omega), nI_clamp (by omega), nI_clamp (by omega)])⟩
      · refine lv_ldc (v := -1000000002) hx hb hown (hts (.constant RX7 62 (-1000000002)) (by decide +kernel)) dX7_waits_33 ?_
        exact r_iret C zw3 dX7_waits_35 ⟨ln, wt, og, en, wa, tm, rp, hE4, hE5, hE6, hE7, hE8, hE9, (fun j _ _ _ _ _ _ => rfl), (by rw [a_waits, if_pos zc8, if_neg (by first | exact fun zq => zc20 zq.1 | exact fun zq => zc30 zq.2)])⟩
  · refine lv_ldc (v := -1000000001) hx hb hown (hts (.constant RX7 103 (-1000000001)) (by decide +kernel)) dX7_waits_11 ?_
    exact r_iret C zw1 dX7_waits_13 ⟨ln, wt, og, en, wa, tm, rp, hE4, hE5, hE6, hE7, hE8, hE9, (fun j _ _ _ _ _ _ => rfl), (by rw [a_waits, if_neg zc8])⟩

set_option maxHeartbeats 4000000 in
set_option maxRecDepth 100000 in
theorem c_X7_bestRule {l : Launch} {G : vG} {tC : Nat} {ad : Nat → Nat} {N : Nat} {E : Nat → va_E} {o co pg cm hd : Nat} {lst md sd : Int32} {cs op : Nat → Int32} {s : Nat → Int32} {rp : Nat} {tm : Int32} {ln wt og en wa : Nat → Int32} {n : Int32} (hN0 : o + 75 ≤ N) (hE0 : E o = .inr (4, [.ref (ad (o + 1)), .ref (ad (o + 4)), .ref (ad (o + 54)), .ref (ad (o + 61)), .ref (ad (o + 62)), .ref (ad (o + 67)), .ref (ad (o + 73)), .ref (ad (o + 74)), .int (nI co)])) (hE1 : E (o + 1) = .inr (2, [.ref (ad (o + 2)), .ref (ad (o + 3)), .int (nI pg), .int (nI cm), .int lst, .int md, .int sd, .int (nI hd)])) (hE2 : E (o + 2) = eI G 500 cs) (hE3 : E (o + 3) = eI G 4 op) (hE4 : E (o + 67) = .inr (1, [.ref (ad (o + 68)), .ref (ad (o + 69)), .ref (ad (o + 70)), .ref (ad (o + 71)), .ref (ad (o + 72)), .int (nI rp), .int tm])) (hE5 : E (o + 68) = eI G 10 ln) (hE6 : E (o + 69) = eI G 10 wt) (hE7 : E (o + 70) = eI G 10 og) (hE8 : E (o + 71) = eI G 10 en) (hE9 : E (o + 72) = eI G 10 wa) (hrep : RepS s cs op pg cm hd lst md (cm + 1)) : MI l yX7_bestRule wsX7_bestRule ({ frames := 6, cells := 0, slots := 0, locals := 140 } : Room) G tC ad N E [.ref (ad o), .int n] (fun r E2 => ∃ ln2 : Nat → Int32, ∃ wt2 : Nat → Int32, ∃ og2 : Nat → Int32, ∃ en2 : Nat → Int32, ∃ wa2 : Nat → Int32, ∃ tm2 : Int32, ∃ rp2 : Nat, E2 (o + 67) = .inr (1, [.ref (ad (o + 68)), .ref (ad (o + 69)), .ref (ad (o + 70)), .ref (ad (o + 71)), .ref (ad (o + 72)), .int (nI rp2), .int tm2]) ∧ E2 (o + 68) = eI G 10 ln2 ∧ E2 (o + 69) = eI G 10 wt2 ∧ E2 (o + 70) = eI G 10 og2 ∧ E2 (o + 71) = eI G 10 en2 ∧ E2 (o + 72) = eI G 10 wa2 ∧ (∀ j, j ≠ (o + 67) → j ≠ (o + 68) → j ≠ (o + 69) → j ≠ (o + 70) → j ≠ (o + 71) → j ≠ (o + 72) → E2 j = E j) ∧ r = a_best s pg n) := by
  refine MI_of RX7 rfl (by decide) rfl (Nat.le_of_ble_eq_true rfl) ?_
  intro pp_ ee_ ss_ mm_ aa_ bb_ me_ cc_ A ls C hw hl
  have hx := C.1
  have hb := C.2.1
  have hown := C.2.2.2.2.1
  have hts := C.2.2.2.2.2.1
  have hl : lv_has ls 2 [(0, .ref (ad o)), (1, .int n)] := hl
  have hinX7 : ∀ w ∈ u_ws RX7 TX7 9, w ∈ wsX7_bestRule := by decide +kernel
  have hag := hrep.2.2.1
  have hp := hrep.1.2.1
  refine lv_iload_n hx hb dX7_bestRule_0 rfl (lv_at hl 1 rfl) ?_
  refine lv_iconst (v := nI 1) hx hb dX7_bestRule_1 rfl ?_
  refine lv_bipush (v := nI 60) hx hb dX7_bestRule_2 rfl ?_
  refine r_sI C hw hl.1 [.int n, .int (nI 1), .int (nI 60)] 3 rfl (c_X7_isWithin (l := l) (G := G) (tC := tC) (ad := ad) (N := N) (E := E) (x := n) (a := nI 1) (b := nI 60)   ) gX7_bestRule_X7_isWithin rfl ⟨rfl, rfl⟩ (by decide +kernel) ⟨Nat.le_of_ble_eq_true rfl, Nat.le_of_ble_eq_true rfl⟩ (rest := []) rfl (Nat.le_of_ble_eq_true rfl) dX7_bestRule_4 ⟨Nat.zero_le _, Nat.zero_le _⟩ (fun zr1 zE1 zH1 zL1 zp1 zw1 => ?_)
  obtain ⟨ze1, zq1⟩ := zp1
  rw [ze1] at zw1
  clear ze1
  rw [zq1]
  refine b_if_ne (tgt := 13) hx hb dX7_bestRule_7 (by decide) (fun zc7 => ?_) (fun zc7 => ?_)
  · obtain ⟨j7, zj7, zj6, rfl⟩ := in_of1 (by omega) (by omega) zc7
    refine lv_aload_n hx hb dX7_bestRule_13 rfl (lv_at hl 0 rfl) ?_
    refine r_get C zw1 RX7 TX7 9 4 hinX7 (i := o) (by omega) hE0 rfl 5 (by decide) (by decide +kernel) rfl (v := .ref (ad (o + 67))) rfl dX7_bestRule_14 ?_
    refine lv_aload_n hx hb dX7_bestRule_17 rfl (lv_at hl 0 rfl) ?_
    refine r_get C zw1 RX7 TX7 9 4 hinX7 (i := o) (by omega) hE0 rfl 0 (by decide) (by decide +kernel) rfl (v := .ref (ad (o + 1))) rfl dX7_bestRule_18 ?_
    refine r_vV C zw1 hl.1 (i := (o + 67)) (by omega) hE4 (T := TX4) (n := 7) rfl [.ref (ad (o + 1))] 1 rfl (c_X4_prepare (l := l) (G := G) (tC := tC) (ad := ad) (N := N) (E := E) (i := (o + 1)) (pg := pg) (cm := cm) (hd := hd) (lst := lst) (md := md) (sd := sd) (cs := cs) (s := s) (z := (o + 67)) (rp := rp) (tm := tm) (ln := ln) (wt := wt) (og := og) (en := en) (wa := wa) (l9 := (lenF s)) (w9 := (wtF s)) (by omega) (by omega) hE1 hE2 hE4 hE5 hE6 (by first | assumption | omega) (by first | assumption | omega) (by first | assumption | omega)) gX7_bestRule_X4_prepare rfl ⟨rfl, rfl⟩ (by decide +kernel) ⟨Nat.le_of_ble_eq_true rfl, Nat.le_of_ble_eq_true rfl⟩ (rest := []) rfl (Nat.le_of_ble_eq_true rfl) dX7_bestRule_21 ⟨Nat.zero_le _, Nat.zero_le _⟩ (fun zE2 zH2 zL2 zp2 zw2 => ?_)
    obtain ⟨zln22, zwt22, zg2_0, zg2_1, zg2_2, zf2, zq2⟩ := zp2
    have zh2_0 : zE2 (o + 67) = .inr (1, [.ref (ad (o + 68)), .ref (ad (o + 69)), .ref (ad (o + 70)), .ref (ad (o + 71)), .ref (ad (o + 72)), .int (nI pg), .int tm]) := zg2_0
    have zh2_1 : zE2 (o + 68) = eI G 10 zln22 := zg2_1
    have zh2_2 : zE2 (o + 69) = eI G 10 zwt22 := zg2_2
    have zk2_0 : zE2 o = .inr (4, [.ref (ad (o + 1)), .ref (ad (o + 4)), .ref (ad (o + 54)), .ref (ad (o + 61)), .ref (ad (o + 62)), .ref (ad (o + 67)), .ref (ad (o + 73)), .ref (ad (o + 74)), .int (nI co)]) := (zf2 _ (by omega) (by omega) (by omega)).trans hE0
    have zk2_1 : zE2 (o + 1) = .inr (2, [.ref (ad (o + 2)), .ref (ad (o + 3)), .int (nI pg), .int (nI cm), .int lst, .int md, .int sd, .int (nI hd)]) := (zf2 _ (by omega) (by omega) (by omega)).trans hE1
    have zk2_2 : zE2 (o + 2) = eI G 500 cs := (zf2 _ (by omega) (by omega) (by omega)).trans hE2
    have zk2_3 : zE2 (o + 3) = eI G 4 op := (zf2 _ (by omega) (by omega) (by omega)).trans hE3
    have zk2_4 : zE2 (o + 70) = eI G 10 og := (zf2 _ (by omega) (by omega) (by omega)).trans hE7
    have zk2_5 : zE2 (o + 71) = eI G 10 en := (zf2 _ (by omega) (by omega) (by omega)).trans hE8
    have zk2_6 : zE2 (o + 72) = eI G 10 wa := (zf2 _ (by omega) (by omega) (by omega)).trans hE9
    have zfr2 : ∀ j, j ≠ (o + 67) → j ≠ (o + 68) → j ≠ (o + 69) → zE2 j = E j := fun j zm0 zm1 zm2 => zf2 j zm0 zm1 zm2
    rcases Nat.eq_zero_or_pos pg with zs24 | zs24
    · refine lv_aload_n hx hb dX7_bestRule_24 rfl (lv_at hl 0 rfl) ?_
      refine r_get C zw2 RX7 TX7 9 4 hinX7 (i := o) (by omega) zk2_0 rfl 5 (by decide) (by decide +kernel) rfl (v := .ref (ad (o + 67))) rfl dX7_bestRule_25 ?_
      refine lv_iload_n hx hb dX7_bestRule_28 rfl (lv_at hl 1 rfl) ?_
      refine r_vI C zw2 hl.1 (i := (o + 67)) (by omega) zh2_0 (T := TX4) (n := 7) rfl [.int (nI j7)] 1 rfl (c_X4_best_0 (l := l) (G := G) (tC := tC) (ad := ad) (N := N) (E := zE2) (z := (o + 67)) (rp := pg) (tm := tm) (n := j7) (by omega) zh2_0 zs24) gX7_bestRule_X4_best rfl ⟨rfl, rfl⟩ (by decide +kernel) ⟨Nat.le_of_ble_eq_true rfl, Nat.le_of_ble_eq_true rfl⟩ (rest := []) rfl (Nat.le_of_ble_eq_true rfl) dX7_bestRule_29 ⟨Nat.zero_le _, Nat.zero_le _⟩ (fun zr3 zE3 zH3 zL3 zp3 zw3 => ?_)
      obtain ⟨ze3, zq3⟩ := zp3
      rw [ze3] at zw3
      clear ze3
      rw [zq3]
      exact r_iret C zw3 dX7_bestRule_32 ⟨zln22, zwt22, og, en, wa, tm, pg, zh2_0, zh2_1, zh2_2, zk2_4, zk2_5, zk2_6, (fun j zm0 zm1 zm2 zm3 zm4 zm5 => zfr2 j zm0 zm1 zm2), (by rw [a_best, if_pos zc7, if_pos zs24])⟩
    · refine lv_aload_n hx hb dX7_bestRule_24 rfl (lv_at hl 0 rfl) ?_
      refine r_get C zw2 RX7 TX7 9 4 hinX7 (i := o) (by omega) zk2_0 rfl 5 (by decide) (by decide +kernel) rfl (v := .ref (ad (o + 67))) rfl dX7_bestRule_25 ?_
      refine lv_iload_n hx hb dX7_bestRule_28 rfl (lv_at hl 1 rfl) ?_
      refine r_vI C zw2 hl.1 (i := (o + 67)) (by omega) zh2_0 (T := TX4) (n := 7) rfl [.int (nI j7)] 1 rfl (c_X4_best_y (l := l) (G := G) (tC := tC) (ad := ad) (N := N) (E := zE2) (z := (o + 67)) (rp := pg) (tm := tm) (ln := zln22) (wt := zwt22) (og := og) (en := en) (wa := wa) (l9 := (lenF s)) (w9 := (wtF s)) (n := j7) (by omega) zh2_0 zh2_1 zh2_2 zk2_4 zk2_5 zk2_6 (by first | assumption | omega) (by first | assumption | omega) (by first | assumption | omega) zs24 (by first | assumption | omega)) gX7_bestRule_X4_best rfl ⟨rfl, rfl⟩ (by decide +kernel) ⟨Nat.le_of_ble_eq_true rfl, Nat.le_of_ble_eq_true rfl⟩ (rest := []) rfl (Nat.le_of_ble_eq_true rfl) dX7_bestRule_29 ⟨Nat.zero_le _, Nat.zero_le _⟩ (fun zr4 zE4 zH4 zL4 zp4 zw4 => ?_)
      obtain ⟨ztm24, zog24, zen24, zwa24, zg4_0, zg4_1, zg4_2, zg4_3, zf4, zq4⟩ := zp4
      have zh4_0 : zE4 (o + 67) = .inr (1, [.ref (ad (o + 68)), .ref (ad (o + 69)), .ref (ad (o + 70)), .ref (ad (o + 71)), .ref (ad (o + 72)), .int (nI pg), .int ztm24]) := zg4_0
      have zh4_1 : zE4 (o + 70) = eI G 10 zog24 := zg4_1
      have zh4_2 : zE4 (o + 71) = eI G 10 zen24 := zg4_2
      have zh4_3 : zE4 (o + 72) = eI G 10 zwa24 := zg4_3
      have zk4_0 : zE4 o = .inr (4, [.ref (ad (o + 1)), .ref (ad (o + 4)), .ref (ad (o + 54)), .ref (ad (o + 61)), .ref (ad (o + 62)), .ref (ad (o + 67)), .ref (ad (o + 73)), .ref (ad (o + 74)), .int (nI co)]) := (zf4 _ (by omega) (by omega) (by omega) (by omega)).trans zk2_0
      have zk4_1 : zE4 (o + 1) = .inr (2, [.ref (ad (o + 2)), .ref (ad (o + 3)), .int (nI pg), .int (nI cm), .int lst, .int md, .int sd, .int (nI hd)]) := (zf4 _ (by omega) (by omega) (by omega) (by omega)).trans zk2_1
      have zk4_2 : zE4 (o + 2) = eI G 500 cs := (zf4 _ (by omega) (by omega) (by omega) (by omega)).trans zk2_2
      have zk4_3 : zE4 (o + 3) = eI G 4 op := (zf4 _ (by omega) (by omega) (by omega) (by omega)).trans zk2_3
      have zk4_4 : zE4 (o + 68) = eI G 10 zln22 := (zf4 _ (by omega) (by omega) (by omega) (by omega)).trans zh2_1
      have zk4_5 : zE4 (o + 69) = eI G 10 zwt22 := (zf4 _ (by omega) (by omega) (by omega) (by omega)).trans zh2_2
      have zfr4 : ∀ j, j ≠ (o + 67) → j ≠ (o + 68) → j ≠ (o + 69) → j ≠ (o + 70) → j ≠ (o + 71) → j ≠ (o + 72) → zE4 j = E j := fun j zm0 zm1 zm2 zm3 zm4 zm5 => (zf4 j zm0 zm3 zm4 zm5).trans (zfr2 j zm0 zm1 zm2)
      rw [zq4]
      exact r_iret C zw4 dX7_bestRule_32 ⟨zln22, zwt22, zog24, zen24, zwa24, ztm24, pg, zh4_0, zk4_4, zk4_5, zh4_1, zh4_2, zh4_3, (fun j zm0 zm1 zm2 zm3 zm4 zm5 => zfr4 j zm0 zm1 zm2 zm3 zm4 zm5), (by rw [a_best, if_pos zc7, if_neg (by omega), nI_clamp (by omega)])⟩
  · refine lv_ldc (v := -1000000002) hx hb hown (hts (.constant RX7 62 (-1000000002)) (by decide +kernel)) dX7_bestRule_10 ?_
    exact r_iret C zw1 dX7_bestRule_12 ⟨ln, wt, og, en, wa, tm, rp, hE4, hE5, hE6, hE7, hE8, hE9, (fun j _ _ _ _ _ _ => rfl), (by rw [a_best, if_neg zc7])⟩

