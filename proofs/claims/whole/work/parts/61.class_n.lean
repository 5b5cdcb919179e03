set_option maxHeartbeats 4000000 in
set_option maxRecDepth 100000 in
theorem c_X7_octet_n {l : Launch} {G : vG} {tC : Nat} {ad : Nat → Nat} {N : Nat} {E : Nat → va_E} {o co : Nat} {v : Int32} (hN0 : o + 75 ≤ N) (hE0 : E o = .inr (4, [.ref (ad (o + 1)), .ref (ad (o + 4)), .ref (ad (o + 54)), .ref (ad (o + 61)), .ref (ad (o + 62)), .ref (ad (o + 67)), .ref (ad (o + 73)), .ref (ad (o + 74)), .int (nI co)])) (hno : ¬ (nI 0 ≤ v ∧ v ≤ nI 255)) : MI l yX7_octet wsX7_octet ({ frames := 7, cells := 0, slots := 0, locals := 162 } : Room) G tC ad N E [.ref (ad o), .int v] (fun r E2 => E2 = E ∧ r = -1000000002) := by
  refine MI_of RX7 rfl (by decide) rfl (Nat.le_of_ble_eq_true rfl) ?_
  intro pp_ ee_ ss_ mm_ aa_ bb_ me_ cc_ A ls C hw hl
  have hx := C.1
  have hb := C.2.1
  have hown := C.2.2.2.2.1
  have hts := C.2.2.2.2.2.1
  have hl : lv_has ls 2 [(0, .ref (ad o)), (1, .int v)] := hl
  have hinX7 : ∀ w ∈ u_ws RX7 TX7 9, w ∈ wsX7_octet := by decide +kernel
  refine lv_iload_n hx hb dX7_octet_0 rfl (lv_at hl 1 rfl) ?_
  refine lv_iconst (v := nI 0) hx hb dX7_octet_1 rfl ?_
  refine lv_sipush (v := nI 255) hx hb dX7_octet_2 rfl ?_
  refine r_sI C hw hl.1 [.int v, .int (nI 0), .int (nI 255)] 3 rfl (c_X7_isWithin (l := l) (G := G) (tC := tC) (ad := ad) (N := N) (E := E) (x := v) (a := nI 0) (b := nI 255)   ) gX7_octet_X7_isWithin rfl ⟨rfl, rfl⟩ (by decide +kernel) ⟨Nat.le_of_ble_eq_true rfl, Nat.le_of_ble_eq_true rfl⟩ (rest := []) rfl (Nat.le_of_ble_eq_true rfl) dX7_octet_5 ⟨Nat.zero_le _, Nat.zero_le _⟩ (fun zr1 zE1 zH1 zL1 zp1 zw1 => ?_)
  obtain ⟨ze1, zq1⟩ := zp1
  rw [ze1] at zw1
  clear ze1
  rw [zq1]
  refine b_if_eq (tgt := 24) hx hb dX7_octet_8 (by decide) (fun zc8 => ?_) (fun zc8 => ?_)
  · refine lv_ldc (v := -1000000002) hx hb hown (hts (.constant RX7 62 (-1000000002)) (by decide +kernel)) dX7_octet_24 ?_
    exact r_iret C zw1 dX7_octet_26 ⟨rfl, (by rfl)⟩
  · exact absurd zc8 hno

set_option maxHeartbeats 4000000 in
set_option maxRecDepth 100000 in
theorem c_X7_octet_y {l : Launch} {G : vG} {tC : Nat} {ad : Nat → Nat} {N : Nat} {E : Nat → va_E} {o co v : Nat} {cg : Nat → Int32} (hN0 : o + 75 ≤ N) (hE0 : E o = .inr (4, [.ref (ad (o + 1)), .ref (ad (o + 4)), .ref (ad (o + 54)), .ref (ad (o + 61)), .ref (ad (o + 62)), .ref (ad (o + 67)), .ref (ad (o + 73)), .ref (ad (o + 74)), .int (nI co)])) (hE1 : E (o + 73) = eI G 10 cg) (hv : v ≤ 255) (hco : co < 9) : MI l yX7_octet wsX7_octet ({ frames := 7, cells := 0, slots := 0, locals := 162 } : Room) G tC ad N E [.ref (ad o), .int (nI v)] (fun r E2 => E2 o = .inr (4, [.ref (ad (o + 1)), .ref (ad (o + 4)), .ref (ad (o + 54)), .ref (ad (o + 61)), .ref (ad (o + 62)), .ref (ad (o + 67)), .ref (ad (o + 73)), .ref (ad (o + 74)), .int (nI (co + 1))]) ∧ E2 (o + 73) = eI G 10 (upd cg co (nI v)) ∧ (∀ j, j ≠ o → j ≠ (o + 73) → E2 j = E j) ∧ r = nI (co + 1)) := by
  refine MI_of RX7 rfl (by decide) rfl (Nat.le_of_ble_eq_true rfl) ?_
  intro pp_ ee_ ss_ mm_ aa_ bb_ me_ cc_ A ls C hw hl
  have hx := C.1
  have hb := C.2.1
  have hown := C.2.2.2.2.1
  have hts := C.2.2.2.2.2.1
  have hl : lv_has ls 2 [(0, .ref (ad o)), (1, .int (nI v))] := hl
  have hinX7 : ∀ w ∈ u_ws RX7 TX7 9, w ∈ wsX7_octet := by decide +kernel
  refine lv_iload_n hx hb dX7_octet_0 rfl (lv_at hl 1 rfl) ?_
  refine lv_iconst (v := nI 0) hx hb dX7_octet_1 rfl ?_
  refine lv_sipush (v := nI 255) hx hb dX7_octet_2 rfl ?_
  refine r_sI C hw hl.1 [.int (nI v), .int (nI 0), .int (nI 255)] 3 rfl (c_X7_isWithin (l := l) (G := G) (tC := tC) (ad := ad) (N := N) (E := E) (x := nI v) (a := nI 0) (b := nI 255)   ) gX7_octet_X7_isWithin rfl ⟨rfl, rfl⟩ (by decide +kernel) ⟨Nat.le_of_ble_eq_true rfl, Nat.le_of_ble_eq_true rfl⟩ (rest := []) rfl (Nat.le_of_ble_eq_true rfl) dX7_octet_5 ⟨Nat.zero_le _, Nat.zero_le _⟩ (fun zr1 zE1 zH1 zL1 zp1 zw1 => ?_)
  obtain ⟨ze1, zq1⟩ := zp1
  rw [ze1] at zw1
  clear ze1
  rw [zq1]
  refine b_if_eq (tgt := 24) hx hb dX7_octet_8 (by decide) (fun zc8 => ?_) (fun zc8 => ?_)
  · exact absurd (in_nI (by omega) (by omega)) zc8
  · refine lv_aload_n hx hb dX7_octet_11 rfl (lv_at hl 0 rfl) ?_
    refine r_get C zw1 RX7 TX7 9 4 hinX7 (i := o) (by omega) hE0 rfl 8 (by decide) (by decide +kernel) rfl (v := .int (nI co)) rfl dX7_octet_12 ?_
    refine lv_iconst (v := nI 0) hx hb dX7_octet_15 rfl ?_
    refine lv_bipush (v := nI 9) hx hb dX7_octet_16 rfl ?_
    refine r_sI C zw1 hl.1 [.int (nI co), .int (nI 0), .int (nI 9)] 3 rfl (c_X7_isWithin (l := l) (G := G) (tC := tC) (ad := ad) (N := N) (E := E) (x := nI co) (a := nI 0) (b := nI 9)   ) gX7_octet_X7_isWithin rfl ⟨rfl, rfl⟩ (by decide +kernel) ⟨Nat.le_of_ble_eq_true rfl, Nat.le_of_ble_eq_true rfl⟩ (rest := []) rfl (Nat.le_of_ble_eq_true rfl) dX7_octet_18 ⟨Nat.zero_le _, Nat.zero_le _⟩ (fun zr2 zE2 zH2 zL2 zp2 zw2 => ?_)
    obtain ⟨ze2, zq2⟩ := zp2
    rw [ze2] at zw2
    clear ze2
    rw [zq2]
    refine b_if_ne (tgt := 27) hx hb dX7_octet_21 (by decide) (fun zc21 => ?_) (fun zc21 => ?_)
    · refine lv_aload_n hx hb dX7_octet_27 rfl (lv_at hl 0 rfl) ?_
      refine r_get C zw2 RX7 TX7 9 4 hinX7 (i := o) (by omega) hE0 rfl 6 (by decide) (by decide +kernel) rfl (v := .ref (ad (o + 73))) rfl dX7_octet_28 ?_
      refine lv_aload_n hx hb dX7_octet_31 rfl (lv_at hl 0 rfl) ?_
      refine r_get C zw2 RX7 TX7 9 4 hinX7 (i := o) (by omega) hE0 rfl 8 (by decide) (by decide +kernel) rfl (v := .int (nI co)) rfl dX7_octet_32 ?_
      refine lv_iload_n hx hb dX7_octet_35 rfl (lv_at hl 1 rfl) ?_
      refine r_iasN C zw2 (i := (o + 73)) (by omega) hE1 (j := co) (by omega) (by omega) dX7_octet_36 (fun zE3 zH3 zL3 zg3 zf3 zw3 => ?_)
      have zh3_0 : zE3 (o + 73) = eI G 10 (upd cg co (nI v)) := zg3
      have zk3_0 : zE3 o = .inr (4, [.ref (ad (o + 1)), .ref (ad (o + 4)), .ref (ad (o + 54)), .ref (ad (o + 61)), .ref (ad (o + 62)), .ref (ad (o + 67)), .ref (ad (o + 73)), .ref (ad (o + 74)), .int (nI co)]) := (zf3 _ (by omega)).trans hE0
      have zfr3 : ∀ j, j ≠ (o + 73) → zE3 j = E j := fun j zm0 => zf3 j zm0
      refine lv_aload_n hx hb dX7_octet_37 rfl (lv_at hl 0 rfl) ?_
      refine lv_dup hx hb dX7_octet_38 rfl ?_
      refine r_get C zw3 RX7 TX7 9 4 hinX7 (i := o) (by omega) zk3_0 rfl 8 (by decide) (by decide +kernel) rfl (v := .int (nI co)) rfl dX7_octet_39 ?_
      refine lv_iconst (v := nI 1) hx hb dX7_octet_42 rfl ?_
      refine lv_iadd hx hb dX7_octet_43 ?_
      refine r_nat (co + 1) (nI_add _ _) ?_
      refine r_put C zw3 RX7 TX7 9 4 hinX7 tyX7 tyX7_ok nmX7 (i := o) (by omega) zk3_0 rfl 8 (by decide) (by decide +kernel) rfl rfl (v := .int (nI (co + 1))) rfl rfl (Nat.le_of_ble_eq_true rfl) dX7_octet_44 (fun zE4 zH4 zL4 zg4 zf4 zw4 => ?_)
      have zh4_0 : zE4 o = .inr (4, [.ref (ad (o + 1)), .ref (ad (o + 4)), .ref (ad (o + 54)), .ref (ad (o + 61)), .ref (ad (o + 62)), .ref (ad (o + 67)), .ref (ad (o + 73)), .ref (ad (o + 74)), .int (nI (co + 1))]) := zg4
      have zk4_0 : zE4 (o + 73) = eI G 10 (upd cg co (nI v)) := (zf4 _ (by omega)).trans zh3_0
      have zfr4 : ∀ j, j ≠ (o + 73) → j ≠ o → zE4 j = E j := fun j zm0 zm1 => (zf4 j zm1).trans (zfr3 j zm0)
      refine lv_aload_n hx hb dX7_octet_47 rfl (lv_at hl 0 rfl) ?_
      refine r_get C zw4 RX7 TX7 9 4 hinX7 (i := o) (by omega) zh4_0 rfl 8 (by decide) (by decide +kernel) rfl (v := .int (nI (co + 1))) rfl dX7_octet_48 ?_
      refine lv_bipush (v := nI 10) hx hb dX7_octet_51 rfl ?_
      refine n_icmp_ne (tgt := 70) hx hb dX7_octet_53 (by decide) (by omega) (by omega) (fun zc53 => ?_) (fun zc53 => ?_)
      · refine lv_aload_n hx hb dX7_octet_70 rfl (lv_at hl 0 rfl) ?_
        refine r_get C zw4 RX7 TX7 9 4 hinX7 (i := o) (by omega) zh4_0 rfl 8 (by decide) (by decide +kernel) rfl (v := .int (nI (co + 1))) rfl dX7_octet_71 ?_
        exact r_iret C zw4 dX7_octet_74 ⟨zh4_0, zk4_0, (fun j zm0 zm1 => zfr4 j zm1 zm0), (by rfl)⟩
      · exact absurd zc53 (by omega)
    · exact absurd (in_nI (by omega) (by omega)) zc21

set_option maxHeartbeats 4000000 in
set_option maxRecDepth 100000 in
theorem c_X7_octet_f {l : Launch} {G : vG} {tC : Nat} {ad : Nat → Nat} {N : Nat} {E : Nat → va_E} {o pg cm hd : Nat} {lst md sd : Int32} {cs op : Nat → Int32} {pm : Nat} {pa s : Nat → Int32} {v : Nat} {cg : Nat → Int32} {ck : Nat → Nat} (hN0 : o + 75 ≤ N) (hE0 : E o = .inr (4, [.ref (ad (o + 1)), .ref (ad (o + 4)), .ref (ad (o + 54)), .ref (ad (o + 61)), .ref (ad (o + 62)), .ref (ad (o + 67)), .ref (ad (o + 73)), .ref (ad (o + 74)), .int (nI 9)])) (hE1 : E (o + 1) = .inr (2, [.ref (ad (o + 2)), .ref (ad (o + 3)), .int (nI pg), .int (nI cm), .int lst, .int md, .int sd, .int (nI hd)])) (hE2 : E (o + 2) = eI G 500 cs) (hE3 : E (o + 3) = eI G 4 op) (hE4 : E (o + 73) = eI G 10 cg) (hv : v ≤ 255) (hck : ∀ j, j < 9 → cg j = nI (ck j) ∧ ck j < 256) (hrg : Ring G ad E (o + 4) pa pm) (hrep : RepS s cs op pg cm hd lst md (cm + 1)) (hcm : cm + 1 < 1000000) : MI l yX7_octet wsX7_octet ({ frames := 7, cells := 0, slots := 0, locals := 162 } : Room) G tC ad N E [.ref (ad o), .int (nI v)] (fun r E2 => ∃ cs2 : Nat → Int32, ∃ op2 : Nat → Int32, ∃ pg2 : Nat, ∃ hd2 : Nat, ∃ lst2 : Int32, ∃ md2 : Int32, E2 o = .inr (4, [.ref (ad (o + 1)), .ref (ad (o + 4)), .ref (ad (o + 54)), .ref (ad (o + 61)), .ref (ad (o + 62)), .ref (ad (o + 67)), .ref (ad (o + 73)), .ref (ad (o + 74)), .int (nI 0)]) ∧ E2 (o + 1) = .inr (2, [.ref (ad (o + 2)), .ref (ad (o + 3)), .int (nI pg2), .int (nI (cm + 1)), .int lst2, .int md2, .int sd, .int (nI hd2)]) ∧ E2 (o + 2) = eI G 500 cs2 ∧ E2 (o + 3) = eI G 4 op2 ∧ E2 (o + 73) = eI G 10 (upd cg 9 (nI v)) ∧ (∀ j, j ≠ o → j ≠ (o + 1) → j ≠ (o + 2) → j ≠ (o + 3) → j ≠ (o + 73) → ¬ (o + 4 ≤ j ∧ j < o + 54) → E2 j = E j) ∧ RepS (cmF s pg (ckV ck v)) cs2 op2 pg2 (cm + 1) hd2 lst2 md2 (cm + 1 + 1) ∧ Ring G ad E2 (o + 4) (ntF pa pm s) (ntK pm + 1) ∧ r = nI 0) := by
  refine MI_of RX7 rfl (by decide) rfl (Nat.le_of_ble_eq_true rfl) ?_
  intro pp_ ee_ ss_ mm_ aa_ bb_ me_ cc_ A ls C hw hl
  have hx := C.1
  have hb := C.2.1
  have hown := C.2.2.2.2.1
  have hts := C.2.2.2.2.2.1
  have hl : lv_has ls 2 [(0, .ref (ad o)), (1, .int (nI v))] := hl
  have hinX7 : ∀ w ∈ u_ws RX7 TX7 9, w ∈ wsX7_octet := by decide +kernel
  refine lv_iload_n hx hb dX7_octet_0 rfl (lv_at hl 1 rfl) ?_
  refine lv_iconst (v := nI 0) hx hb dX7_octet_1 rfl ?_
  refine lv_sipush (v := nI 255) hx hb dX7_octet_2 rfl ?_
  refine r_sI C hw hl.1 [.int (nI v), .int (nI 0), .int (nI 255)] 3 rfl (c_X7_isWithin (l := l) (G := G) (tC := tC) (ad := ad) (N := N) (E := E) (x := nI v) (a := nI 0) (b := nI 255)   ) gX7_octet_X7_isWithin rfl ⟨rfl, rfl⟩ (by decide +kernel) ⟨Nat.le_of_ble_eq_true rfl, Nat.le_of_ble_eq_true rfl⟩ (rest := []) rfl (Nat.le_of_ble_eq_true rfl) dX7_octet_5 ⟨Nat.zero_le _, Nat.zero_le _⟩ (fun zr1 zE1 zH1 zL1 zp1 zw1 => ?_)
  obtain ⟨ze1, zq1⟩ := zp1
  rw [ze1] at zw1
  clear ze1
  rw [zq1]
  refine b_if_eq (tgt := 24) hx hb dX7_octet_8 (by decide) (fun zc8 => ?_) (fun zc8 => ?_)
  · exact absurd (in_nI (by omega) (by omega)) zc8
  · refine lv_aload_n hx hb dX7_octet_11 rfl (lv_at hl 0 rfl) ?_
    refine r_get C zw1 RX7 TX7 9 4 hinX7 (i := o) (by omega) hE0 rfl 8 (by decide) (by decide +kernel) rfl (v := .int (nI 9)) rfl dX7_octet_12 ?_
    refine lv_iconst (v := nI 0) hx hb dX7_octet_15 rfl ?_
    refine lv_bipush (v := nI 9) hx hb dX7_octet_16 rfl ?_
    refine r_sI C zw1 hl.1 [.int (nI 9), .int (nI 0), .int (nI 9)] 3 rfl (c_X7_isWithin (l := l) (G := G) (tC := tC) (ad := ad) (N := N) (E := E) (x := nI 9) (a := nI 0) (b := nI 9)   ) gX7_octet_X7_isWithin rfl ⟨rfl, rfl⟩ (by decide +kernel) ⟨Nat.le_of_ble_eq_true rfl, Nat.le_of_ble_eq_true rfl⟩ (rest := []) rfl (Nat.le_of_ble_eq_true rfl) dX7_octet_18 ⟨Nat.zero_le _, Nat.zero_le _⟩ (fun zr2 zE2 zH2 zL2 zp2 zw2 => ?_)
    obtain ⟨ze2, zq2⟩ := zp2
    rw [ze2] at zw2
    clear ze2
    rw [zq2]
    refine b_if_ne (tgt := 27) hx hb dX7_octet_21 (by decide) (fun zc21 => ?_) (fun zc21 => ?_)
    · refine lv_aload_n hx hb dX7_octet_27 rfl (lv_at hl 0 rfl) ?_
      refine r_get C zw2 RX7 TX7 9 4 hinX7 (i := o) (by omega) hE0 rfl 6 (by decide) (by decide +kernel) rfl (v := .ref (ad (o + 73))) rfl dX7_octet_28 ?_
      refine lv_aload_n hx hb dX7_octet_31 rfl (lv_at hl 0 rfl) ?_
      refine r_get C zw2 RX7 TX7 9 4 hinX7 (i := o) (by omega) hE0 rfl 8 (by decide) (by decide +kernel) rfl (v := .int (nI 9)) rfl dX7_octet_32 ?_
      refine lv_iload_n hx hb dX7_octet_35 rfl (lv_at hl 1 rfl) ?_
      refine r_iasN C zw2 (i := (o + 73)) (by omega) hE4 (j := 9) (by omega) (by omega) dX7_octet_36 (fun zE3 zH3 zL3 zg3 zf3 zw3 => ?_)
      have zh3_0 : zE3 (o + 73) = eI G 10 (upd cg 9 (nI v)) := zg3
      have zk3_0 : zE3 o = .inr (4, [.ref (ad (o + 1)), .ref (ad (o + 4)), .ref (ad (o + 54)), .ref (ad (o + 61)), .ref (ad (o + 62)), .ref (ad (o + 67)), .ref (ad (o + 73)), .ref (ad (o + 74)), .int (nI 9)]) := (zf3 _ (by omega)).trans hE0
      have zk3_1 : zE3 (o + 1) = .inr (2, [.ref (ad (o + 2)), .ref (ad (o + 3)), .int (nI pg), .int (nI cm), .int lst, .int md, .int sd, .int (nI hd)]) := (zf3 _ (by omega)).trans hE1
      have zk3_2 : zE3 (o + 2) = eI G 500 cs := (zf3 _ (by omega)).trans hE2
      have zk3_3 : zE3 (o + 3) = eI G 4 op := (zf3 _ (by omega)).trans hE3
      have zfr3 : ∀ j, j ≠ (o + 73) → zE3 j = E j := fun j zm0 => zf3 j zm0
      have zy3_rg : Ring G ad zE3 (o + 4) pa pm := hrg.same (fun j zj1 zj2 => zf3 j (by omega))
      refine lv_aload_n hx hb dX7_octet_37 rfl (lv_at hl 0 rfl) ?_
      refine lv_dup hx hb dX7_octet_38 rfl ?_
      refine r_get C zw3 RX7 TX7 9 4 hinX7 (i := o) (by omega) zk3_0 rfl 8 (by decide) (by decide +kernel) rfl (v := .int (nI 9)) rfl dX7_octet_39 ?_
      refine lv_iconst (v := nI 1) hx hb dX7_octet_42 rfl ?_
      refine lv_iadd hx hb dX7_octet_43 ?_
      refine r_nat (9 + 1) (nI_add _ _) ?_
      refine r_put C zw3 RX7 TX7 9 4 hinX7 tyX7 tyX7_ok nmX7 (i := o) (by omega) zk3_0 rfl 8 (by decide) (by decide +kernel) rfl rfl (v := .int (nI (9 + 1))) rfl rfl (Nat.le_of_ble_eq_true rfl) dX7_octet_44 (fun zE4 zH4 zL4 zg4 zf4 zw4 => ?_)
      have zh4_0 : zE4 o = .inr (4, [.ref (ad (o + 1)), .ref (ad (o + 4)), .ref (ad (o + 54)), .ref (ad (o + 61)), .ref (ad (o + 62)), .ref (ad (o + 67)), .ref (ad (o + 73)), .ref (ad (o + 74)), .int (nI (9 + 1))]) := zg4
      have zk4_0 : zE4 (o + 1) = .inr (2, [.ref (ad (o + 2)), .ref (ad (o + 3)), .int (nI pg), .int (nI cm), .int lst, .int md, .int sd, .int (nI hd)]) := (zf4 _ (by omega)).trans zk3_1
      have zk4_1 : zE4 (o + 2) = eI G 500 cs := (zf4 _ (by omega)).trans zk3_2
      have zk4_2 : zE4 (o + 3) = eI G 4 op := (zf4 _ (by omega)).trans zk3_3
      have zk4_3 : zE4 (o + 73) = eI G 10 (upd cg 9 (nI v)) := (zf4 _ (by omega)).trans zh3_0
      have zfr4 : ∀ j, j ≠ (o + 73) → j ≠ o → zE4 j = E j := fun j zm0 zm1 => (zf4 j zm1).trans (zfr3 j zm0)
      have zy4_rg : Ring G ad zE4 (o + 4) pa pm := zy3_rg.same (fun j zj1 zj2 => zf4 j (by omega))
      refine lv_aload_n hx hb dX7_octet_47 rfl (lv_at hl 0 rfl) ?_
      refine r_get C zw4 RX7 TX7 9 4 hinX7 (i := o) (by omega) zh4_0 rfl 8 (by decide) (by decide +kernel) rfl (v := .int (nI (9 + 1))) rfl dX7_octet_48 ?_
      refine lv_bipush (v := nI 10) hx hb dX7_octet_51 rfl ?_
      refine n_icmp_ne (tgt := 70) hx hb dX7_octet_53 (by decide) (by omega) (by omega) (fun zc53 => ?_) (fun zc53 => ?_)
      · exact absurd rfl zc53
      · refine lv_aload_n hx hb dX7_octet_56 rfl (lv_at hl 0 rfl) ?_
        refine lv_iconst (v := nI 0) hx hb dX7_octet_57 rfl ?_
        refine r_put C zw4 RX7 TX7 9 4 hinX7 tyX7 tyX7_ok nmX7 (i := o) (by omega) zh4_0 rfl 8 (by decide) (by decide +kernel) rfl rfl (v := .int (nI 0)) rfl rfl (Nat.le_of_ble_eq_true rfl) dX7_octet_58 (fun zE5 zH5 zL5 zg5 zf5 zw5 => ?_)
        have zh5_0 : zE5 o = .inr (4, [.ref (ad (o + 1)), .ref (ad (o + 4)), .ref (ad (o + 54)), .ref (ad (o + 61)), .ref (ad (o + 62)), .ref (ad (o + 67)), .ref (ad (o + 73)), .ref (ad (o + 74)), .int (nI 0)]) := zg5
        have zk5_0 : zE5 (o + 1) = .inr (2, [.ref (ad (o + 2)), .ref (ad (o + 3)), .int (nI pg), .int (nI cm), .int lst, .int md, .int sd, .int (nI hd)]) := (zf5 _ (by omega)).trans zk4_0
        have zk5_1 : zE5 (o + 2) = eI G 500 cs := (zf5 _ (by omega)).trans zk4_1
        have zk5_2 : zE5 (o + 3) = eI G 4 op := (zf5 _ (by omega)).trans zk4_2
        have zk5_3 : zE5 (o + 73) = eI G 10 (upd cg 9 (nI v)) := (zf5 _ (by omega)).trans zk4_3
        have zfr5 : ∀ j, j ≠ (o + 73) → j ≠ o → zE5 j = E j := fun j zm0 zm1 => (zf5 j zm1).trans (zfr4 j zm0 zm1)
        have zy5_rg : Ring G ad zE5 (o + 4) pa pm := zy4_rg.same (fun j zj1 zj2 => zf5 j (by omega))
        refine lv_aload_n hx hb dX7_octet_61 rfl (lv_at hl 0 rfl) ?_
        refine lv_aload_n hx hb dX7_octet_62 rfl (lv_at hl 0 rfl) ?_
        refine r_get C zw5 RX7 TX7 9 4 hinX7 (i := o) (by omega) zh5_0 rfl 6 (by decide) (by decide +kernel) rfl (v := .ref (ad (o + 73))) rfl dX7_octet_63 ?_
        refine r_vI C zw5 hl.1 (i := o) (by omega) zh5_0 (T := TX7) (n := 9) rfl [.ref (ad (o + 73))] 1 rfl (c_X7_comes (l := l) (G := G) (tC := tC) (ad := ad) (N := N) (E := zE5) (o := o) (co := 0) (pg := pg) (cm := cm) (hd := hd) (lst := lst) (md := md) (sd := sd) (cs := cs) (op := op) (w9 := (o + 73)) (pt := upd cg 9 (nI v)) (pk := (ckV ck v)) (pm := pm) (pa := pa) (s := s) (by omega) (by omega) zh5_0 zk5_0 zk5_1 zk5_2 zk5_3 (by omega) (ck_upd (by omega) hck) zy5_rg (by first | assumption | omega) (by first | assumption | omega)) gX7_octet_X7_comes rfl ⟨rfl, rfl⟩ (by decide +kernel) ⟨Nat.le_of_ble_eq_true rfl, Nat.le_of_ble_eq_true rfl⟩ (rest := []) rfl (Nat.le_of_ble_eq_true rfl) dX7_octet_66 ⟨Nat.zero_le _, Nat.zero_le _⟩ (fun zr6 zE6 zH6 zL6 zp6 zw6 => ?_)
        obtain ⟨zcs26, zop26, zpg26, zhd26, zlst26, zmd26, zg6_0, zg6_1, zg6_2, zf6, zq6⟩ := zp6
        have zh6_0 : zE6 (o + 1) = .inr (2, [.ref (ad (o + 2)), .ref (ad (o + 3)), .int (nI zpg26), .int (nI (cm + 1)), .int zlst26, .int zmd26, .int sd, .int (nI zhd26)]) := zg6_0
        have zh6_1 : zE6 (o + 2) = eI G 500 zcs26 := zg6_1
        have zh6_2 : zE6 (o + 3) = eI G 4 zop26 := zg6_2
        have zk6_0 : zE6 (o + 73) = eI G 10 (upd cg 9 (nI v)) := (zf6 _ (by omega) (by omega) (by omega) (by omega)).trans zk5_3
        have zk6_1 : zE6 o = .inr (4, [.ref (ad (o + 1)), .ref (ad (o + 4)), .ref (ad (o + 54)), .ref (ad (o + 61)), .ref (ad (o + 62)), .ref (ad (o + 67)), .ref (ad (o + 73)), .ref (ad (o + 74)), .int (nI 0)]) := (zf6 _ (by omega) (by omega) (by omega) (by omega)).trans zh5_0
        have zfr6 : ∀ j, j ≠ (o + 73) → j ≠ o → j ≠ (o + 1) → j ≠ (o + 2) → j ≠ (o + 3) → ¬ ((o + 4) ≤ j ∧ j < (o + 54)) → zE6 j = E j := fun j zm0 zm1 zm2 zm3 zm4 zm5 => (zf6 j zm2 zm3 zm4 zm5).trans (zfr5 j zm0 zm1)
        obtain ⟨ztr, zrg6, ztb⟩ := zq6
        refine lv_pop hx hb dX7_octet_69 rfl ?_
        refine lv_aload_n hx hb dX7_octet_70 rfl (lv_at hl 0 rfl) ?_
        refine r_get C zw6 RX7 TX7 9 4 hinX7 (i := o) (by omega) zk6_1 rfl 8 (by decide) (by decide +kernel) rfl (v := .int (nI 0)) rfl dX7_octet_71 ?_
        exact r_iret C zw6 dX7_octet_74 ⟨zcs26, zop26, zpg26, zhd26, zlst26, zmd26, zk6_1, zh6_0, zh6_1, zh6_2, zk6_0, (fun j zm0 zm1 zm2 zm3 zm4 zm5 => zfr6 j zm4 zm0 zm1 zm2 zm3 (by omega)), (by exact ⟨ztr, zrg6, rfl⟩)⟩
    · exact absurd (in_nI (by omega) (by omega)) zc21

set_option maxHeartbeats 4000000 in
set_option maxRecDepth 100000 in
theorem c_X7_packet_n {l : Launch} {G : vG} {tC : Nat} {ad : Nat → Nat} {N : Nat} {E : Nat → va_E} {o : Nat} {b kd : Int32} {e : Int64} (hN0 : o + 75 ≤ N) (hno : ¬ ((nI 0 ≤ b ∧ b ≤ nI 3) ∧ (nI 0 ≤ kd ∧ kd ≤ nI 7) ∧ (nI 0).toInt64 ≤ e)) : MI l yX7_packet wsX7_packet ({ frames := 7, cells := 0, slots := 0, locals := 162 } : Room) G tC ad N E [.ref (ad o), .int b, .int kd, .long e] (fun r E2 => E2 = E ∧ r = -1000000002) := by
  refine MI_of RX7 rfl (by decide) rfl (Nat.le_of_ble_eq_true rfl) ?_
  intro pp_ ee_ ss_ mm_ aa_ bb_ me_ cc_ A ls C hw hl
  have hx := C.1
  have hb := C.2.1
  have hown := C.2.2.2.2.1
  have hts := C.2.2.2.2.2.1
  have hl : lv_has ls 7 [(0, .ref (ad o)), (1, .int b), (2, .int kd), (3, .long e)] := hl
  have hinX7 : ∀ w ∈ u_ws RX7 TX7 9, w ∈ wsX7_packet := by decide +kernel
  refine lv_iload_n hx hb dX7_packet_0 rfl (lv_at hl 1 rfl) ?_
  refine lv_iconst (v := nI 0) hx hb dX7_packet_1 rfl ?_
  refine lv_iconst (v := nI 3) hx hb dX7_packet_2 rfl ?_
  refine r_sI C hw hl.1 [.int b, .int (nI 0), .int (nI 3)] 3 rfl (c_X7_isWithin (l := l) (G := G) (tC := tC) (ad := ad) (N := N) (E := E) (x := b) (a := nI 0) (b := nI 3)   ) gX7_packet_X7_isWithin rfl ⟨rfl, rfl⟩ (by decide +kernel) ⟨Nat.le_of_ble_eq_true rfl, Nat.le_of_ble_eq_true rfl⟩ (rest := []) rfl (Nat.le_of_ble_eq_true rfl) dX7_packet_3 ⟨Nat.zero_le _, Nat.zero_le _⟩ (fun zr1 zE1 zH1 zL1 zp1 zw1 => ?_)
  obtain ⟨ze1, zq1⟩ := zp1
  rw [ze1] at zw1
  clear ze1
  rw [zq1]
  refine b_if_eq (tgt := 25) hx hb dX7_packet_6 (by decide) (fun zc6 => ?_) (fun zc6 => ?_)
  · refine lv_ldc (v := -1000000002) hx hb hown (hts (.constant RX7 62 (-1000000002)) (by decide +kernel)) dX7_packet_25 ?_
    exact r_iret C zw1 dX7_packet_27 ⟨rfl, (by rfl)⟩
  · refine lv_iload_n hx hb dX7_packet_9 rfl (lv_at hl 2 rfl) ?_
    refine lv_iconst (v := nI 0) hx hb dX7_packet_10 rfl ?_
    refine lv_bipush (v := nI 7) hx hb dX7_packet_11 rfl ?_
    refine r_sI C zw1 hl.1 [.int kd, .int (nI 0), .int (nI 7)] 3 rfl (c_X7_isWithin (l := l) (G := G) (tC := tC) (ad := ad) (N := N) (E := E) (x := kd) (a := nI 0) (b := nI 7)   ) gX7_packet_X7_isWithin rfl ⟨rfl, rfl⟩ (by decide +kernel) ⟨Nat.le_of_ble_eq_true rfl, Nat.le_of_ble_eq_true rfl⟩ (rest := []) rfl (Nat.le_of_ble_eq_true rfl) dX7_packet_13 ⟨Nat.zero_le _, Nat.zero_le _⟩ (fun zr2 zE2 zH2 zL2 zp2 zw2 => ?_)
    obtain ⟨ze2, zq2⟩ := zp2
    rw [ze2] at zw2
    clear ze2
    rw [zq2]
    refine b_if_eq (tgt := 25) hx hb dX7_packet_16 (by decide) (fun zc16 => ?_) (fun zc16 => ?_)
    · refine lv_ldc (v := -1000000002) hx hb hown (hts (.constant RX7 62 (-1000000002)) (by decide +kernel)) dX7_packet_25 ?_
      exact r_iret C zw2 dX7_packet_27 ⟨rfl, (by rfl)⟩
    · refine lv_lload_n hx hb dX7_packet_19 rfl (lv_at hl 3 rfl) ?_
      refine lv_lconst (v := (nI 0).toInt64) hx hb dX7_packet_20 (by decide) ?_
      refine W.lcmp hx hb dX7_packet_21 ?_
      refine lv_if_ge (tgt := 28) hx hb dX7_packet_22 (by decide) (fun zc22 => ?_) (fun zc22 => ?_)
      · exact absurd ⟨zc6, zc16, (lg_cmp_ge _ _).mp zc22⟩ hno
      · refine lv_ldc (v := -1000000002) hx hb hown (hts (.constant RX7 62 (-1000000002)) (by decide +kernel)) dX7_packet_25 ?_
        exact r_iret C zw2 dX7_packet_27 ⟨rfl, (by rfl)⟩

set_option maxHeartbeats 4000000 in
set_option maxRecDepth 100000 in
theorem c_X7_packet_y {l : Launch} {G : vG} {tC : Nat} {ad : Nat → Nat} {N : Nat} {E : Nat → va_E} {o co pg cm hd : Nat} {lst md sd : Int32} {cs op : Nat → Int32} {pm : Nat} {pa s : Nat → Int32} {b kd e : Nat} {pt : Nat → Int32} (hN0 : o + 75 ≤ N) (hE0 : E o = .inr (4, [.ref (ad (o + 1)), .ref (ad (o + 4)), .ref (ad (o + 54)), .ref (ad (o + 61)), .ref (ad (o + 62)), .ref (ad (o + 67)), .ref (ad (o + 73)), .ref (ad (o + 74)), .int (nI co)])) (hE1 : E (o + 1) = .inr (2, [.ref (ad (o + 2)), .ref (ad (o + 3)), .int (nI pg), .int (nI cm), .int lst, .int md, .int sd, .int (nI hd)])) (hE2 : E (o + 2) = eI G 500 cs) (hE3 : E (o + 3) = eI G 4 op) (hE4 : E (o + 74) = eI G 10 pt) (hb3 : b ≤ 3) (hkd : kd ≤ 7) (he : e < 9223372036854775808) (hrg : Ring G ad E (o + 4) pa pm) (hrep : RepS s cs op pg cm hd lst md (cm + 1)) (hcm : cm + 1 < 1000000) : MI l yX7_packet wsX7_packet ({ frames := 7, cells := 0, slots := 0, locals := 162 } : Room) G tC ad N E [.ref (ad o), .int (nI b), .int (nI kd), .long (lN e)] (fun r E2 => ∃ cs2 : Nat → Int32, ∃ op2 : Nat → Int32, ∃ pg2 : Nat, ∃ hd2 : Nat, ∃ lst2 : Int32, ∃ md2 : Int32, ∃ pt2 : Nat → Int32, E2 (o + 1) = .inr (2, [.ref (ad (o + 2)), .ref (ad (o + 3)), .int (nI pg2), .int (nI (cm + 1)), .int lst2, .int md2, .int sd, .int (nI hd2)]) ∧ E2 (o + 2) = eI G 500 cs2 ∧ E2 (o + 3) = eI G 4 op2 ∧ E2 (o + 74) = eI G 10 pt2 ∧ (∀ j, j ≠ (o + 1) → j ≠ (o + 2) → j ≠ (o + 3) → j ≠ (o + 74) → ¬ (o + 4 ≤ j ∧ j < o + 54) → E2 j = E j) ∧ RepS (cmF s pg (kpk b kd e)) cs2 op2 pg2 (cm + 1) hd2 lst2 md2 (cm + 1 + 1) ∧ Ring G ad E2 (o + 4) (ntF pa pm s) (ntK pm + 1) ∧ r = if tkB s (kpk b kd e) then 1 else 0) := by
  refine MI_of RX7 rfl (by decide) rfl (Nat.le_of_ble_eq_true rfl) ?_
  intro pp_ ee_ ss_ mm_ aa_ bb_ me_ cc_ A ls C hw hl
  have hx := C.1
  have hb := C.2.1
  have hown := C.2.2.2.2.1
  have hts := C.2.2.2.2.2.1
  have hl : lv_has ls 7 [(0, .ref (ad o)), (1, .int (nI b)), (2, .int (nI kd)), (3, .long (lN e))] := hl
  have hinX7 : ∀ w ∈ u_ws RX7 TX7 9, w ∈ wsX7_packet := by decide +kernel
  refine lv_iload_n hx hb dX7_packet_0 rfl (lv_at hl 1 rfl) ?_
  refine lv_iconst (v := nI 0) hx hb dX7_packet_1 rfl ?_
  refine lv_iconst (v := nI 3) hx hb dX7_packet_2 rfl ?_
  refine r_sI C hw hl.1 [.int (nI b), .int (nI 0), .int (nI 3)] 3 rfl (c_X7_isWithin (l := l) (G := G) (tC := tC) (ad := ad) (N := N) (E := E) (x := nI b) (a := nI 0) (b := nI 3)   ) gX7_packet_X7_isWithin rfl ⟨rfl, rfl⟩ (by decide +kernel) ⟨Nat.le_of_ble_eq_true rfl, Nat.le_of_ble_eq_true rfl⟩ (rest := []) rfl (Nat.le_of_ble_eq_true rfl) dX7_packet_3 ⟨Nat.zero_le _, Nat.zero_le _⟩ (fun zr1 zE1 zH1 zL1 zp1 zw1 => ?_)
  obtain ⟨ze1, zq1⟩ := zp1
  rw [ze1] at zw1
  clear ze1
  rw [zq1]
  refine b_if_eq (tgt := 25) hx hb dX7_packet_6 (by decide) (fun zc6 => ?_) (fun zc6 => ?_)
  · exact absurd (in_nI (by omega) (by omega)) zc6
  · refine lv_iload_n hx hb dX7_packet_9 rfl (lv_at hl 2 rfl) ?_
    refine lv_iconst (v := nI 0) hx hb dX7_packet_10 rfl ?_
    refine lv_bipush (v := nI 7) hx hb dX7_packet_11 rfl ?_
    refine r_sI C zw1 hl.1 [.int (nI kd), .int (nI 0), .int (nI 7)] 3 rfl (c_X7_isWithin (l := l) (G := G) (tC := tC) (ad := ad) (N := N) (E := E) (x := nI kd) (a := nI 0) (b := nI 7)   ) gX7_packet_X7_isWithin rfl ⟨rfl, rfl⟩ (by decide +kernel) ⟨Nat.le_of_ble_eq_true rfl, Nat.le_of_ble_eq_true rfl⟩ (rest := []) rfl (Nat.le_of_ble_eq_true rfl) dX7_packet_13 ⟨Nat.zero_le _, Nat.zero_le _⟩ (fun zr2 zE2 zH2 zL2 zp2 zw2 => ?_)
    obtain ⟨ze2, zq2⟩ := zp2
    rw [ze2] at zw2
    clear ze2
    rw [zq2]
    refine b_if_eq (tgt := 25) hx hb dX7_packet_16 (by decide) (fun zc16 => ?_) (fun zc16 => ?_)
    · exact absurd (in_nI (by omega) (by omega)) zc16
    · refine lv_lload_n hx hb dX7_packet_19 rfl (lv_at hl 3 rfl) ?_
      refine lv_lconst (v := (nI 0).toInt64) hx hb dX7_packet_20 (by decide) ?_
      refine W.lcmp hx hb dX7_packet_21 ?_
      refine lv_if_ge (tgt := 28) hx hb dX7_packet_22 (by decide) (fun zc22 => ?_) (fun zc22 => ?_)
      · refine lv_aload_n hx hb dX7_packet_28 rfl (lv_at hl 0 rfl) ?_
        refine r_get C zw2 RX7 TX7 9 4 hinX7 (i := o) (by omega) hE0 rfl 7 (by decide) (by decide +kernel) rfl (v := .ref (ad (o + 74))) rfl dX7_packet_29 ?_
        refine lv_iconst (v := nI 0) hx hb dX7_packet_32 rfl ?_
        refine lv_iload_n hx hb dX7_packet_33 rfl (lv_at hl 1 rfl) ?_
        refine r_sI C zw2 hl.1 [.int (nI b)] 1 rfl (c_X1_encode (l := l) (G := G) (tC := tC) (ad := ad) (N := N) (E := E) (v := b)   (by first | assumption | omega)) gX7_packet_X1_encode rfl ⟨rfl, rfl⟩ (by decide +kernel) ⟨Nat.le_of_ble_eq_true rfl, Nat.le_of_ble_eq_true rfl⟩ (rest := [.int (nI 0), .ref (ad (o + 74))]) rfl (Nat.le_of_ble_eq_true rfl) dX7_packet_34 ⟨Nat.zero_le _, Nat.zero_le _⟩ (fun zr3 zE3 zH3 zL3 zp3 zw3 => ?_)
        obtain ⟨ze3, zq3⟩ := zp3
        rw [ze3] at zw3
        clear ze3
        rw [zq3]
        refine r_nat (codeN b) (codeT_nI _ (by omega)) ?_
        refine r_iasN C zw3 (i := (o + 74)) (by omega) hE4 (j := 0) (by omega) (by omega) dX7_packet_37 (fun zE4 zH4 zL4 zg4 zf4 zw4 => ?_)
        have zh4_0 : zE4 (o + 74) = eI G 10 (upd pt 0 (nI (codeN b))) := zg4
        have zk4_0 : zE4 o = .inr (4, [.ref (ad (o + 1)), .ref (ad (o + 4)), .ref (ad (o + 54)), .ref (ad (o + 61)), .ref (ad (o + 62)), .ref (ad (o + 67)), .ref (ad (o + 73)), .ref (ad (o + 74)), .int (nI co)]) := (zf4 _ (by omega)).trans hE0
        have zk4_1 : zE4 (o + 1) = .inr (2, [.ref (ad (o + 2)), .ref (ad (o + 3)), .int (nI pg), .int (nI cm), .int lst, .int md, .int sd, .int (nI hd)]) := (zf4 _ (by omega)).trans hE1
        have zk4_2 : zE4 (o + 2) = eI G 500 cs := (zf4 _ (by omega)).trans hE2
        have zk4_3 : zE4 (o + 3) = eI G 4 op := (zf4 _ (by omega)).trans hE3
        have zfr4 : ∀ j, j ≠ (o + 74) → zE4 j = E j := fun j zm0 => zf4 j zm0
        have zy4_rg : Ring G ad zE4 (o + 4) pa pm := hrg.same (fun j zj1 zj2 => zf4 j (by omega))
        refine lv_aload_n hx hb dX7_packet_38 rfl (lv_at hl 0 rfl) ?_
        refine r_get C zw4 RX7 TX7 9 4 hinX7 (i := o) (by omega) zk4_0 rfl 7 (by decide) (by decide +kernel) rfl (v := .ref (ad (o + 74))) rfl dX7_packet_39 ?_
        refine lv_iconst (v := nI 1) hx hb dX7_packet_42 rfl ?_
        refine lv_iload_n hx hb dX7_packet_43 rfl (lv_at hl 2 rfl) ?_
        refine r_sI C zw4 hl.1 [.int (nI kd)] 1 rfl (c_X1_encode (l := l) (G := G) (tC := tC) (ad := ad) (N := N) (E := zE4) (v := kd)   (by first | assumption | omega)) gX7_packet_X1_encode rfl ⟨rfl, rfl⟩ (by decide +kernel) ⟨Nat.le_of_ble_eq_true rfl, Nat.le_of_ble_eq_true rfl⟩ (rest := [.int (nI 1), .ref (ad (o + 74))]) rfl (Nat.le_of_ble_eq_true rfl) dX7_packet_44 ⟨Nat.zero_le _, Nat.zero_le _⟩ (fun zr5 zE5 zH5 zL5 zp5 zw5 => ?_)
        obtain ⟨ze5, zq5⟩ := zp5
        rw [ze5] at zw5
        clear ze5
        rw [zq5]
        refine r_nat (codeN kd) (codeT_nI _ (by omega)) ?_
        refine r_iasN C zw5 (i := (o + 74)) (by omega) zh4_0 (j := 1) (by omega) (by omega) dX7_packet_47 (fun zE6 zH6 zL6 zg6 zf6 zw6 => ?_)
        have zh6_0 : zE6 (o + 74) = eI G 10 (upd (upd pt 0 (nI (codeN b))) 1 (nI (codeN kd))) := zg6
        have zk6_0 : zE6 o = .inr (4, [.ref (ad (o + 1)), .ref (ad (o + 4)), .ref (ad (o + 54)), .ref (ad (o + 61)), .ref (ad (o + 62)), .ref (ad (o + 67)), .ref (ad (o + 73)), .ref (ad (o + 74)), .int (nI co)]) := (zf6 _ (by omega)).trans zk4_0
        have zk6_1 : zE6 (o + 1) = .inr (2, [.ref (ad (o + 2)), .ref (ad (o + 3)), .int (nI pg), .int (nI cm), .int lst, .int md, .int sd, .int (nI hd)]) := (zf6 _ (by omega)).trans zk4_1
        have zk6_2 : zE6 (o + 2) = eI G 500 cs := (zf6 _ (by omega)).trans zk4_2
        have zk6_3 : zE6 (o + 3) = eI G 4 op := (zf6 _ (by omega)).trans zk4_3
        have zfr6 : ∀ j, j ≠ (o + 74) → zE6 j = E j := fun j zm0 => (zf6 j zm0).trans (zfr4 j zm0)
        have zy6_rg : Ring G ad zE6 (o + 4) pa pm := zy4_rg.same (fun j zj1 zj2 => zf6 j (by omega))
        refine lv_iconst (v := nI 2) hx hb dX7_packet_48 rfl ?_
        refine lv_istore (lv' := [(5, .int (nI 2)), (0, .ref (ad o)), (1, .int (nI b)), (2, .int (nI kd)), (3, .long (lN e))]) hx hb dX7_packet_49 hl (by decide) rfl (fun ls hl => ?_)
        have zlp51 : ∀ (zn : Nat) (j : Nat) (g : Nat → Int32), 10 - j < zn → (2 ≤ j) → (j ≤ 10) → (∀ x, x < j → g x = nI (kpk b kd e x)) → ∀ (E9 : Nat → va_E) (H9 : Heap) (L9 : List Loc), E9 o = .inr (4, [.ref (ad (o + 1)), .ref (ad (o + 4)), .ref (ad (o + 54)), .ref (ad (o + 61)), .ref (ad (o + 62)), .ref (ad (o + 67)), .ref (ad (o + 73)), .ref (ad (o + 74)), .int (nI co)]) → E9 (o + 1) = .inr (2, [.ref (ad (o + 2)), .ref (ad (o + 3)), .int (nI pg), .int (nI cm), .int lst, .int md, .int sd, .int (nI hd)]) → E9 (o + 2) = eI G 500 cs → E9 (o + 3) = eI G 4 op → E9 (o + 74) = eI G 10 g → (∀ j, j ≠ (o + 74) → E9 j = E j) → (Ring G ad E9 (o + 4) pa pm) → Wd G A ss_.heap H9 L9 ad E9 N → ∀ (ls : Array Slot), lv_has ls 7 [(0, .ref (ad o)), (2, .int (nI kd)), (3, .long (lN e)), (5, .int (nI j))] → W pp_ l ee_ ({ frames := 7, cells := 0, slots := 0, locals := 162 } : Room) ss_ mm_ aa_ bb_ me_ cc_ H9 L9 0 0 (QI bb_ aa_ ss_ G ad N A (fun r E2 => ∃ cs2 : Nat → Int32, ∃ op2 : Nat → Int32, ∃ pg2 : Nat, ∃ hd2 : Nat, ∃ lst2 : Int32, ∃ md2 : Int32, ∃ pt2 : Nat → Int32, E2 (o + 1) = .inr (2, [.ref (ad (o + 2)), .ref (ad (o + 3)), .int (nI pg2), .int (nI (cm + 1)), .int lst2, .int md2, .int sd, .int (nI hd2)]) ∧ E2 (o + 2) = eI G 500 cs2 ∧ E2 (o + 3) = eI G 4 op2 ∧ E2 (o + 74) = eI G 10 pt2 ∧ (∀ j, j ≠ (o + 1) → j ≠ (o + 2) → j ≠ (o + 3) → j ≠ (o + 74) → ¬ (o + 4 ≤ j ∧ j < o + 54) → E2 j = E j) ∧ RepS (cmF s pg (kpk b kd e)) cs2 op2 pg2 (cm + 1) hd2 lst2 md2 (cm + 1 + 1) ∧ Ring G ad E2 (o + 4) (ntF pa pm s) (ntK pm + 1) ∧ r = if tkB s (kpk b kd e) then 1 else 0)) (F0 mm_ 51 ls []) := by
          intro zn
          induction zn with
          | zero => intro j g zhm; exact absurd zhm (Nat.not_lt_zero _)
          | succ zn zih51 =>
            intro j g zhm51 hj2 hj hg zE_51 zH_51 zL_51 zl51_0 zl51_1 zl51_2 zl51_3 zl51_4 zlf51 rg zlw51 ls hl
            refine lv_iload hx hb dX7_packet_51 (lv_at hl 3 rfl) ?_
            refine lv_bipush (v := nI 10) hx hb dX7_packet_53 rfl ?_
            refine n_icmp_ge (tgt := 92) hx hb dX7_packet_55 (by decide) (by omega) (by omega) (fun zc55 => ?_) (fun zc55 => ?_)
            · refine lv_aload_n hx hb dX7_packet_92 rfl (lv_at hl 0 rfl) ?_
              refine lv_aload_n hx hb dX7_packet_93 rfl (lv_at hl 0 rfl) ?_
              refine r_get C zlw51 RX7 TX7 9 4 hinX7 (i := o) (by omega) zl51_0 rfl 7 (by decide) (by decide +kernel) rfl (v := .ref (ad (o + 74))) rfl dX7_packet_94 ?_
              refine r_vI C zlw51 hl.1 (i := o) (by omega) zl51_0 (T := TX7) (n := 9) rfl [.ref (ad (o + 74))] 1 rfl (c_X7_comes (l := l) (G := G) (tC := tC) (ad := ad) (N := N) (E := zE_51) (o := o) (co := co) (pg := pg) (cm := cm) (hd := hd) (lst := lst) (md := md) (sd := sd) (cs := cs) (op := op) (w9 := (o + 74)) (pt := g) (pk := (kpk b kd e)) (pm := pm) (pa := pa) (s := s) (by omega) (by omega) zl51_0 zl51_1 zl51_2 zl51_3 zl51_4 (by omega) (fun j hj => ⟨hg j (by omega), kpk_lt e (by omega) (by omega) j⟩) rg (by first | assumption | omega) (by first | assumption | omega)) gX7_packet_X7_comes rfl ⟨rfl, rfl⟩ (by decide +kernel) ⟨Nat.le_of_ble_eq_true rfl, Nat.le_of_ble_eq_true rfl⟩ (rest := []) rfl (Nat.le_of_ble_eq_true rfl) dX7_packet_97 ⟨Nat.zero_le _, Nat.zero_le _⟩ (fun zr7 zE7 zH7 zL7 zp7 zw7 => ?_)
              obtain ⟨zcs27, zop27, zpg27, zhd27, zlst27, zmd27, zg7_0, zg7_1, zg7_2, zf7, zq7⟩ := zp7
              have zh7_0 : zE7 (o + 1) = .inr (2, [.ref (ad (o + 2)), .ref (ad (o + 3)), .int (nI zpg27), .int (nI (cm + 1)), .int zlst27, .int zmd27, .int sd, .int (nI zhd27)]) := zg7_0
              have zh7_1 : zE7 (o + 2) = eI G 500 zcs27 := zg7_1
              have zh7_2 : zE7 (o + 3) = eI G 4 zop27 := zg7_2
              have zk7_0 : zE7 o = .inr (4, [.ref (ad (o + 1)), .ref (ad (o + 4)), .ref (ad (o + 54)), .ref (ad (o + 61)), .ref (ad (o + 62)), .ref (ad (o + 67)), .ref (ad (o + 73)), .ref (ad (o + 74)), .int (nI co)]) := (zf7 _ (by omega) (by omega) (by omega) (by omega)).trans zl51_0
              have zk7_1 : zE7 (o + 74) = eI G 10 g := (zf7 _ (by omega) (by omega) (by omega) (by omega)).trans zl51_4
              have zfr7 : ∀ j, j ≠ (o + 74) → j ≠ (o + 1) → j ≠ (o + 2) → j ≠ (o + 3) → ¬ ((o + 4) ≤ j ∧ j < (o + 54)) → zE7 j = E j := fun j zm0 zm1 zm2 zm3 zm4 => (zf7 j zm1 zm2 zm3 zm4).trans (zlf51 j zm0)
              obtain ⟨ztr, zrg7, ztb⟩ := zq7
              rw [ztb]
              refine b_if_eq (tgt := 107) hx hb dX7_packet_100 (by decide) (fun zc100 => ?_) (fun zc100 => ?_)
              · refine lv_iconst (v := nI 0) hx hb dX7_packet_107 rfl ?_
                exact r_iret C zw7 dX7_packet_108 ⟨zcs27, zop27, zpg27, zhd27, zlst27, zmd27, g, zh7_0, zh7_1, zh7_2, zk7_1, (fun j zm0 zm1 zm2 zm3 zm4 => zfr7 j zm3 zm0 zm1 zm2 (by omega)), (by exact ⟨ztr, zrg7, (if_neg zc100).symm⟩)⟩
              · refine lv_iconst (v := nI 1) hx hb dX7_packet_103 rfl ?_
                refine lv_goto (tgt := 108) hx hb dX7_packet_104 (by decide) ?_
                exact r_iret C zw7 dX7_packet_108 ⟨zcs27, zop27, zpg27, zhd27, zlst27, zmd27, g, zh7_0, zh7_1, zh7_2, zk7_1, (fun j zm0 zm1 zm2 zm3 zm4 => zfr7 j zm3 zm0 zm1 zm2 (by omega)), (by exact ⟨ztr, zrg7, (if_pos zc100).symm⟩)⟩
            · refine lv_lload_n hx hb dX7_packet_58 rfl (lv_at hl 2 rfl) ?_
              refine lv_iconst (v := nI 4) hx hb dX7_packet_59 rfl ?_
              refine lv_bipush (v := nI 9) hx hb dX7_packet_60 rfl ?_
              refine lv_iload hx hb dX7_packet_62 (lv_at hl 3 rfl) ?_
              refine lv_isub hx hb dX7_packet_64 ?_
              refine r_nat (9 - j) (pk_sub (by omega)) ?_
              refine lv_imul hx hb dX7_packet_65 ?_
              refine r_nat (4 * (9 - j)) (pk_mul _ _) ?_
              refine lv_lushr (v := ((lN e).toUInt64 >>> ((nI (4 * (9 - j))).toInt64.toUInt64 &&& Int64.toUInt64 63)).toInt64) hx hb dX7_packet_66 rfl ?_
              refine r_asL (lN (e / 2 ^ (4 * (9 - j)))) (lN_shr he (by omega)) ?_
              refine lv_l2i (v := (lN (e / 2 ^ (4 * (9 - j)))).toInt32) hx hb dX7_packet_67 rfl ?_
              refine r_as (nI (e / 2 ^ (4 * (9 - j)))) (lN_i _) ?_
              refine lv_bipush (v := nI 15) hx hb dX7_packet_68 rfl ?_
              refine lv_iand hx hb dX7_packet_70 ?_
              refine r_nat (e / 16 ^ (9 - j) % 16) (by rw [nI_and15, pow_16]) ?_
              refine lv_istore (lv' := [(6, .int (nI (e / 16 ^ (9 - j) % 16))), (0, .ref (ad o)), (2, .int (nI kd)), (3, .long (lN e)), (5, .int (nI j))]) hx hb dX7_packet_71 hl (by decide) rfl (fun ls hl => ?_)
              refine lv_aload_n hx hb dX7_packet_73 rfl (lv_at hl 1 rfl) ?_
              refine r_get C zlw51 RX7 TX7 9 4 hinX7 (i := o) (by omega) zl51_0 rfl 7 (by decide) (by decide +kernel) rfl (v := .ref (ad (o + 74))) rfl dX7_packet_74 ?_
              refine lv_iload hx hb dX7_packet_77 (lv_at hl 4 rfl) ?_
              refine lv_iload_n hx hb dX7_packet_79 rfl (lv_at hl 2 rfl) ?_
              refine lv_iload hx hb dX7_packet_80 (lv_at hl 0 rfl) ?_
              refine r_sI C zlw51 hl.1 [.int (nI kd), .int (nI (e / 16 ^ (9 - j) % 16))] 2 rfl (c_X7_bodyOctet (l := l) (G := G) (tC := tC) (ad := ad) (N := N) (E := zE_51) (kd := kd) (v := e / 16 ^ (9 - j) % 16)   (by omega) (Nat.mod_lt _ (by decide))) gX7_packet_X7_bodyOctet rfl ⟨rfl, rfl⟩ (by decide +kernel) ⟨Nat.le_of_ble_eq_true rfl, Nat.le_of_ble_eq_true rfl⟩ (rest := [.int (nI j), .ref (ad (o + 74))]) rfl (Nat.le_of_ble_eq_true rfl) dX7_packet_82 ⟨Nat.zero_le _, Nat.zero_le _⟩ (fun zr8 zE8 zH8 zL8 zp8 zw8 => ?_)
              obtain ⟨ze8, zq8⟩ := zp8
              rw [ze8] at zw8
              clear ze8
              rw [zq8]
              refine r_iasN C zw8 (i := (o + 74)) (by omega) zl51_4 (j := j) (by omega) (by omega) dX7_packet_85 (fun zE9 zH9 zL9 zg9 zf9 zw9 => ?_)
              have zh9_0 : zE9 (o + 74) = eI G 10 (upd g j (nI (laidN kd (e / 16 ^ (9 - j) % 16)))) := zg9
              have zk9_0 : zE9 o = .inr (4, [.ref (ad (o + 1)), .ref (ad (o + 4)), .ref (ad (o + 54)), .ref (ad (o + 61)), .ref (ad (o + 62)), .ref (ad (o + 67)), .ref (ad (o + 73)), .ref (ad (o + 74)), .int (nI co)]) := (zf9 _ (by omega)).trans zl51_0
              have zk9_1 : zE9 (o + 1) = .inr (2, [.ref (ad (o + 2)), .ref (ad (o + 3)), .int (nI pg), .int (nI cm), .int lst, .int md, .int sd, .int (nI hd)]) := (zf9 _ (by omega)).trans zl51_1
              have zk9_2 : zE9 (o + 2) = eI G 500 cs := (zf9 _ (by omega)).trans zl51_2
              have zk9_3 : zE9 (o + 3) = eI G 4 op := (zf9 _ (by omega)).trans zl51_3
              have zfr9 : ∀ j, j ≠ (o + 74) → zE9 j = E j := fun j zm0 => (zf9 j zm0).trans (zlf51 j zm0)
              have zy9_rg : Ring G ad zE9 (o + 4) pa pm := rg.same (fun j zj1 zj2 => zf9 j (by omega))
              refine lv_iinc (v := nI (j + 1)) (lv' := [(5, .int (nI (j + 1))), (6, .int (nI (e / 16 ^ (9 - j) % 16))), (0, .ref (ad o)), (2, .int (nI kd)), (3, .long (lN e))]) hx hb dX7_packet_86 hl (k := 4) rfl (by rw [show Int32.ofInt 1 = nI 1 from rfl, nI_add]) (by decide) rfl (fun ls hl => ?_)
              refine lv_goto (tgt := 51) hx hb dX7_packet_89 (by decide) ?_
              exact zih51 (j + 1) (upd g j (nI (laidN kd (e / 16 ^ (9 - j) % 16)))) (by omega) (by omega) (by omega) (by exact kp1 hj2 hg) _ _ _ zk9_0 zk9_1 zk9_2 zk9_3 zh9_0 (fun j zm0 => zfr9 j zm0) (by exact zy9_rg) zw9 _ (lv_sub hl [2, 3, 4, 0] rfl)
        exact zlp51 _ 2 (upd (upd pt 0 (nI (codeN b))) 1 (nI (codeN kd))) (Nat.lt_succ_self _) (by omega) (by omega) (by exact kp0) _ _ _ zk6_0 zk6_1 zk6_2 zk6_3 zh6_0 (fun j zm0 => zfr6 j zm0) (by exact zy6_rg) zw6 _ (lv_sub hl [1, 3, 4, 0] rfl)
      · exact absurd ((lg_cmp_ge _ _).mpr (lN0_le he)) zc22

set_option maxHeartbeats 4000000 in
set_option maxRecDepth 100000 in
theorem c_X7_weight_y {l : Launch} {G : vG} {tC : Nat} {ad : Nat → Nat} {N : Nat} {E : Nat → va_E} {o co pg cm hd : Nat} {lst md sd : Int32} {cs op : Nat → Int32} {pm : Nat} {pa s : Nat → Int32} {k v : Nat} (hN0 : o + 75 ≤ N) (hE0 : E o = .inr (4, [.ref (ad (o + 1)), .ref (ad (o + 4)), .ref (ad (o + 54)), .ref (ad (o + 61)), .ref (ad (o + 62)), .ref (ad (o + 67)), .ref (ad (o + 73)), .ref (ad (o + 74)), .int (nI co)])) (hE1 : E (o + 1) = .inr (2, [.ref (ad (o + 2)), .ref (ad (o + 3)), .int (nI pg), .int (nI cm), .int lst, .int md, .int sd, .int (nI hd)])) (hE2 : E (o + 2) = eI G 500 cs) (hE3 : E (o + 3) = eI G 4 op) (hk : k < pg) (hv1 : 1 ≤ v) (hv : v ≤ 9) (hrg : Ring G ad E (o + 4) pa pm) (hrep : RepS s cs op pg cm hd lst md (cm + 1)) (hcm : cm < 1000000) : MI l yX7_weight wsX7_weight ({ frames := 3, cells := 0, slots := 0, locals := 82 } : Room) G tC ad N E [.ref (ad o), .int (nI k), .int (nI v)] (fun r E2 => E2 (o + 2) = eI G 500 (upd cs (k * 50 + 4) (nI v)) ∧ (∀ j, j ≠ (o + 2) → ¬ (o + 4 ≤ j ∧ j < o + 54) → E2 j = E j) ∧ RepS (upd s (8 + 50 * k + 4) (nI v)) (upd cs (k * 50 + 4) (nI v)) op pg cm hd lst md (cm + 1) ∧ Ring G ad E2 (o + 4) (ntF pa pm s) (ntK pm + 1) ∧ r = s (8 + 50 * k + 4)) := by
  refine MI_of RX7 rfl (by decide) rfl (Nat.le_of_ble_eq_true rfl) ?_
  intro pp_ ee_ ss_ mm_ aa_ bb_ me_ cc_ A ls C hw hl
  have hx := C.1
  have hb := C.2.1
  have hown := C.2.2.2.2.1
  have hts := C.2.2.2.2.2.1
  have hl : lv_has ls 4 [(0, .ref (ad o)), (1, .int (nI k)), (2, .int (nI v))] := hl
  have hinX7 : ∀ w ∈ u_ws RX7 TX7 9, w ∈ wsX7_weight := by decide +kernel
  have hag := hrep.2.2.1
  have hp := hrep.1.2.1
  obtain ⟨nx, fz, hrn⟩ := id hrg
  have ht0 := hrn.2.2.1
  refine lv_aload_n hx hb dX7_weight_0 rfl (lv_at hl 0 rfl) ?_
  refine r_get C hw RX7 TX7 9 4 hinX7 (i := o) (by omega) hE0 rfl 0 (by decide) (by decide +kernel) rfl (v := .ref (ad (o + 1))) rfl dX7_weight_1 ?_
  refine lv_iload_n hx hb dX7_weight_4 rfl (lv_at hl 1 rfl) ?_
  refine r_vI C hw hl.1 (i := (o + 1)) (by omega) hE1 (T := TX5) (n := 8) rfl [.int (nI k)] 1 rfl (c_X5_has (l := l) (G := G) (tC := tC) (ad := ad) (N := N) (E := E) (i := (o + 1)) (pg := pg) (cm := cm) (hd := hd) (lst := lst) (md := md) (sd := sd) (k := nI k) (by omega) hE1 (by first | assumption | omega)) gX7_weight_X5_has rfl ⟨rfl, rfl⟩ (by decide +kernel) ⟨Nat.le_of_ble_eq_true rfl, Nat.le_of_ble_eq_true rfl⟩ (rest := []) rfl (Nat.le_of_ble_eq_true rfl) dX7_weight_5 ⟨Nat.zero_le _, Nat.zero_le _⟩ (fun zr1 zE1 zH1 zL1 zp1 zw1 => ?_)
  obtain ⟨ze1, zq1⟩ := zp1
  rw [ze1] at zw1
  clear ze1
  rw [zq1]
  refine b_if_ne (tgt := 14) hx hb dX7_weight_8 (by decide) (fun zc8 => ?_) (fun zc8 => ?_)
  · refine lv_iload_n hx hb dX7_weight_14 rfl (lv_at hl 2 rfl) ?_
    refine lv_iconst (v := nI 1) hx hb dX7_weight_15 rfl ?_
    refine lv_bipush (v := nI 9) hx hb dX7_weight_16 rfl ?_
    refine r_sI C zw1 hl.1 [.int (nI v), .int (nI 1), .int (nI 9)] 3 rfl (c_X7_isWithin (l := l) (G := G) (tC := tC) (ad := ad) (N := N) (E := E) (x := nI v) (a := nI 1) (b := nI 9)   ) gX7_weight_X7_isWithin rfl ⟨rfl, rfl⟩ (by decide +kernel) ⟨Nat.le_of_ble_eq_true rfl, Nat.le_of_ble_eq_true rfl⟩ (rest := []) rfl (Nat.le_of_ble_eq_true rfl) dX7_weight_18 ⟨Nat.zero_le _, Nat.zero_le _⟩ (fun zr2 zE2 zH2 zL2 zp2 zw2 => ?_)
    obtain ⟨ze2, zq2⟩ := zp2
    rw [ze2] at zw2
    clear ze2
    rw [zq2]
    refine b_if_ne (tgt := 27) hx hb dX7_weight_21 (by decide) (fun zc21 => ?_) (fun zc21 => ?_)
    · refine lv_aload_n hx hb dX7_weight_27 rfl (lv_at hl 0 rfl) ?_
      refine r_get C zw2 RX7 TX7 9 4 hinX7 (i := o) (by omega) hE0 rfl 1 (by decide) (by decide +kernel) rfl (v := .ref (ad (o + 4))) rfl dX7_weight_28 ?_
      refine lv_aload_n hx hb dX7_weight_31 rfl (lv_at hl 0 rfl) ?_
      refine r_get C zw2 RX7 TX7 9 4 hinX7 (i := o) (by omega) hE0 rfl 0 (by decide) (by decide +kernel) rfl (v := .ref (ad (o + 1))) rfl dX7_weight_32 ?_
      refine r_vV C zw2 hl.1 (i := (o + 4)) (by omega) ht0 (T := TX6) (n := 3) rfl [.ref (ad (o + 1))] 1 rfl (c_X6_remember (l := l) (G := G) (tC := tC) (ad := ad) (N := N) (E := E) (t := (o + 4)) (pm := pm) (pa := pa) (i := (o + 1)) (pg := pg) (cm := cm) (hd := hd) (lst := lst) (md := md) (sd := sd) (cs := cs) (op := op) (s := s) (by omega) (by omega) hE1 hE2 hE3 (by first | assumption | omega) (by first | assumption | omega) (by first | assumption | omega) (by first | assumption | omega)) gX7_weight_X6_remember rfl ⟨rfl, rfl⟩ (by decide +kernel) ⟨Nat.le_of_ble_eq_true rfl, Nat.le_of_ble_eq_true rfl⟩ (rest := []) rfl (Nat.le_of_ble_eq_true rfl) dX7_weight_35 ⟨Nat.zero_le _, Nat.zero_le _⟩ (fun zE3 zH3 zL3 zp3 zw3 => ?_)
      obtain ⟨zf3, zq3⟩ := zp3
      have zk3_0 : zE3 o = .inr (4, [.ref (ad (o + 1)), .ref (ad (o + 4)), .ref (ad (o + 54)), .ref (ad (o + 61)), .ref (ad (o + 62)), .ref (ad (o + 67)), .ref (ad (o + 73)), .ref (ad (o + 74)), .int (nI co)]) := (zf3 _ (by omega)).trans hE0
      have zk3_1 : zE3 (o + 1) = .inr (2, [.ref (ad (o + 2)), .ref (ad (o + 3)), .int (nI pg), .int (nI cm), .int lst, .int md, .int sd, .int (nI hd)]) := (zf3 _ (by omega)).trans hE1
      have zk3_2 : zE3 (o + 2) = eI G 500 cs := (zf3 _ (by omega)).trans hE2
      have zk3_3 : zE3 (o + 3) = eI G 4 op := (zf3 _ (by omega)).trans hE3
      have zfr3 : ∀ j, ¬ ((o + 4) ≤ j ∧ j < (o + 54)) → zE3 j = E j := fun j zm0 => zf3 j zm0
      have zrg3 := zq3
      refine lv_aload_n hx hb dX7_weight_38 rfl (lv_at hl 0 rfl) ?_
      refine r_get C zw3 RX7 TX7 9 4 hinX7 (i := o) (by omega) zk3_0 rfl 0 (by decide) (by decide +kernel) rfl (v := .ref (ad (o + 1))) rfl dX7_weight_39 ?_
      refine lv_iload_n hx hb dX7_weight_42 rfl (lv_at hl 1 rfl) ?_
      refine lv_iconst (v := nI 4) hx hb dX7_weight_43 rfl ?_
      refine r_vI C zw3 hl.1 (i := (o + 1)) (by omega) zk3_1 (T := TX5) (n := 8) rfl [.int (nI k), .int (nI 4)] 2 rfl (c_X5_get_s (l := l) (G := G) (tC := tC) (ad := ad) (N := N) (E := zE3) (i := (o + 1)) (pg := pg) (cm := cm) (hd := hd) (lst := lst) (md := md) (sd := sd) (cs := cs) (s := s) (k := k) (cl := 4) (by omega) zk3_1 zk3_2 (by first | assumption | omega) (by first | assumption | omega) (by first | assumption | omega) (by first | assumption | omega) (by first | assumption | omega)) gX7_weight_X5_get rfl ⟨rfl, rfl⟩ (by decide +kernel) ⟨Nat.le_of_ble_eq_true rfl, Nat.le_of_ble_eq_true rfl⟩ (rest := []) rfl (Nat.le_of_ble_eq_true rfl) dX7_weight_44 ⟨Nat.zero_le _, Nat.zero_le _⟩ (fun zr4 zE4 zH4 zL4 zp4 zw4 => ?_)
      obtain ⟨ze4, zq4⟩ := zp4
      rw [ze4] at zw4
      clear ze4
      rw [zq4]
      refine lv_istore_n (lv' := [(3, .int (s (8 + 50 * k + 4))), (0, .ref (ad o)), (1, .int (nI k)), (2, .int (nI v))]) hx hb dX7_weight_47 rfl hl (by decide) rfl (fun ls hl => ?_)
      refine lv_aload_n hx hb dX7_weight_48 rfl (lv_at hl 1 rfl) ?_
      refine r_get C zw4 RX7 TX7 9 4 hinX7 (i := o) (by omega) zk3_0 rfl 0 (by decide) (by decide +kernel) rfl (v := .ref (ad (o + 1))) rfl dX7_weight_49 ?_
      refine lv_iload_n hx hb dX7_weight_52 rfl (lv_at hl 2 rfl) ?_
      refine lv_iconst (v := nI 4) hx hb dX7_weight_53 rfl ?_
      refine lv_iload_n hx hb dX7_weight_54 rfl (lv_at hl 3 rfl) ?_
      refine r_vV C zw4 hl.1 (i := (o + 1)) (by omega) zk3_1 (T := TX5) (n := 8) rfl [.int (nI k), .int (nI 4), .int (nI v)] 3 rfl (c_X5_set (l := l) (G := G) (tC := tC) (ad := ad) (N := N) (E := zE3) (i := (o + 1)) (pg := pg) (cm := cm) (hd := hd) (lst := lst) (md := md) (sd := sd) (cs := cs) (k := k) (cl := 4) (v := nI v) (by omega) zk3_1 zk3_2 (by first | assumption | omega)) gX7_weight_X5_set rfl ⟨rfl, rfl⟩ (by decide +kernel) ⟨Nat.le_of_ble_eq_true rfl, Nat.le_of_ble_eq_true rfl⟩ (rest := []) rfl (Nat.le_of_ble_eq_true rfl) dX7_weight_55 ⟨Nat.zero_le _, Nat.zero_le _⟩ (fun zE5 zH5 zL5 zp5 zw5 => ?_)
      obtain ⟨zg5_0, zf5⟩ := zp5
      have zh5_0 : zE5 (o + 2) = eI G 500 (upd cs (k * 50 + 4) (nI v)) := zg5_0
      have zk5_0 : zE5 o = .inr (4, [.ref (ad (o + 1)), .ref (ad (o + 4)), .ref (ad (o + 54)), .ref (ad (o + 61)), .ref (ad (o + 62)), .ref (ad (o + 67)), .ref (ad (o + 73)), .ref (ad (o + 74)), .int (nI co)]) := (zf5 _ (by omega)).trans zk3_0
      have zk5_1 : zE5 (o + 1) = .inr (2, [.ref (ad (o + 2)), .ref (ad (o + 3)), .int (nI pg), .int (nI cm), .int lst, .int md, .int sd, .int (nI hd)]) := (zf5 _ (by omega)).trans zk3_1
      have zk5_2 : zE5 (o + 3) = eI G 4 op := (zf5 _ (by omega)).trans zk3_3
      have zfr5 : ∀ j, ¬ ((o + 4) ≤ j ∧ j < (o + 54)) → j ≠ (o + 2) → zE5 j = E j := fun j zm0 zm1 => (zf5 j zm1).trans (zfr3 j zm0)
      have zy5_rg : Ring G ad zE5 (o + 4) (ntF pa pm s) (ntK pm + 1) := zrg3.same (fun j zj1 zj2 => zf5 j (by omega))
      refine lv_iload_n hx hb dX7_weight_58 rfl (lv_at hl 0 rfl) ?_
      exact r_iret C zw5 dX7_weight_59 ⟨zh5_0, (fun j zm0 zm1 => zfr5 j (by omega) zm0), (by exact ⟨rep_weight (nI v) hrep hk, zy5_rg, rfl⟩)⟩
    · exact absurd ⟨nI_le hv1 (by omega), nI_le hv (by omega)⟩ zc21
  · exact absurd (has_nI hk (by omega)) zc8

set_option maxHeartbeats 4000000 in
set_option maxRecDepth 100000 in
theorem c_X7_weight_n {l : Launch} {G : vG} {tC : Nat} {ad : Nat → Nat} {N : Nat} {E : Nat → va_E} {o co pg cm hd : Nat} {lst md sd : Int32} {cs op : Nat → Int32} {s : Nat → Int32} {k v : Int32} (hN0 : o + 75 ≤ N) (hE0 : E o = .inr (4, [.ref (ad (o + 1)), .ref (ad (o + 4)), .ref (ad (o + 54)), .ref (ad (o + 61)), .ref (ad (o + 62)), .ref (ad (o + 67)), .ref (ad (o + 73)), .ref (ad (o + 74)), .int (nI co)])) (hE1 : E (o + 1) = .inr (2, [.ref (ad (o + 2)), .ref (ad (o + 3)), .int (nI pg), .int (nI cm), .int lst, .int md, .int sd, .int (nI hd)])) (hE2 : E (o + 2) = eI G 500 cs) (hE3 : E (o + 3) = eI G 4 op) (hno : ¬ (hasP pg k ∧ (nI 1 ≤ v ∧ v ≤ nI 9))) (hrep : RepS s cs op pg cm hd lst md (cm + 1)) : MI l yX7_weight wsX7_weight ({ frames := 3, cells := 0, slots := 0, locals := 82 } : Room) G tC ad N E [.ref (ad o), .int k, .int v] (fun r E2 => E2 = E ∧ r = if hasP pg k then -1000000002 else -1000000001) := by
  refine MI_of RX7 rfl (by decide) rfl (Nat.le_of_ble_eq_true rfl) ?_
  intro pp_ ee_ ss_ mm_ aa_ bb_ me_ cc_ A ls C hw hl
  have hx := C.1
  have hb := C.2.1
  have hown := C.2.2.2.2.1
  have hts := C.2.2.2.2.2.1
  have hl : lv_has ls 4 [(0, .ref (ad o)), (1, .int k), (2, .int v)] := hl
  have hinX7 : ∀ w ∈ u_ws RX7 TX7 9, w ∈ wsX7_weight := by decide +kernel
  have hag := hrep.2.2.1
  have hp := hrep.1.2.1
  refine lv_aload_n hx hb dX7_weight_0 rfl (lv_at hl 0 rfl) ?_
  refine r_get C hw RX7 TX7 9 4 hinX7 (i := o) (by omega) hE0 rfl 0 (by decide) (by decide +kernel) rfl (v := .ref (ad (o + 1))) rfl dX7_weight_1 ?_
  refine lv_iload_n hx hb dX7_weight_4 rfl (lv_at hl 1 rfl) ?_
  refine r_vI C hw hl.1 (i := (o + 1)) (by omega) hE1 (T := TX5) (n := 8) rfl [.int k] 1 rfl (c_X5_has (l := l) (G := G) (tC := tC) (ad := ad) (N := N) (E := E) (i := (o + 1)) (pg := pg) (cm := cm) (hd := hd) (lst := lst) (md := md) (sd := sd) (k := k) (by omega) hE1 (by first | assumption | omega)) gX7_weight_X5_has rfl ⟨rfl, rfl⟩ (by decide +kernel) ⟨Nat.le_of_ble_eq_true rfl, Nat.le_of_ble_eq_true rfl⟩ (rest := []) rfl (Nat.le_of_ble_eq_true rfl) dX7_weight_5 ⟨Nat.zero_le _, Nat.zero_le _⟩ (fun zr1 zE1 zH1 zL1 zp1 zw1 => ?_)
  obtain ⟨ze1, zq1⟩ := zp1
  rw [ze1] at zw1
  clear ze1
  rw [zq1]
  refine b_if_ne (tgt := 14) hx hb dX7_weight_8 (by decide) (fun zc8 => ?_) (fun zc8 => ?_)
  · refine lv_iload_n hx hb dX7_weight_14 rfl (lv_at hl 2 rfl) ?_
    refine lv_iconst (v := nI 1) hx hb dX7_weight_15 rfl ?_
    refine lv_bipush (v := nI 9) hx hb dX7_weight_16 rfl ?_
    refine r_sI C zw1 hl.1 [.int v, .int (nI 1), .int (nI 9)] 3 rfl (c_X7_isWithin (l := l) (G := G) (tC := tC) (ad := ad) (N := N) (E := E) (x := v) (a := nI 1) (b := nI 9)   ) gX7_weight_X7_isWithin rfl ⟨rfl, rfl⟩ (by decide +kernel) ⟨Nat.le_of_ble_eq_true rfl, Nat.le_of_ble_eq_true rfl⟩ (rest := []) rfl (Nat.le_of_ble_eq_true rfl) dX7_weight_18 ⟨Nat.zero_le _, Nat.zero_le _⟩ (fun zr2 zE2 zH2 zL2 zp2 zw2 => ?_)
    obtain ⟨ze2, zq2⟩ := zp2
    rw [ze2] at zw2
    clear ze2
    rw [zq2]
    refine b_if_ne (tgt := 27) hx hb dX7_weight_21 (by decide) (fun zc21 => ?_) (fun zc21 => ?_)
    · exact absurd ⟨zc8, zc21⟩ hno
    · refine lv_ldc (v := -1000000002) hx hb hown (hts (.constant RX7 62 (-1000000002)) (by decide +kernel)) dX7_weight_24 ?_
      exact r_iret C zw2 dX7_weight_26 ⟨rfl, (by rw [if_pos zc8])⟩
  · refine lv_ldc (v := -1000000001) hx hb hown (hts (.constant RX7 103 (-1000000001)) (by decide +kernel)) dX7_weight_11 ?_
    exact r_iret C zw1 dX7_weight_13 ⟨rfl, (by rw [if_neg zc8])⟩

set_option maxHeartbeats 4000000 in
set_option maxRecDepth 100000 in
theorem c_X7_drop_y {l : Launch} {G : vG} {tC : Nat} {ad : Nat → Nat} {N : Nat} {E : Nat → va_E} {o co pg cm hd : Nat} {lst md sd : Int32} {cs op : Nat → Int32} {pm : Nat} {pa s : Nat → Int32} {k : Nat} (hN0 : o + 75 ≤ N) (hE0 : E o = .inr (4, [.ref (ad (o + 1)), .ref (ad (o + 4)), .ref (ad (o + 54)), .ref (ad (o + 61)), .ref (ad (o + 62)), .ref (ad (o + 67)), .ref (ad (o + 73)), .ref (ad (o + 74)), .int (nI co)])) (hE1 : E (o + 1) = .inr (2, [.ref (ad (o + 2)), .ref (ad (o + 3)), .int (nI pg), .int (nI cm), .int lst, .int md, .int sd, .int (nI hd)])) (hE2 : E (o + 2) = eI G 500 cs) (hE3 : E (o + 3) = eI G 4 op) (hk : k < pg) (hrg : Ring G ad E (o + 4) pa pm) (hrep : RepS s cs op pg cm hd lst md (cm + 1)) (hcm : cm < 1000000) : MI l yX7_drop wsX7_drop ({ frames := 3, cells := 0, slots := 0, locals := 82 } : Room) G tC ad N E [.ref (ad o), .int (nI k)] (fun r E2 => E2 (o + 1) = .inr (2, [.ref (ad (o + 2)), .ref (ad (o + 3)), .int (nI (pg - 1)), .int (nI cm), .int lst, .int md, .int sd, .int (nI hd)]) ∧ E2 (o + 2) = eI G 500 (rmF cs pg k) ∧ E2 (o + 3) = eI G 4 (shQ op k 4) ∧ (∀ j, j ≠ (o + 1) → j ≠ (o + 2) → j ≠ (o + 3) → ¬ (o + 4 ≤ j ∧ j < o + 54) → E2 j = E j) ∧ RepS (goesF s pg k) (rmF cs pg k) (shQ op k 4) (pg - 1) cm hd lst md (cm + 1) ∧ Ring G ad E2 (o + 4) (ntF pa pm s) (ntK pm + 1) ∧ r = nI (pg - 1)) := by
  refine MI_of RX7 rfl (by decide) rfl (Nat.le_of_ble_eq_true rfl) ?_
  intro pp_ ee_ ss_ mm_ aa_ bb_ me_ cc_ A ls C hw hl
  have hx := C.1
  have hb := C.2.1
  have hown := C.2.2.2.2.1
  have hts := C.2.2.2.2.2.1
  have hl : lv_has ls 2 [(0, .ref (ad o)), (1, .int (nI k))] := hl
  have hinX5 : ∀ w ∈ u_ws RX5 TX5 8, w ∈ wsX7_drop := by decide +kernel
  have hinX7 : ∀ w ∈ u_ws RX7 TX7 9, w ∈ wsX7_drop := by decide +kernel
  have hag := hrep.2.2.1
  have hp := hrep.1.2.1
  obtain ⟨nx, fz, hrn⟩ := id hrg
  have ht0 := hrn.2.2.1
  refine lv_aload_n hx hb dX7_drop_0 rfl (lv_at hl 0 rfl) ?_
  refine r_get C hw RX7 TX7 9 4 hinX7 (i := o) (by omega) hE0 rfl 0 (by decide) (by decide +kernel) rfl (v := .ref (ad (o + 1))) rfl dX7_drop_1 ?_
  refine lv_iload_n hx hb dX7_drop_4 rfl (lv_at hl 1 rfl) ?_
  refine r_vI C hw hl.1 (i := (o + 1)) (by omega) hE1 (T := TX5) (n := 8) rfl [.int (nI k)] 1 rfl (c_X5_has (l := l) (G := G) (tC := tC) (ad := ad) (N := N) (E := E) (i := (o + 1)) (pg := pg) (cm := cm) (hd := hd) (lst := lst) (md := md) (sd := sd) (k := nI k) (by omega) hE1 (by first | assumption | omega)) gX7_drop_X5_has rfl ⟨rfl, rfl⟩ (by decide +kernel) ⟨Nat.le_of_ble_eq_true rfl, Nat.le_of_ble_eq_true rfl⟩ (rest := []) rfl (Nat.le_of_ble_eq_true rfl) dX7_drop_5 ⟨Nat.zero_le _, Nat.zero_le _⟩ (fun zr1 zE1 zH1 zL1 zp1 zw1 => ?_)
  obtain ⟨ze1, zq1⟩ := zp1
  rw [ze1] at zw1
  clear ze1
  rw [zq1]
  refine b_if_ne (tgt := 14) hx hb dX7_drop_8 (by decide) (fun zc8 => ?_) (fun zc8 => ?_)
  · refine lv_aload_n hx hb dX7_drop_14 rfl (lv_at hl 0 rfl) ?_
    refine r_get C zw1 RX7 TX7 9 4 hinX7 (i := o) (by omega) hE0 rfl 1 (by decide) (by decide +kernel) rfl (v := .ref (ad (o + 4))) rfl dX7_drop_15 ?_
    refine lv_aload_n hx hb dX7_drop_18 rfl (lv_at hl 0 rfl) ?_
    refine r_get C zw1 RX7 TX7 9 4 hinX7 (i := o) (by omega) hE0 rfl 0 (by decide) (by decide +kernel) rfl (v := .ref (ad (o + 1))) rfl dX7_drop_19 ?_
    refine r_vV C zw1 hl.1 (i := (o + 4)) (by omega) ht0 (T := TX6) (n := 3) rfl [.ref (ad (o + 1))] 1 rfl (c_X6_remember (l := l) (G := G) (tC := tC) (ad := ad) (N := N) (E := E) (t := (o + 4)) (pm := pm) (pa := pa) (i := (o + 1)) (pg := pg) (cm := cm) (hd := hd) (lst := lst) (md := md) (sd := sd) (cs := cs) (op := op) (s := s) (by omega) (by omega) hE1 hE2 hE3 (by first | assumption | omega) (by first | assumption | omega) (by first | assumption | omega) (by first | assumption | omega)) gX7_drop_X6_remember rfl ⟨rfl, rfl⟩ (by decide +kernel) ⟨Nat.le_of_ble_eq_true rfl, Nat.le_of_ble_eq_true rfl⟩ (rest := []) rfl (Nat.le_of_ble_eq_true rfl) dX7_drop_22 ⟨Nat.zero_le _, Nat.zero_le _⟩ (fun zE2 zH2 zL2 zp2 zw2 => ?_)
    obtain ⟨zf2, zq2⟩ := zp2
    have zk2_0 : zE2 o = .inr (4, [.ref (ad (o + 1)), .ref (ad (o + 4)), .ref (ad (o + 54)), .ref (ad (o + 61)), .ref (ad (o + 62)), .ref (ad (o + 67)), .ref (ad (o + 73)), .ref (ad (o + 74)), .int (nI co)]) := (zf2 _ (by omega)).trans hE0
    have zk2_1 : zE2 (o + 1) = .inr (2, [.ref (ad (o + 2)), .ref (ad (o + 3)), .int (nI pg), .int (nI cm), .int lst, .int md, .int sd, .int (nI hd)]) := (zf2 _ (by omega)).trans hE1
    have zk2_2 : zE2 (o + 2) = eI G 500 cs := (zf2 _ (by omega)).trans hE2
    have zk2_3 : zE2 (o + 3) = eI G 4 op := (zf2 _ (by omega)).trans hE3
    have zfr2 : ∀ j, ¬ ((o + 4) ≤ j ∧ j < (o + 54)) → zE2 j = E j := fun j zm0 => zf2 j zm0
    have zrg2 := zq2
    refine lv_aload_n hx hb dX7_drop_25 rfl (lv_at hl 0 rfl) ?_
    refine r_get C zw2 RX7 TX7 9 4 hinX7 (i := o) (by omega) zk2_0 rfl 0 (by decide) (by decide +kernel) rfl (v := .ref (ad (o + 1))) rfl dX7_drop_26 ?_
    refine lv_iload_n hx hb dX7_drop_29 rfl (lv_at hl 1 rfl) ?_
    refine r_vV C zw2 hl.1 (i := (o + 1)) (by omega) zk2_1 (T := TX5) (n := 8) rfl [.int (nI k)] 1 rfl (c_X5_remove (l := l) (G := G) (tC := tC) (ad := ad) (N := N) (E := zE2) (i := (o + 1)) (pg := pg) (cm := cm) (hd := hd) (lst := lst) (md := md) (sd := sd) (cs := cs) (op := op) (k := k) (by omega) zk2_1 zk2_2 zk2_3 (by first | assumption | omega) (by first | assumption | omega)) gX7_drop_X5_remove rfl ⟨rfl, rfl⟩ (by decide +kernel) ⟨Nat.le_of_ble_eq_true rfl, Nat.le_of_ble_eq_true rfl⟩ (rest := []) rfl (Nat.le_of_ble_eq_true rfl) dX7_drop_30 ⟨Nat.zero_le _, Nat.zero_le _⟩ (fun zE3 zH3 zL3 zp3 zw3 => ?_)
    obtain ⟨zg3_0, zg3_1, zg3_2, zf3⟩ := zp3
    have zh3_0 : zE3 (o + 1) = .inr (2, [.ref (ad (o + 2)), .ref (ad (o + 3)), .int (nI (pg - 1)), .int (nI cm), .int lst, .int md, .int sd, .int (nI hd)]) := zg3_0
    have zh3_1 : zE3 (o + 2) = eI G 500 (rmF cs pg k) := zg3_1
    have zh3_2 : zE3 (o + 3) = eI G 4 (shQ op k 4) := zg3_2
    have zk3_0 : zE3 o = .inr (4, [.ref (ad (o + 1)), .ref (ad (o + 4)), .ref (ad (o + 54)), .ref (ad (o + 61)), .ref (ad (o + 62)), .ref (ad (o + 67)), .ref (ad (o + 73)), .ref (ad (o + 74)), .int (nI co)]) := (zf3 _ (by omega) (by omega) (by omega)).trans zk2_0
    have zfr3 : ∀ j, ¬ ((o + 4) ≤ j ∧ j < (o + 54)) → j ≠ (o + 1) → j ≠ (o + 2) → j ≠ (o + 3) → zE3 j = E j := fun j zm0 zm1 zm2 zm3 => (zf3 j zm1 zm2 zm3).trans (zfr2 j zm0)
    have zy3_rg : Ring G ad zE3 (o + 4) (ntF pa pm s) (ntK pm + 1) := zrg2.same (fun j zj1 zj2 => zf3 j (by omega) (by omega) (by omega))
    refine lv_aload_n hx hb dX7_drop_33 rfl (lv_at hl 0 rfl) ?_
    refine r_get C zw3 RX7 TX7 9 4 hinX7 (i := o) (by omega) zk3_0 rfl 0 (by decide) (by decide +kernel) rfl (v := .ref (ad (o + 1))) rfl dX7_drop_34 ?_
    refine r_get C zw3 RX5 TX5 8 2 hinX5 (i := (o + 1)) (by omega) zh3_0 rfl 2 (by decide) (by decide +kernel) rfl (v := .int (nI (pg - 1))) rfl dX7_drop_37 ?_
    exact r_iret C zw3 dX7_drop_40 ⟨zh3_0, zh3_1, zh3_2, (fun j zm0 zm1 zm2 zm3 => zfr3 j (by omega) zm0 zm1 zm2), (by exact ⟨rep_goes hrep hk, zy3_rg, rfl⟩)⟩
  · exact absurd (has_nI hk (by omega)) zc8

set_option maxHeartbeats 4000000 in
set_option maxRecDepth 100000 in
theorem c_X7_drop_n {l : Launch} {G : vG} {tC : Nat} {ad : Nat → Nat} {N : Nat} {E : Nat → va_E} {o co pg cm hd : Nat} {lst md sd : Int32} {cs op : Nat → Int32} {s : Nat → Int32} {k : Int32} (hN0 : o + 75 ≤ N) (hE0 : E o = .inr (4, [.ref (ad (o + 1)), .ref (ad (o + 4)), .ref (ad (o + 54)), .ref (ad (o + 61)), .ref (ad (o + 62)), .ref (ad (o + 67)), .ref (ad (o + 73)), .ref (ad (o + 74)), .int (nI co)])) (hE1 : E (o + 1) = .inr (2, [.ref (ad (o + 2)), .ref (ad (o + 3)), .int (nI pg), .int (nI cm), .int lst, .int md, .int sd, .int (nI hd)])) (hE2 : E (o + 2) = eI G 500 cs) (hE3 : E (o + 3) = eI G 4 op) (hno : ¬ hasP pg k) (hrep : RepS s cs op pg cm hd lst md (cm + 1)) : MI l yX7_drop wsX7_drop ({ frames := 3, cells := 0, slots := 0, locals := 82 } : Room) G tC ad N E [.ref (ad o), .int k] (fun r E2 => E2 = E ∧ r = -1000000001) := by
  refine MI_of RX7 rfl (by decide) rfl (Nat.le_of_ble_eq_true rfl) ?_
  intro pp_ ee_ ss_ mm_ aa_ bb_ me_ cc_ A ls C hw hl
  have hx := C.1
  have hb := C.2.1
  have hown := C.2.2.2.2.1
  have hts := C.2.2.2.2.2.1
  have hl : lv_has ls 2 [(0, .ref (ad o)), (1, .int k)] := hl
  have hinX5 : ∀ w ∈ u_ws RX5 TX5 8, w ∈ wsX7_drop := by decide +kernel
  have hinX7 : ∀ w ∈ u_ws RX7 TX7 9, w ∈ wsX7_drop := by decide +kernel
  have hag := hrep.2.2.1
  have hp := hrep.1.2.1
  refine lv_aload_n hx hb dX7_drop_0 rfl (lv_at hl 0 rfl) ?_
  refine r_get C hw RX7 TX7 9 4 hinX7 (i := o) (by omega) hE0 rfl 0 (by decide) (by decide +kernel) rfl (v := .ref (ad (o + 1))) rfl dX7_drop_1 ?_
  refine lv_iload_n hx hb dX7_drop_4 rfl (lv_at hl 1 rfl) ?_
  refine r_vI C hw hl.1 (i := (o + 1)) (by omega) hE1 (T := TX5) (n := 8) rfl [.int k] 1 rfl (c_X5_has (l := l) (G := G) (tC := tC) (ad := ad) (N := N) (E := E) (i := (o + 1)) (pg := pg) (cm := cm) (hd := hd) (lst := lst) (md := md) (sd := sd) (k := k) (by omega) hE1 (by first | assumption | omega)) gX7_drop_X5_has rfl ⟨rfl, rfl⟩ (by decide +kernel) ⟨Nat.le_of_ble_eq_true rfl, Nat.le_of_ble_eq_true rfl⟩ (rest := []) rfl (Nat.le_of_ble_eq_true rfl) dX7_drop_5 ⟨Nat.zero_le _, Nat.zero_le _⟩ (fun zr1 zE1 zH1 zL1 zp1 zw1 => ?_)
  obtain ⟨ze1, zq1⟩ := zp1
  rw [ze1] at zw1
  clear ze1
  rw [zq1]
  refine b_if_ne (tgt := 14) hx hb dX7_drop_8 (by decide) (fun zc8 => ?_) (fun zc8 => ?_)
  · exact absurd zc8 hno
  · refine lv_ldc (v := -1000000001) hx hb hown (hts (.constant RX7 103 (-1000000001)) (by decide +kernel)) dX7_drop_11 ?_
    exact r_iret C zw1 dX7_drop_13 ⟨rfl, (by rfl)⟩

set_option maxHeartbeats 4000000 in
set_option maxRecDepth 100000 in
theorem c_X7_undo_y {l : Launch} {G : vG} {tC : Nat} {ad : Nat → Nat} {N : Nat} {E : Nat → va_E} {o co pg cm hd : Nat} {lst md sd : Int32} {cs op : Nat → Int32} {pm : Nat} {pa : Nat → Int32} {n : Nat} (hN0 : o + 75 ≤ N) (hE0 : E o = .inr (4, [.ref (ad (o + 1)), .ref (ad (o + 4)), .ref (ad (o + 54)), .ref (ad (o + 61)), .ref (ad (o + 62)), .ref (ad (o + 67)), .ref (ad (o + 73)), .ref (ad (o + 74)), .int (nI co)])) (hE1 : E (o + 1) = .inr (2, [.ref (ad (o + 2)), .ref (ad (o + 3)), .int (nI pg), .int (nI cm), .int lst, .int md, .int sd, .int (nI hd)])) (hE2 : E (o + 2) = eI G 500 cs) (hE3 : E (o + 3) = eI G 4 op) (hn1 : 1 ≤ n) (hn : n ≤ pm) (hpm : pm ≤ 16) (hrg : Ring G ad E (o + 4) pa pm) : MI l yX7_undo wsX7_undo ({ frames := 3, cells := 0, slots := 0, locals := 83 } : Room) G tC ad N E [.ref (ad o), .int (nI n)] (fun r E2 => ∃ cs2 : Nat → Int32, ∃ op2 : Nat → Int32, ∃ pg2 : Nat, ∃ hd2 : Nat, ∃ lst2 : Int32, ∃ md2 : Int32, ∃ cm2 : Nat, E2 (o + 1) = .inr (2, [.ref (ad (o + 2)), .ref (ad (o + 3)), .int (nI pg2), .int (nI cm2), .int lst2, .int md2, .int sd, .int (nI hd2)]) ∧ E2 (o + 2) = eI G 500 cs2 ∧ E2 (o + 3) = eI G 4 op2 ∧ (∀ j, j ≠ (o + 1) → j ≠ (o + 2) → j ≠ (o + 3) → ¬ (o + 4 ≤ j ∧ j < o + 54) → E2 j = E j) ∧ RepS (slc pa (pm - n)) cs2 op2 pg2 cm2 hd2 lst2 md2 (cm2 + 1) ∧ Ring G ad E2 (o + 4) pa (pm - n) ∧ cm2 < 1000000 ∧ r = slc pa (pm - n) 1) := by
  refine MI_of RX7 rfl (by decide) rfl (Nat.le_of_ble_eq_true rfl) ?_
  intro pp_ ee_ ss_ mm_ aa_ bb_ me_ cc_ A ls C hw hl
  have hx := C.1
  have hb := C.2.1
  have hown := C.2.2.2.2.1
  have hts := C.2.2.2.2.2.1
  have hl : lv_has ls 2 [(0, .ref (ad o)), (1, .int (nI n))] := hl
  have hinX5 : ∀ w ∈ u_ws RX5 TX5 8, w ∈ wsX7_undo := by decide +kernel
  have hinX6 : ∀ w ∈ u_ws RX6 TX6 3, w ∈ wsX7_undo := by decide +kernel
  have hinX7 : ∀ w ∈ u_ws RX7 TX7 9, w ∈ wsX7_undo := by decide +kernel
  obtain ⟨nx, fz, hrn⟩ := id hrg
  have ht0 := hrn.2.2.1
  refine lv_iload_n hx hb dX7_undo_0 rfl (lv_at hl 1 rfl) ?_
  refine lv_iconst (v := nI 1) hx hb dX7_undo_1 rfl ?_
  refine lv_bipush (v := nI 16) hx hb dX7_undo_2 rfl ?_
  refine r_sI C hw hl.1 [.int (nI n), .int (nI 1), .int (nI 16)] 3 rfl (c_X7_isWithin (l := l) (G := G) (tC := tC) (ad := ad) (N := N) (E := E) (x := nI n) (a := nI 1) (b := nI 16)   ) gX7_undo_X7_isWithin rfl ⟨rfl, rfl⟩ (by decide +kernel) ⟨Nat.le_of_ble_eq_true rfl, Nat.le_of_ble_eq_true rfl⟩ (rest := []) rfl (Nat.le_of_ble_eq_true rfl) dX7_undo_4 ⟨Nat.zero_le _, Nat.zero_le _⟩ (fun zr1 zE1 zH1 zL1 zp1 zw1 => ?_)
  obtain ⟨ze1, zq1⟩ := zp1
  rw [ze1] at zw1
  clear ze1
  rw [zq1]
  refine b_if_ne (tgt := 13) hx hb dX7_undo_7 (by decide) (fun zc7 => ?_) (fun zc7 => ?_)
  · refine lv_iload_n hx hb dX7_undo_13 rfl (lv_at hl 1 rfl) ?_
    refine lv_aload_n hx hb dX7_undo_14 rfl (lv_at hl 0 rfl) ?_
    refine r_get C zw1 RX7 TX7 9 4 hinX7 (i := o) (by omega) hE0 rfl 1 (by decide) (by decide +kernel) rfl (v := .ref (ad (o + 4))) rfl dX7_undo_15 ?_
    refine r_get C zw1 RX6 TX6 3 3 hinX6 (i := (o + 4)) (by omega) ht0 rfl 2 (by decide) (by decide +kernel) rfl (v := .int (nI pm)) rfl dX7_undo_18 ?_
    refine n_icmp_le (tgt := 27) hx hb dX7_undo_21 (by decide) (by omega) (by omega) (fun zc21 => ?_) (fun zc21 => ?_)
    · refine lv_aload_n hx hb dX7_undo_27 rfl (lv_at hl 0 rfl) ?_
      refine r_get C zw1 RX7 TX7 9 4 hinX7 (i := o) (by omega) hE0 rfl 1 (by decide) (by decide +kernel) rfl (v := .ref (ad (o + 4))) rfl dX7_undo_28 ?_
      refine lv_aload_n hx hb dX7_undo_31 rfl (lv_at hl 0 rfl) ?_
      refine r_get C zw1 RX7 TX7 9 4 hinX7 (i := o) (by omega) hE0 rfl 0 (by decide) (by decide +kernel) rfl (v := .ref (ad (o + 1))) rfl dX7_undo_32 ?_
      refine lv_iload_n hx hb dX7_undo_35 rfl (lv_at hl 1 rfl) ?_
      refine r_vV C zw1 hl.1 (i := (o + 4)) (by omega) ht0 (T := TX6) (n := 3) rfl [.ref (ad (o + 1)), .int (nI n)] 2 rfl (c_X6_takeBack (l := l) (G := G) (tC := tC) (ad := ad) (N := N) (E := E) (t := (o + 4)) (pm := pm) (pa := pa) (i := (o + 1)) (pg := pg) (cm := cm) (hd := hd) (lst := lst) (md := md) (sd := sd) (cs := cs) (op := op) (n := n) (by omega) (by omega) hE1 hE2 hE3 (by first | assumption | omega) (by first | assumption | omega) (by first | assumption | omega) (by first | assumption | omega)) gX7_undo_X6_takeBack rfl ⟨rfl, rfl⟩ (by decide +kernel) ⟨Nat.le_of_ble_eq_true rfl, Nat.le_of_ble_eq_true rfl⟩ (rest := []) rfl (Nat.le_of_ble_eq_true rfl) dX7_undo_36 ⟨Nat.zero_le _, Nat.zero_le _⟩ (fun zE2 zH2 zL2 zp2 zw2 => ?_)
      obtain ⟨zcs22, zop22, zpg22, zcm22, zhd22, zlst22, zmd22, zg2_0, zg2_1, zg2_2, zf2, zq2⟩ := zp2
      have zh2_0 : zE2 (o + 1) = .inr (2, [.ref (ad (o + 2)), .ref (ad (o + 3)), .int (nI zpg22), .int (nI zcm22), .int zlst22, .int zmd22, .int sd, .int (nI zhd22)]) := zg2_0
      have zh2_1 : zE2 (o + 2) = eI G 500 zcs22 := zg2_1
      have zh2_2 : zE2 (o + 3) = eI G 4 zop22 := zg2_2
      have zk2_0 : zE2 o = .inr (4, [.ref (ad (o + 1)), .ref (ad (o + 4)), .ref (ad (o + 54)), .ref (ad (o + 61)), .ref (ad (o + 62)), .ref (ad (o + 67)), .ref (ad (o + 73)), .ref (ad (o + 74)), .int (nI co)]) := (zf2 _ (by omega) (by omega) (by omega) (by omega)).trans hE0
      have zfr2 : ∀ j, j ≠ (o + 1) → j ≠ (o + 2) → j ≠ (o + 3) → ¬ ((o + 4) ≤ j ∧ j < (o + 54)) → zE2 j = E j := fun j zm0 zm1 zm2 zm3 => zf2 j zm0 zm1 zm2 zm3
      obtain ⟨zrg2, zrp, zcb⟩ := zq2
      refine lv_aload_n hx hb dX7_undo_39 rfl (lv_at hl 0 rfl) ?_
      refine r_get C zw2 RX7 TX7 9 4 hinX7 (i := o) (by omega) zk2_0 rfl 0 (by decide) (by decide +kernel) rfl (v := .ref (ad (o + 1))) rfl dX7_undo_40 ?_
      refine r_get C zw2 RX5 TX5 8 2 hinX5 (i := (o + 1)) (by omega) zh2_0 rfl 3 (by decide) (by decide +kernel) rfl (v := .int (nI zcm22)) rfl dX7_undo_43 ?_
      exact r_iret C zw2 dX7_undo_46 ⟨zcs22, zop22, zpg22, zhd22, zlst22, zmd22, zcm22, zh2_0, zh2_1, zh2_2, (fun j zm0 zm1 zm2 zm3 => zfr2 j zm0 zm1 zm2 (by omega)), (by exact ⟨zrp, zrg2, zcb, zrp.1.2.2.1.symm⟩)⟩
    · exact absurd zc21 (by omega)
  · exact absurd ⟨nI_le hn1 (by omega), nI_le (by omega) (by omega)⟩ zc7

set_option maxHeartbeats 4000000 in
set_option maxRecDepth 100000 in
theorem c_X7_undo_n {l : Launch} {G : vG} {tC : Nat} {ad : Nat → Nat} {N : Nat} {E : Nat → va_E} {o co pm : Nat} {pa : Nat → Int32} {n : Int32} (hN0 : o + 75 ≤ N) (hE0 : E o = .inr (4, [.ref (ad (o + 1)), .ref (ad (o + 4)), .ref (ad (o + 54)), .ref (ad (o + 61)), .ref (ad (o + 62)), .ref (ad (o + 67)), .ref (ad (o + 73)), .ref (ad (o + 74)), .int (nI co)])) (hno : ¬ ((nI 1 ≤ n ∧ n ≤ nI 16) ∧ n ≤ nI pm)) (hrg : Ring G ad E (o + 4) pa pm) : MI l yX7_undo wsX7_undo ({ frames := 3, cells := 0, slots := 0, locals := 83 } : Room) G tC ad N E [.ref (ad o), .int n] (fun r E2 => E2 = E ∧ r = if nI 1 ≤ n ∧ n ≤ nI 16 then -1000000003 else -1000000002) := by
  refine MI_of RX7 rfl (by decide) rfl (Nat.le_of_ble_eq_true rfl) ?_
  intro pp_ ee_ ss_ mm_ aa_ bb_ me_ cc_ A ls C hw hl
  have hx := C.1
  have hb := C.2.1
  have hown := C.2.2.2.2.1
  have hts := C.2.2.2.2.2.1
  have hl : lv_has ls 2 [(0, .ref (ad o)), (1, .int n)] := hl
  have hinX5 : ∀ w ∈ u_ws RX5 TX5 8, w ∈ wsX7_undo := by decide +kernel
  have hinX6 : ∀ w ∈ u_ws RX6 TX6 3, w ∈ wsX7_undo := by decide +kernel
  have hinX7 : ∀ w ∈ u_ws RX7 TX7 9, w ∈ wsX7_undo := by decide +kernel
  obtain ⟨nx, fz, hrn⟩ := id hrg
  have ht0 := hrn.2.2.1
  refine lv_iload_n hx hb dX7_undo_0 rfl (lv_at hl 1 rfl) ?_
  refine lv_iconst (v := nI 1) hx hb dX7_undo_1 rfl ?_
  refine lv_bipush (v := nI 16) hx hb dX7_undo_2 rfl ?_
  refine r_sI C hw hl.1 [.int n, .int (nI 1), .int (nI 16)] 3 rfl (c_X7_isWithin (l := l) (G := G) (tC := tC) (ad := ad) (N := N) (E := E) (x := n) (a := nI 1) (b := nI 16)   ) gX7_undo_X7_isWithin rfl ⟨rfl, rfl⟩ (by decide +kernel) ⟨Nat.le_of_ble_eq_true rfl, Nat.le_of_ble_eq_true rfl⟩ (rest := []) rfl (Nat.le_of_ble_eq_true rfl) dX7_undo_4 ⟨Nat.zero_le _, Nat.zero_le _⟩ (fun zr1 zE1 zH1 zL1 zp1 zw1 => ?_)
  obtain ⟨ze1, zq1⟩ := zp1
  rw [ze1] at zw1
  clear ze1
  rw [zq1]
  refine b_if_ne (tgt := 13) hx hb dX7_undo_7 (by decide) (fun zc7 => ?_) (fun zc7 => ?_)
  · refine lv_iload_n hx hb dX7_undo_13 rfl (lv_at hl 1 rfl) ?_
    refine lv_aload_n hx hb dX7_undo_14 rfl (lv_at hl 0 rfl) ?_
    refine r_get C zw1 RX7 TX7 9 4 hinX7 (i := o) (by omega) hE0 rfl 1 (by decide) (by decide +kernel) rfl (v := .ref (ad (o + 4))) rfl dX7_undo_15 ?_
    refine r_get C zw1 RX6 TX6 3 3 hinX6 (i := (o + 4)) (by omega) ht0 rfl 2 (by decide) (by decide +kernel) rfl (v := .int (nI pm)) rfl dX7_undo_18 ?_
    refine lv_icmp_le (tgt := 27) hx hb dX7_undo_21 (by decide) (fun zc21 => ?_) (fun zc21 => ?_)
    · exact absurd ⟨zc7, zc21⟩ hno
    · refine lv_ldc (v := -1000000003) hx hb hown (hts (.constant RX7 159 (-1000000003)) (by decide +kernel)) dX7_undo_24 ?_
      exact r_iret C zw1 dX7_undo_26 ⟨rfl, (by rw [if_pos zc7])⟩
  · refine lv_ldc (v := -1000000002) hx hb hown (hts (.constant RX7 62 (-1000000002)) (by decide +kernel)) dX7_undo_10 ?_
    exact r_iret C zw1 dX7_undo_12 ⟨rfl, (by rw [if_neg zc7])⟩

set_option maxHeartbeats 4000000 in
set_option maxRecDepth 100000 in
theorem c_X7_write_y {l : Launch} {G : vG} {tC : Nat} {ad : Nat → Nat} {N : Nat} {E : Nat → va_E} {o co pg cm hd : Nat} {lst md sd : Int32} {cs op : Nat → Int32} {s : Nat → Int32} {em : Nat} {bp br bi bl : Nat → Int32} {k row j lt : Nat} (hN0 : o + 75 ≤ N) (hE0 : E o = .inr (4, [.ref (ad (o + 1)), .ref (ad (o + 4)), .ref (ad (o + 54)), .ref (ad (o + 61)), .ref (ad (o + 62)), .ref (ad (o + 67)), .ref (ad (o + 73)), .ref (ad (o + 74)), .int (nI co)])) (hE1 : E (o + 1) = .inr (2, [.ref (ad (o + 2)), .ref (ad (o + 3)), .int (nI pg), .int (nI cm), .int lst, .int md, .int sd, .int (nI hd)])) (hE2 : E (o + 2) = eI G 500 cs) (hE3 : E (o + 3) = eI G 4 op) (hE4 : E (o + 62) = .inr (0, [.ref (ad (o + 63)), .ref (ad (o + 64)), .ref (ad (o + 65)), .ref (ad (o + 66)), .int (nI em)])) (hE5 : E (o + 63) = eI G 20 bp) (hE6 : E (o + 64) = eI G 20 br) (hE7 : E (o + 65) = eI G 20 bi) (hE8 : E (o + 66) = eI G 20 bl) (hk : k < pg) (hrow : row ≤ 4) (hj : j ≤ 7) (hlt : lt ≤ 127) (hem : em < 20) (hrep : RepS s cs op pg cm hd lst md (cm + 1)) : MI l yX7_write wsX7_write ({ frames := 2, cells := 0, slots := 0, locals := 46 } : Room) G tC ad N E [.ref (ad o), .int (nI k), .int (nI row), .int (nI j), .int (nI lt)] (fun r E2 => E2 (o + 62) = .inr (0, [.ref (ad (o + 63)), .ref (ad (o + 64)), .ref (ad (o + 65)), .ref (ad (o + 66)), .int (nI (em + 1))]) ∧ E2 (o + 63) = eI G 20 (upd bp em (nI k)) ∧ E2 (o + 64) = eI G 20 (upd br em (nI row)) ∧ E2 (o + 65) = eI G 20 (upd bi em (nI j)) ∧ E2 (o + 66) = eI G 20 (upd bl em (nI lt)) ∧ (∀ j, j ≠ (o + 62) → j ≠ (o + 63) → j ≠ (o + 64) → j ≠ (o + 65) → j ≠ (o + 66) → E2 j = E j) ∧ r = nI (em + 1)) := by
  refine MI_of RX7 rfl (by decide) rfl (Nat.le_of_ble_eq_true rfl) ?_
  intro pp_ ee_ ss_ mm_ aa_ bb_ me_ cc_ A ls C hw hl
  have hx := C.1
  have hb := C.2.1
  have hown := C.2.2.2.2.1
  have hts := C.2.2.2.2.2.1
  have hl : lv_has ls 5 [(0, .ref (ad o)), (1, .int (nI k)), (2, .int (nI row)), (3, .int (nI j)), (4, .int (nI lt))] := hl
  have hinX2 : ∀ w ∈ u_ws RX2 TX2 5, w ∈ wsX7_write := by decide +kernel
  have hinX7 : ∀ w ∈ u_ws RX7 TX7 9, w ∈ wsX7_write := by decide +kernel
  have hag := hrep.2.2.1
  have hp := hrep.1.2.1
  refine lv_aload_n hx hb dX7_write_0 rfl (lv_at hl 0 rfl) ?_
  refine r_get C hw RX7 TX7 9 4 hinX7 (i := o) (by omega) hE0 rfl 0 (by decide) (by decide +kernel) rfl (v := .ref (ad (o + 1))) rfl dX7_write_1 ?_
  refine lv_iload_n hx hb dX7_write_4 rfl (lv_at hl 1 rfl) ?_
  refine r_vI C hw hl.1 (i := (o + 1)) (by omega) hE1 (T := TX5) (n := 8) rfl [.int (nI k)] 1 rfl (c_X5_has (l := l) (G := G) (tC := tC) (ad := ad) (N := N) (E := E) (i := (o + 1)) (pg := pg) (cm := cm) (hd := hd) (lst := lst) (md := md) (sd := sd) (k := nI k) (by omega) hE1 (by first | assumption | omega)) gX7_write_X5_has rfl ⟨rfl, rfl⟩ (by decide +kernel) ⟨Nat.le_of_ble_eq_true rfl, Nat.le_of_ble_eq_true rfl⟩ (rest := []) rfl (Nat.le_of_ble_eq_true rfl) dX7_write_5 ⟨Nat.zero_le _, Nat.zero_le _⟩ (fun zr1 zE1 zH1 zL1 zp1 zw1 => ?_)
  obtain ⟨ze1, zq1⟩ := zp1
  rw [ze1] at zw1
  clear ze1
  rw [zq1]
  refine b_if_ne (tgt := 14) hx hb dX7_write_8 (by decide) (fun zc8 => ?_) (fun zc8 => ?_)
  · refine lv_iload_n hx hb dX7_write_14 rfl (lv_at hl 2 rfl) ?_
    refine lv_iload_n hx hb dX7_write_15 rfl (lv_at hl 3 rfl) ?_
    refine r_sI C zw1 hl.1 [.int (nI row), .int (nI j)] 2 rfl (c_X7_isPlace (l := l) (G := G) (tC := tC) (ad := ad) (N := N) (E := E) (x := nI row) (y := nI j)   ) gX7_write_X7_isPlace rfl ⟨rfl, rfl⟩ (by decide +kernel) ⟨Nat.le_of_ble_eq_true rfl, Nat.le_of_ble_eq_true rfl⟩ (rest := []) rfl (Nat.le_of_ble_eq_true rfl) dX7_write_16 ⟨Nat.zero_le _, Nat.zero_le _⟩ (fun zr2 zE2 zH2 zL2 zp2 zw2 => ?_)
    obtain ⟨ze2, zq2⟩ := zp2
    rw [ze2] at zw2
    clear ze2
    rw [zq2]
    refine b_if_eq (tgt := 33) hx hb dX7_write_19 (by decide) (fun zc19 => ?_) (fun zc19 => ?_)
    · exact absurd ⟨in_nI (by omega) (by omega), in_nI (by omega) (by omega)⟩ zc19
    · refine lv_iload hx hb dX7_write_22 (lv_at hl 4 rfl) ?_
      refine lv_iconst (v := nI 0) hx hb dX7_write_24 rfl ?_
      refine lv_bipush (v := nI 127) hx hb dX7_write_25 rfl ?_
      refine r_sI C zw2 hl.1 [.int (nI lt), .int (nI 0), .int (nI 127)] 3 rfl (c_X7_isWithin (l := l) (G := G) (tC := tC) (ad := ad) (N := N) (E := E) (x := nI lt) (a := nI 0) (b := nI 127)   ) gX7_write_X7_isWithin rfl ⟨rfl, rfl⟩ (by decide +kernel) ⟨Nat.le_of_ble_eq_true rfl, Nat.le_of_ble_eq_true rfl⟩ (rest := []) rfl (Nat.le_of_ble_eq_true rfl) dX7_write_27 ⟨Nat.zero_le _, Nat.zero_le _⟩ (fun zr3 zE3 zH3 zL3 zp3 zw3 => ?_)
      obtain ⟨ze3, zq3⟩ := zp3
      rw [ze3] at zw3
      clear ze3
      rw [zq3]
      refine b_if_ne (tgt := 36) hx hb dX7_write_30 (by decide) (fun zc30 => ?_) (fun zc30 => ?_)
      · refine lv_aload_n hx hb dX7_write_36 rfl (lv_at hl 0 rfl) ?_
        refine r_get C zw3 RX7 TX7 9 4 hinX7 (i := o) (by omega) hE0 rfl 4 (by decide) (by decide +kernel) rfl (v := .ref (ad (o + 62))) rfl dX7_write_37 ?_
        refine lv_iload_n hx hb dX7_write_40 rfl (lv_at hl 1 rfl) ?_
        refine lv_iload_n hx hb dX7_write_41 rfl (lv_at hl 2 rfl) ?_
        refine lv_iload_n hx hb dX7_write_42 rfl (lv_at hl 3 rfl) ?_
        refine lv_iload hx hb dX7_write_43 (lv_at hl 4 rfl) ?_
        refine r_vI C zw3 hl.1 (i := (o + 62)) (by omega) hE4 (T := TX2) (n := 5) rfl [.int (nI k), .int (nI row), .int (nI j), .int (nI lt)] 4 rfl (c_X2_add_y (l := l) (G := G) (tC := tC) (ad := ad) (N := N) (E := E) (b := (o + 62)) (em := em) (bp := bp) (br := br) (bi := bi) (bl := bl) (k := k) (row := row) (j := j) (lt := lt) (by omega) hE4 hE5 hE6 hE7 hE8 (by first | assumption | omega)) gX7_write_X2_add rfl ⟨rfl, rfl⟩ (by decide +kernel) ⟨Nat.le_of_ble_eq_true rfl, Nat.le_of_ble_eq_true rfl⟩ (rest := []) rfl (Nat.le_of_ble_eq_true rfl) dX7_write_45 ⟨Nat.zero_le _, Nat.zero_le _⟩ (fun zr4 zE4 zH4 zL4 zp4 zw4 => ?_)
        obtain ⟨zg4_0, zg4_1, zg4_2, zg4_3, zg4_4, zf4, zq4⟩ := zp4
        have zh4_0 : zE4 (o + 62) = .inr (0, [.ref (ad (o + 63)), .ref (ad (o + 64)), .ref (ad (o + 65)), .ref (ad (o + 66)), .int (nI (em + 1))]) := zg4_0
        have zh4_1 : zE4 (o + 63) = eI G 20 (upd bp em (nI k)) := zg4_1
        have zh4_2 : zE4 (o + 64) = eI G 20 (upd br em (nI row)) := zg4_2
        have zh4_3 : zE4 (o + 65) = eI G 20 (upd bi em (nI j)) := zg4_3
        have zh4_4 : zE4 (o + 66) = eI G 20 (upd bl em (nI lt)) := zg4_4
        have zk4_0 : zE4 o = .inr (4, [.ref (ad (o + 1)), .ref (ad (o + 4)), .ref (ad (o + 54)), .ref (ad (o + 61)), .ref (ad (o + 62)), .ref (ad (o + 67)), .ref (ad (o + 73)), .ref (ad (o + 74)), .int (nI co)]) := (zf4 _ (by omega) (by omega) (by omega) (by omega) (by omega)).trans hE0
        have zk4_1 : zE4 (o + 1) = .inr (2, [.ref (ad (o + 2)), .ref (ad (o + 3)), .int (nI pg), .int (nI cm), .int lst, .int md, .int sd, .int (nI hd)]) := (zf4 _ (by omega) (by omega) (by omega) (by omega) (by omega)).trans hE1
        have zk4_2 : zE4 (o + 2) = eI G 500 cs := (zf4 _ (by omega) (by omega) (by omega) (by omega) (by omega)).trans hE2
        have zk4_3 : zE4 (o + 3) = eI G 4 op := (zf4 _ (by omega) (by omega) (by omega) (by omega) (by omega)).trans hE3
        have zfr4 : ∀ j, j ≠ (o + 62) → j ≠ (o + 63) → j ≠ (o + 64) → j ≠ (o + 65) → j ≠ (o + 66) → zE4 j = E j := fun j zm0 zm1 zm2 zm3 zm4 => zf4 j zm0 zm1 zm2 zm3 zm4
        rw [zq4]
        refine lv_if_eq (tgt := 61) hx hb dX7_write_48 (by decide) (fun zc48 => ?_) (fun zc48 => ?_)
        · exact absurd zc48 (by decide)
        · refine lv_aload_n hx hb dX7_write_51 rfl (lv_at hl 0 rfl) ?_
          refine r_get C zw4 RX7 TX7 9 4 hinX7 (i := o) (by omega) zk4_0 rfl 4 (by decide) (by decide +kernel) rfl (v := .ref (ad (o + 62))) rfl dX7_write_52 ?_
          refine r_get C zw4 RX2 TX2 5 0 hinX2 (i := (o + 62)) (by omega) zh4_0 rfl 4 (by decide) (by decide +kernel) rfl (v := .int (nI (em + 1))) rfl dX7_write_55 ?_
          refine lv_goto (tgt := 63) hx hb dX7_write_58 (by decide) ?_
          exact r_iret C zw4 dX7_write_63 ⟨zh4_0, zh4_1, zh4_2, zh4_3, zh4_4, (fun j zm0 zm1 zm2 zm3 zm4 => zfr4 j zm0 zm1 zm2 zm3 zm4), (by rfl)⟩
      · exact absurd (in_nI (by omega) (by omega)) zc30
  · exact absurd (has_nI hk (by omega)) zc8

set_option maxHeartbeats 4000000 in
set_option maxRecDepth 100000 in
theorem c_X7_write_n {l : Launch} {G : vG} {tC : Nat} {ad : Nat → Nat} {N : Nat} {E : Nat → va_E} {o co pg cm hd : Nat} {lst md sd : Int32} {cs op : Nat → Int32} {s : Nat → Int32} {em : Nat} {bp br bi bl : Nat → Int32} {k row j lt : Int32} (hN0 : o + 75 ≤ N) (hE0 : E o = .inr (4, [.ref (ad (o + 1)), .ref (ad (o + 4)), .ref (ad (o + 54)), .ref (ad (o + 61)), .ref (ad (o + 62)), .ref (ad (o + 67)), .ref (ad (o + 73)), .ref (ad (o + 74)), .int (nI co)])) (hE1 : E (o + 1) = .inr (2, [.ref (ad (o + 2)), .ref (ad (o + 3)), .int (nI pg), .int (nI cm), .int lst, .int md, .int sd, .int (nI hd)])) (hE2 : E (o + 2) = eI G 500 cs) (hE3 : E (o + 3) = eI G 4 op) (hE4 : E (o + 62) = .inr (0, [.ref (ad (o + 63)), .ref (ad (o + 64)), .ref (ad (o + 65)), .ref (ad (o + 66)), .int (nI em)])) (hE5 : E (o + 63) = eI G 20 bp) (hE6 : E (o + 64) = eI G 20 br) (hE7 : E (o + 65) = eI G 20 bi) (hE8 : E (o + 66) = eI G 20 bl) (hem : em ≤ 20) (hno : ¬ (hasP pg k ∧ ((nI 0 ≤ row ∧ row ≤ nI 4) ∧ (nI 0 ≤ j ∧ j ≤ nI 7) ∧ (nI 0 ≤ lt ∧ lt ≤ nI 127)) ∧ em < 20)) (hrep : RepS s cs op pg cm hd lst md (cm + 1)) : MI l yX7_write wsX7_write ({ frames := 2, cells := 0, slots := 0, locals := 46 } : Room) G tC ad N E [.ref (ad o), .int k, .int row, .int j, .int lt] (fun r E2 => E2 = E ∧ r = if hasP pg k then (if (nI 0 ≤ row ∧ row ≤ nI 4) ∧ (nI 0 ≤ j ∧ j ≤ nI 7) ∧ (nI 0 ≤ lt ∧ lt ≤ nI 127) then -1000000004 else -1000000002) else -1000000001) := by
  refine MI_of RX7 rfl (by decide) rfl (Nat.le_of_ble_eq_true rfl) ?_
  intro pp_ ee_ ss_ mm_ aa_ bb_ me_ cc_ A ls C hw hl
  have hx := C.1
  have hb := C.2.1
  have hown := C.2.2.2.2.1
  have hts := C.2.2.2.2.2.1
  have hl : lv_has ls 5 [(0, .ref (ad o)), (1, .int k), (2, .int row), (3, .int j), (4, .int lt)] := hl
  have hinX2 : ∀ w ∈ u_ws RX2 TX2 5, w ∈ wsX7_write := by decide +kernel
  have hinX7 : ∀ w ∈ u_ws RX7 TX7 9, w ∈ wsX7_write := by decide +kernel
  have hag := hrep.2.2.1
  have hp := hrep.1.2.1
  refine lv_aload_n hx hb dX7_write_0 rfl (lv_at hl 0 rfl) ?_
  refine r_get C hw RX7 TX7 9 4 hinX7 (i := o) (by omega) hE0 rfl 0 (by decide) (by decide +kernel) rfl (v := .ref (ad (o + 1))) rfl dX7_write_1 ?_
  refine lv_iload_n hx hb dX7_write_4 rfl (lv_at hl 1 rfl) ?_
  refine r_vI C hw hl.1 (i := (o + 1)) (by omega) hE1 (T := TX5) (n := 8) rfl [.int k] 1 rfl (c_X5_has (l := l) (G := G) (tC := tC) (ad := ad) (N := N) (E := E) (i := (o + 1)) (pg := pg) (cm := cm) (hd := hd) (lst := lst) (md := md) (sd := sd) (k := k) (by omega) hE1 (by first | assumption | omega)) gX7_write_X5_has rfl ⟨rfl, rfl⟩ (by decide +kernel) ⟨Nat.le_of_ble_eq_true rfl, Nat.le_of_ble_eq_true rfl⟩ (rest := []) rfl (Nat.le_of_ble_eq_true rfl) dX7_write_5 ⟨Nat.zero_le _, Nat.zero_le _⟩ (fun zr1 zE1 zH1 zL1 zp1 zw1 => ?_)
  obtain ⟨ze1, zq1⟩ := zp1
  rw [ze1] at zw1
  clear ze1
  rw [zq1]
  refine b_if_ne (tgt := 14) hx hb dX7_write_8 (by decide) (fun zc8 => ?_) (fun zc8 => ?_)
  · refine lv_iload_n hx hb dX7_write_14 rfl (lv_at hl 2 rfl) ?_
    refine lv_iload_n hx hb dX7_write_15 rfl (lv_at hl 3 rfl) ?_
    refine r_sI C zw1 hl.1 [.int row, .int j] 2 rfl (c_X7_isPlace (l := l) (G := G) (tC := tC) (ad := ad) (N := N) (E := E) (x := row) (y := j)   ) gX7_write_X7_isPlace rfl ⟨rfl, rfl⟩ (by decide +kernel) ⟨Nat.le_of_ble_eq_true rfl, Nat.le_of_ble_eq_true rfl⟩ (rest := []) rfl (Nat.le_of_ble_eq_true rfl) dX7_write_16 ⟨Nat.zero_le _, Nat.zero_le _⟩ (fun zr2 zE2 zH2 zL2 zp2 zw2 => ?_)
    obtain ⟨ze2, zq2⟩ := zp2
    rw [ze2] at zw2
    clear ze2
    rw [zq2]
    refine b_if_eq (tgt := 33) hx hb dX7_write_19 (by decide) (fun zc19 => ?_) (fun zc19 => ?_)
    · refine lv_ldc (v := -1000000002) hx hb hown (hts (.constant RX7 62 (-1000000002)) (by decide +kernel)) dX7_write_33 ?_
      exact r_iret C zw2 dX7_write_35 ⟨rfl, (by rw [if_pos zc8, if_neg (by first | exact fun zq => zc19 ⟨zq.1, zq.2.1⟩ | exact fun zq => zc30 zq.2.2)])⟩
    · refine lv_iload hx hb dX7_write_22 (lv_at hl 4 rfl) ?_
      refine lv_iconst (v := nI 0) hx hb dX7_write_24 rfl ?_
      refine lv_bipush (v := nI 127) hx hb dX7_write_25 rfl ?_
      refine r_sI C zw2 hl.1 [.int lt, .int (nI 0), .int (nI 127)] 3 rfl (c_X7_isWithin (l := l) (G := G) (tC := tC) (ad := ad) (N := N) (E := E) (x := lt) (a := nI 0) (b := nI 127)   ) gX7_write_X7_isWithin rfl ⟨rfl, rfl⟩ (by decide +kernel) ⟨Nat.le_of_ble_eq_true rfl, Nat.le_of_ble_eq_true rfl⟩ (rest := []) rfl (Nat.le_of_ble_eq_true rfl) dX7_write_27 ⟨Nat.zero_le _, Nat.zero_le _⟩ (fun zr3 zE3 zH3 zL3 zp3 zw3 => ?_)
      obtain ⟨ze3, zq3⟩ := zp3
      rw [ze3] at zw3
      clear ze3
      rw [zq3]
      refine b_if_ne (tgt := 36) hx hb dX7_write_30 (by decide) (fun zc30 => ?_) (fun zc30 => ?_)
      · obtain ⟨j9, zj9, rfl⟩ := has_of zc8
        obtain ⟨j8, zj8, rfl⟩ := in_of (by omega) zc19.1
        obtain ⟨j7, zj7, rfl⟩ := in_of (by omega) zc19.2
        obtain ⟨j6, zj6, rfl⟩ := in_of (by omega) zc30
        have ze20 : em = 20 := Classical.byContradiction fun zq => hno ⟨zc8, ⟨zc19.1, zc19.2, zc30⟩, by omega⟩
        refine lv_aload_n hx hb dX7_write_36 rfl (lv_at hl 0 rfl) ?_
        refine r_get C zw3 RX7 TX7 9 4 hinX7 (i := o) (by omega) hE0 rfl 4 (by decide) (by decide +kernel) rfl (v := .ref (ad (o + 62))) rfl dX7_write_37 ?_
        refine lv_iload_n hx hb dX7_write_40 rfl (lv_at hl 1 rfl) ?_
        refine lv_iload_n hx hb dX7_write_41 rfl (lv_at hl 2 rfl) ?_
        refine lv_iload_n hx hb dX7_write_42 rfl (lv_at hl 3 rfl) ?_
        refine lv_iload hx hb dX7_write_43 (lv_at hl 4 rfl) ?_
        refine r_vI C zw3 hl.1 (i := (o + 62)) (by omega) hE4 (T := TX2) (n := 5) rfl [.int (nI j9), .int (nI j8), .int (nI j7), .int (nI j6)] 4 rfl (c_X2_add_n (l := l) (G := G) (tC := tC) (ad := ad) (N := N) (E := E) (b := (o + 62)) (em := em) (bp := bp) (br := br) (bi := bi) (bl := bl) (k := j9) (row := j8) (j := j7) (lt := j6) (by omega) hE4 ze20) gX7_write_X2_add rfl ⟨rfl, rfl⟩ (by decide +kernel) ⟨Nat.le_of_ble_eq_true rfl, Nat.le_of_ble_eq_true rfl⟩ (rest := []) rfl (Nat.le_of_ble_eq_true rfl) dX7_write_45 ⟨Nat.zero_le _, Nat.zero_le _⟩ (fun zr4 zE4 zH4 zL4 zp4 zw4 => ?_)
        obtain ⟨ze4, zq4⟩ := zp4
        rw [ze4] at zw4
        clear ze4
        rw [zq4]
        refine lv_if_eq (tgt := 61) hx hb dX7_write_48 (by decide) (fun zc48 => ?_) (fun zc48 => ?_)
        · refine lv_ldc (v := -1000000004) hx hb hown (hts (.constant RX7 180 (-1000000004)) (by decide +kernel)) dX7_write_61 ?_
          exact r_iret C zw4 dX7_write_63 ⟨rfl, (by rw [if_pos zc8, if_pos ⟨zc19.1, zc19.2, zc30⟩])⟩
        · exact absurd rfl zc48
      · refine lv_ldc (v := -1000000002) hx hb hown (hts (.constant RX7 62 (-1000000002)) (by decide +kernel)) dX7_write_33 ?_
        exact r_iret C zw3 dX7_write_35 ⟨rfl, (by rw [if_pos zc8, if_neg (by first | exact fun zq => zc19 ⟨zq.1, zq.2.1⟩ | exact fun zq => zc30 zq.2.2)])⟩
  · refine lv_ldc (v := -1000000001) hx hb hown (hts (.constant RX7 103 (-1000000001)) (by decide +kernel)) dX7_write_11 ?_
    exact r_iret C zw1 dX7_write_13 ⟨rfl, (by rw [if_neg zc8])⟩

set_option maxHeartbeats 4000000 in
set_option maxRecDepth 100000 in
theorem c_X7_tear {l : Launch} {G : vG} {tC : Nat} {ad : Nat → Nat} {N : Nat} {E : Nat → va_E} {o co em : Nat} (hN0 : o + 75 ≤ N) (hE0 : E o = .inr (4, [.ref (ad (o + 1)), .ref (ad (o + 4)), .ref (ad (o + 54)), .ref (ad (o + 61)), .ref (ad (o + 62)), .ref (ad (o + 67)), .ref (ad (o + 73)), .ref (ad (o + 74)), .int (nI co)])) (hE1 : E (o + 62) = .inr (0, [.ref (ad (o + 63)), .ref (ad (o + 64)), .ref (ad (o + 65)), .ref (ad (o + 66)), .int (nI em)])) : MI l yX7_tear wsX7_tear ({ frames := 0, cells := 0, slots := 0, locals := 0 } : Room) G tC ad N E [.ref (ad o)] (fun r E2 => E2 (o + 62) = .inr (0, [.ref (ad (o + 63)), .ref (ad (o + 64)), .ref (ad (o + 65)), .ref (ad (o + 66)), .int (nI 0)]) ∧ (∀ j, j ≠ (o + 62) → E2 j = E j) ∧ r = nI em) := by
  refine MI_of RX7 rfl (by decide) rfl (Nat.le_of_ble_eq_true rfl) ?_
  intro pp_ ee_ ss_ mm_ aa_ bb_ me_ cc_ A ls C hw hl
  have hx := C.1
  have hb := C.2.1
  have hown := C.2.2.2.2.1
  have hts := C.2.2.2.2.2.1
  have hl : lv_has ls 2 [(0, .ref (ad o))] := hl
  have hinX2 : ∀ w ∈ u_ws RX2 TX2 5, w ∈ wsX7_tear := by decide +kernel
  have hinX7 : ∀ w ∈ u_ws RX7 TX7 9, w ∈ wsX7_tear := by decide +kernel
  refine lv_aload_n hx hb dX7_tear_0 rfl (lv_at hl 0 rfl) ?_
  refine r_get C hw RX7 TX7 9 4 hinX7 (i := o) (by omega) hE0 rfl 4 (by decide) (by decide +kernel) rfl (v := .ref (ad (o + 62))) rfl dX7_tear_1 ?_
  refine r_get C hw RX2 TX2 5 0 hinX2 (i := (o + 62)) (by omega) hE1 rfl 4 (by decide) (by decide +kernel) rfl (v := .int (nI em)) rfl dX7_tear_4 ?_
  refine lv_istore_n (lv' := [(1, .int (nI em)), (0, .ref (ad o))]) hx hb dX7_tear_7 rfl hl (by decide) rfl (fun ls hl => ?_)
  refine lv_aload_n hx hb dX7_tear_8 rfl (lv_at hl 1 rfl) ?_
  refine r_get C hw RX7 TX7 9 4 hinX7 (i := o) (by omega) hE0 rfl 4 (by decide) (by decide +kernel) rfl (v := .ref (ad (o + 62))) rfl dX7_tear_9 ?_
  refine lv_iconst (v := nI 0) hx hb dX7_tear_12 rfl ?_
  refine r_put C hw RX2 TX2 5 0 hinX2 tyX2 tyX2_ok nmX2 (i := (o + 62)) (by omega) hE1 rfl 4 (by decide) (by decide +kernel) rfl rfl (v := .int (nI 0)) rfl rfl (Nat.le_of_ble_eq_true rfl) dX7_tear_13 (fun zE1 zH1 zL1 zg1 zf1 zw1 => ?_)
  have zh1_0 : zE1 (o + 62) = .inr (0, [.ref (ad (o + 63)), .ref (ad (o + 64)), .ref (ad (o + 65)), .ref (ad (o + 66)), .int (nI 0)]) := zg1
  have zk1_0 : zE1 o = .inr (4, [.ref (ad (o + 1)), .ref (ad (o + 4)), .ref (ad (o + 54)), .ref (ad (o + 61)), .ref (ad (o + 62)), .ref (ad (o + 67)), .ref (ad (o + 73)), .ref (ad (o + 74)), .int (nI co)]) := (zf1 _ (by omega)).trans hE0
  have zfr1 : ∀ j, j ≠ (o + 62) → zE1 j = E j := fun j zm0 => zf1 j zm0
  refine lv_iload_n hx hb dX7_tear_16 rfl (lv_at hl 0 rfl) ?_
  exact r_iret C zw1 dX7_tear_17 ⟨zh1_0, (fun j zm0 => zfr1 j zm0), (by rfl)⟩

set_option maxHeartbeats 4000000 in
set_option maxRecDepth 100000 in
theorem c_X7_seed_y {l : Launch} {G : vG} {tC : Nat} {ad : Nat → Nat} {N : Nat} {E : Nat → va_E} {o co pg cm hd sn v : Nat} {lst md : Int32} (hN0 : o + 75 ≤ N) (hE0 : E o = .inr (4, [.ref (ad (o + 1)), .ref (ad (o + 4)), .ref (ad (o + 54)), .ref (ad (o + 61)), .ref (ad (o + 62)), .ref (ad (o + 67)), .ref (ad (o + 73)), .ref (ad (o + 74)), .int (nI co)])) (hE1 : E (o + 1) = .inr (2, [.ref (ad (o + 2)), .ref (ad (o + 3)), .int (nI pg), .int (nI cm), .int lst, .int md, .int (nI sn), .int (nI hd)])) (hv : v < 2147483648) : MI l yX7_seed wsX7_seed ({ frames := 0, cells := 0, slots := 0, locals := 0 } : Room) G tC ad N E [.ref (ad o), .int (nI v)] (fun r E2 => E2 (o + 1) = .inr (2, [.ref (ad (o + 2)), .ref (ad (o + 3)), .int (nI pg), .int (nI cm), .int lst, .int md, .int (nI v), .int (nI hd)]) ∧ (∀ j, j ≠ (o + 1) → E2 j = E j) ∧ r = nI sn) := by
  refine MI_of RX7 rfl (by decide) rfl (Nat.le_of_ble_eq_true rfl) ?_
  intro pp_ ee_ ss_ mm_ aa_ bb_ me_ cc_ A ls C hw hl
  have hx := C.1
  have hb := C.2.1
  have hown := C.2.2.2.2.1
  have hts := C.2.2.2.2.2.1
  have hl : lv_has ls 3 [(0, .ref (ad o)), (1, .int (nI v))] := hl
  have hinX5 : ∀ w ∈ u_ws RX5 TX5 8, w ∈ wsX7_seed := by decide +kernel
  have hinX7 : ∀ w ∈ u_ws RX7 TX7 9, w ∈ wsX7_seed := by decide +kernel
  refine lv_iload_n hx hb dX7_seed_0 rfl (lv_at hl 1 rfl) ?_
  refine n_if_ge (tgt := 7) hx hb dX7_seed_1 (by decide) (by omega) (fun zc1 => ?_) (fun zc1 => ?_)
  · refine lv_aload_n hx hb dX7_seed_7 rfl (lv_at hl 0 rfl) ?_
    refine r_get C hw RX7 TX7 9 4 hinX7 (i := o) (by omega) hE0 rfl 0 (by decide) (by decide +kernel) rfl (v := .ref (ad (o + 1))) rfl dX7_seed_8 ?_
    refine r_get C hw RX5 TX5 8 2 hinX5 (i := (o + 1)) (by omega) hE1 rfl 6 (by decide) (by decide +kernel) rfl (v := .int (nI sn)) rfl dX7_seed_11 ?_
    refine lv_istore_n (lv' := [(2, .int (nI sn)), (0, .ref (ad o)), (1, .int (nI v))]) hx hb dX7_seed_14 rfl hl (by decide) rfl (fun ls hl => ?_)
    refine lv_aload_n hx hb dX7_seed_15 rfl (lv_at hl 1 rfl) ?_
    refine r_get C hw RX7 TX7 9 4 hinX7 (i := o) (by omega) hE0 rfl 0 (by decide) (by decide +kernel) rfl (v := .ref (ad (o + 1))) rfl dX7_seed_16 ?_
    refine lv_iload_n hx hb dX7_seed_19 rfl (lv_at hl 2 rfl) ?_
    refine r_put C hw RX5 TX5 8 2 hinX5 tyX5 tyX5_ok nmX5 (i := (o + 1)) (by omega) hE1 rfl 6 (by decide) (by decide +kernel) rfl rfl (v := .int (nI v)) rfl rfl (Nat.le_of_ble_eq_true rfl) dX7_seed_20 (fun zE1 zH1 zL1 zg1 zf1 zw1 => ?_)
    have zh1_0 : zE1 (o + 1) = .inr (2, [.ref (ad (o + 2)), .ref (ad (o + 3)), .int (nI pg), .int (nI cm), .int lst, .int md, .int (nI v), .int (nI hd)]) := zg1
    have zk1_0 : zE1 o = .inr (4, [.ref (ad (o + 1)), .ref (ad (o + 4)), .ref (ad (o + 54)), .ref (ad (o + 61)), .ref (ad (o + 62)), .ref (ad (o + 67)), .ref (ad (o + 73)), .ref (ad (o + 74)), .int (nI co)]) := (zf1 _ (by omega)).trans hE0
    have zfr1 : ∀ j, j ≠ (o + 1) → zE1 j = E j := fun j zm0 => zf1 j zm0
    refine lv_iload_n hx hb dX7_seed_23 rfl (lv_at hl 0 rfl) ?_
    exact r_iret C zw1 dX7_seed_24 ⟨zh1_0, (fun j zm0 => zfr1 j zm0), (by rfl)⟩
  · exact zc1.elim

set_option maxHeartbeats 4000000 in
set_option maxRecDepth 100000 in
theorem c_X7_seed_n {l : Launch} {G : vG} {tC : Nat} {ad : Nat → Nat} {N : Nat} {E : Nat → va_E} {o : Nat} {v : Int32} (hN0 : o + 75 ≤ N) (hno : v < 0) : MI l yX7_seed wsX7_seed ({ frames := 0, cells := 0, slots := 0, locals := 0 } : Room) G tC ad N E [.ref (ad o), .int v] (fun r E2 => E2 = E ∧ r = -1000000002) := by
  refine MI_of RX7 rfl (by decide) rfl (Nat.le_of_ble_eq_true rfl) ?_
  intro pp_ ee_ ss_ mm_ aa_ bb_ me_ cc_ A ls C hw hl
  have hx := C.1
  have hb := C.2.1
  have hown := C.2.2.2.2.1
  have hts := C.2.2.2.2.2.1
  have hl : lv_has ls 3 [(0, .ref (ad o)), (1, .int v)] := hl
  have hinX5 : ∀ w ∈ u_ws RX5 TX5 8, w ∈ wsX7_seed := by decide +kernel
  have hinX7 : ∀ w ∈ u_ws RX7 TX7 9, w ∈ wsX7_seed := by decide +kernel
  refine lv_iload_n hx hb dX7_seed_0 rfl (lv_at hl 1 rfl) ?_
  refine lv_if_ge (tgt := 7) hx hb dX7_seed_1 (by decide) (fun zc1 => ?_) (fun zc1 => ?_)
  · exact absurd hno (Int32.not_lt.mpr zc1)
  · refine lv_ldc (v := -1000000002) hx hb hown (hts (.constant RX7 62 (-1000000002)) (by decide +kernel)) dX7_seed_4 ?_
    exact r_iret C hw dX7_seed_6 ⟨rfl, (by rfl)⟩

set_option maxHeartbeats 4000000 in
set_option maxRecDepth 100000 in
theorem c_X7_keep_y {l : Launch} {G : vG} {tC : Nat} {ad : Nat → Nat} {N : Nat} {E : Nat → va_E} {o co pg cm hd : Nat} {lst md sd : Int32} {cs op : Nat → Int32} {pm : Nat} {pa s : Nat → Int32} {kp : Nat → Int32} {fi : Nat → Option Nat} {z pg2 cm2 hd2 k9 : Nat} {lst2 md2 sd2 : Int32} {cs2 op2 : Nat → Int32} {pb : Nat → Int32} (hN0 : o + 75 ≤ N) (hE0 : E o = .inr (4, [.ref (ad (o + 1)), .ref (ad (o + 4)), .ref (ad (o + 54)), .ref (ad (o + 61)), .ref (ad (o + 62)), .ref (ad (o + 67)), .ref (ad (o + 73)), .ref (ad (o + 74)), .int (nI co)])) (hE1 : E (o + 1) = .inr (2, [.ref (ad (o + 2)), .ref (ad (o + 3)), .int (nI pg), .int (nI cm), .int lst, .int md, .int sd, .int (nI hd)])) (hE2 : E (o + 2) = eI G 500 cs) (hE3 : E (o + 3) = eI G 4 op) (hE4 : E (o + 54) = eR G 2 fi) (hE5 : E (o + 61) = eZ G 2 kp) (hE6 : E z = .inr (2, [.ref (ad (z + 1)), .ref (ad (z + 2)), .int (nI pg2), .int (nI cm2), .int lst2, .int md2, .int sd2, .int (nI hd2)])) (hE7 : E (z + 1) = eI G 500 cs2) (hE8 : E (z + 2) = eI G 4 op2) (hk1 : k9 ≤ 1) (hz : z = o + 55 + 3 * k9) (hfi : fi k9 = some (ad z)) (hrg : Ring G ad E (o + 4) pa pm) (hrep : RepS s cs op pg cm hd lst md (cm + 1)) : MI l yX7_keep wsX7_keep ({ frames := 2, cells := 0, slots := 0, locals := 61 } : Room) G tC ad N E [.ref (ad o), .int (nI k9)] (fun r E2 => E2 z = .inr (2, [.ref (ad (z + 1)), .ref (ad (z + 2)), .int (nI pg), .int (nI cm), .int lst, .int md, .int sd, .int (nI hd)]) ∧ E2 (z + 1) = eI G 500 (va_cpy cs cs2 0 0 (pg * 50)) ∧ E2 (z + 2) = eI G 4 (va_cpy op op2 0 0 4) ∧ E2 (o + 61) = eZ G 2 (upd kp k9 (nI 1)) ∧ (∀ j, j ≠ z → j ≠ (z + 1) → j ≠ (z + 2) → j ≠ (o + 61) → ¬ (o + 4 ≤ j ∧ j < o + 54) → E2 j = E j) ∧ Ring G ad E2 (o + 4) pb 0 ∧ r = nI 1) := by
  refine MI_of RX7 rfl (by decide) rfl (Nat.le_of_ble_eq_true rfl) ?_
  intro pp_ ee_ ss_ mm_ aa_ bb_ me_ cc_ A ls C hw hl
  have hx := C.1
  have hb := C.2.1
  have hown := C.2.2.2.2.1
  have hts := C.2.2.2.2.2.1
  have hl : lv_has ls 2 [(0, .ref (ad o)), (1, .int (nI k9))] := hl
  have hinX5 : ∀ w ∈ u_ws RX5 TX5 8, w ∈ wsX7_keep := by decide +kernel
  have hinX7 : ∀ w ∈ u_ws RX7 TX7 9, w ∈ wsX7_keep := by decide +kernel
  have hag := hrep.2.2.1
  have hp := hrep.1.2.1
  refine lv_iload_n hx hb dX7_keep_0 rfl (lv_at hl 1 rfl) ?_
  refine lv_iconst (v := nI 0) hx hb dX7_keep_1 rfl ?_
  refine lv_iconst (v := nI 1) hx hb dX7_keep_2 rfl ?_
  refine r_sI C hw hl.1 [.int (nI k9), .int (nI 0), .int (nI 1)] 3 rfl (c_X7_isWithin (l := l) (G := G) (tC := tC) (ad := ad) (N := N) (E := E) (x := nI k9) (a := nI 0) (b := nI 1)   ) gX7_keep_X7_isWithin rfl ⟨rfl, rfl⟩ (by decide +kernel) ⟨Nat.le_of_ble_eq_true rfl, Nat.le_of_ble_eq_true rfl⟩ (rest := []) rfl (Nat.le_of_ble_eq_true rfl) dX7_keep_3 ⟨Nat.zero_le _, Nat.zero_le _⟩ (fun zr1 zE1 zH1 zL1 zp1 zw1 => ?_)
  obtain ⟨ze1, zq1⟩ := zp1
  rw [ze1] at zw1
  clear ze1
  rw [zq1]
  refine b_if_ne (tgt := 12) hx hb dX7_keep_6 (by decide) (fun zc6 => ?_) (fun zc6 => ?_)
  · refine lv_aload_n hx hb dX7_keep_12 rfl (lv_at hl 0 rfl) ?_
    refine r_get C zw1 RX7 TX7 9 4 hinX7 (i := o) (by omega) hE0 rfl 2 (by decide) (by decide +kernel) rfl (v := .ref (ad (o + 54))) rfl dX7_keep_13 ?_
    refine lv_iload_n hx hb dX7_keep_16 rfl (lv_at hl 1 rfl) ?_
    refine r_raN C zw1 (i := (o + 54)) (by omega) hE4 (j := k9) (by omega) (by omega) (a := ad z) hfi dX7_keep_17 ?_
    refine lv_aload_n hx hb dX7_keep_18 rfl (lv_at hl 0 rfl) ?_
    refine r_get C zw1 RX7 TX7 9 4 hinX7 (i := o) (by omega) hE0 rfl 0 (by decide) (by decide +kernel) rfl (v := .ref (ad (o + 1))) rfl dX7_keep_19 ?_
    refine r_vV C zw1 hl.1 (i := z) (by omega) hE6 (T := TX5) (n := 8) rfl [.ref (ad (o + 1))] 1 rfl (c_X5_become (l := l) (G := G) (tC := tC) (ad := ad) (N := N) (E := E) (i := z) (pg := pg2) (cm := cm2) (hd := hd2) (lst := lst2) (md := md2) (sd := sd2) (cs := cs2) (op := op2) (o := (o + 1)) (pg2 := pg) (cm2 := cm) (hd2 := hd) (lst2 := lst) (md2 := md) (sd2 := sd) (cs2 := cs) (op2 := op) (by omega) (by omega) hE6 hE7 hE8 hE1 hE2 hE3 (by omega) hp) gX7_keep_X5_become rfl ⟨rfl, rfl⟩ (by decide +kernel) ⟨Nat.le_of_ble_eq_true rfl, Nat.le_of_ble_eq_true rfl⟩ (rest := []) rfl (Nat.le_of_ble_eq_true rfl) dX7_keep_22 ⟨Nat.zero_le _, Nat.zero_le _⟩ (fun zE2 zH2 zL2 zp2 zw2 => ?_)
    obtain ⟨zg2_0, zg2_1, zg2_2, zf2⟩ := zp2
    have zh2_0 : zE2 z = .inr (2, [.ref (ad (z + 1)), .ref (ad (z + 2)), .int (nI pg), .int (nI cm), .int lst, .int md, .int sd2, .int (nI hd)]) := zg2_0
    have zh2_1 : zE2 (z + 1) = eI G 500 (va_cpy cs cs2 0 0 (pg * 50)) := zg2_1
    have zh2_2 : zE2 (z + 2) = eI G 4 (va_cpy op op2 0 0 4) := zg2_2
    have zk2_0 : zE2 o = .inr (4, [.ref (ad (o + 1)), .ref (ad (o + 4)), .ref (ad (o + 54)), .ref (ad (o + 61)), .ref (ad (o + 62)), .ref (ad (o + 67)), .ref (ad (o + 73)), .ref (ad (o + 74)), .int (nI co)]) := (zf2 _ (by omega) (by omega) (by omega)).trans hE0
    have zk2_1 : zE2 (o + 1) = .inr (2, [.ref (ad (o + 2)), .ref (ad (o + 3)), .int (nI pg), .int (nI cm), .int lst, .int md, .int sd, .int (nI hd)]) := (zf2 _ (by omega) (by omega) (by omega)).trans hE1
    have zk2_2 : zE2 (o + 2) = eI G 500 cs := (zf2 _ (by omega) (by omega) (by omega)).trans hE2
    have zk2_3 : zE2 (o + 3) = eI G 4 op := (zf2 _ (by omega) (by omega) (by omega)).trans hE3
    have zk2_4 : zE2 (o + 54) = eR G 2 fi := (zf2 _ (by omega) (by omega) (by omega)).trans hE4
    have zk2_5 : zE2 (o + 61) = eZ G 2 kp := (zf2 _ (by omega) (by omega) (by omega)).trans hE5
    have zfr2 : ∀ j, j ≠ z → j ≠ (z + 1) → j ≠ (z + 2) → zE2 j = E j := fun j zm0 zm1 zm2 => zf2 j zm0 zm1 zm2
    have zy2_rg : Ring G ad zE2 (o + 4) pa pm := hrg.same (fun j zj1 zj2 => zf2 j (by omega) (by omega) (by omega))
    refine lv_aload_n hx hb dX7_keep_25 rfl (lv_at hl 0 rfl) ?_
    refine r_get C zw2 RX7 TX7 9 4 hinX7 (i := o) (by omega) zk2_0 rfl 2 (by decide) (by decide +kernel) rfl (v := .ref (ad (o + 54))) rfl dX7_keep_26 ?_
    refine lv_iload_n hx hb dX7_keep_29 rfl (lv_at hl 1 rfl) ?_
    refine r_raN C zw2 (i := (o + 54)) (by omega) zk2_4 (j := k9) (by omega) (by omega) (a := ad z) hfi dX7_keep_30 ?_
    refine lv_aload_n hx hb dX7_keep_31 rfl (lv_at hl 0 rfl) ?_
    refine r_get C zw2 RX7 TX7 9 4 hinX7 (i := o) (by omega) zk2_0 rfl 0 (by decide) (by decide +kernel) rfl (v := .ref (ad (o + 1))) rfl dX7_keep_32 ?_
    refine r_get C zw2 RX5 TX5 8 2 hinX5 (i := (o + 1)) (by omega) zk2_1 rfl 6 (by decide) (by decide +kernel) rfl (v := .int sd) rfl dX7_keep_35 ?_
    refine r_put C zw2 RX5 TX5 8 2 hinX5 tyX5 tyX5_ok nmX5 (i := z) (by omega) zh2_0 rfl 6 (by decide) (by decide +kernel) rfl rfl (v := .int sd) rfl rfl (Nat.le_of_ble_eq_true rfl) dX7_keep_38 (fun zE3 zH3 zL3 zg3 zf3 zw3 => ?_)
    have zh3_0 : zE3 z = .inr (2, [.ref (ad (z + 1)), .ref (ad (z + 2)), .int (nI pg), .int (nI cm), .int lst, .int md, .int sd, .int (nI hd)]) := zg3
    have zk3_0 : zE3 o = .inr (4, [.ref (ad (o + 1)), .ref (ad (o + 4)), .ref (ad (o + 54)), .ref (ad (o + 61)), .ref (ad (o + 62)), .ref (ad (o + 67)), .ref (ad (o + 73)), .ref (ad (o + 74)), .int (nI co)]) := (zf3 _ (by omega)).trans zk2_0
    have zk3_1 : zE3 (o + 1) = .inr (2, [.ref (ad (o + 2)), .ref (ad (o + 3)), .int (nI pg), .int (nI cm), .int lst, .int md, .int sd, .int (nI hd)]) := (zf3 _ (by omega)).trans zk2_1
    have zk3_2 : zE3 (o + 2) = eI G 500 cs := (zf3 _ (by omega)).trans zk2_2
    have zk3_3 : zE3 (o + 3) = eI G 4 op := (zf3 _ (by omega)).trans zk2_3
    have zk3_4 : zE3 (o + 54) = eR G 2 fi := (zf3 _ (by omega)).trans zk2_4
    have zk3_5 : zE3 (o + 61) = eZ G 2 kp := (zf3 _ (by omega)).trans zk2_5
    have zk3_6 : zE3 (z + 1) = eI G 500 (va_cpy cs cs2 0 0 (pg * 50)) := (zf3 _ (by omega)).trans zh2_1
    have zk3_7 : zE3 (z + 2) = eI G 4 (va_cpy op op2 0 0 4) := (zf3 _ (by omega)).trans zh2_2
    have zfr3 : ∀ j, j ≠ z → j ≠ (z + 1) → j ≠ (z + 2) → zE3 j = E j := fun j zm0 zm1 zm2 => (zf3 j zm0).trans (zfr2 j zm0 zm1 zm2)
    have zy3_rg : Ring G ad zE3 (o + 4) pa pm := zy2_rg.same (fun j zj1 zj2 => zf3 j (by omega))
    refine lv_aload_n hx hb dX7_keep_41 rfl (lv_at hl 0 rfl) ?_
    refine r_get C zw3 RX7 TX7 9 4 hinX7 (i := o) (by omega) zk3_0 rfl 3 (by decide) (by decide +kernel) rfl (v := .ref (ad (o + 61))) rfl dX7_keep_42 ?_
    refine lv_iload_n hx hb dX7_keep_45 rfl (lv_at hl 1 rfl) ?_
    refine lv_iconst (v := nI 1) hx hb dX7_keep_46 rfl ?_
    refine r_zasN C zw3 (i := (o + 61)) (by omega) zk3_5 (j := k9) (by omega) (by omega) dX7_keep_47 (fun zE4 zH4 zL4 zg4 zf4 zw4 => ?_)
    have zh4_0 : zE4 (o + 61) = eZ G 2 (upd kp k9 (vp_nar .boolean (nI 1))) := zg4
    have zk4_0 : zE4 o = .inr (4, [.ref (ad (o + 1)), .ref (ad (o + 4)), .ref (ad (o + 54)), .ref (ad (o + 61)), .ref (ad (o + 62)), .ref (ad (o + 67)), .ref (ad (o + 73)), .ref (ad (o + 74)), .int (nI co)]) := (zf4 _ (by omega)).trans zk3_0
    have zk4_1 : zE4 (o + 1) = .inr (2, [.ref (ad (o + 2)), .ref (ad (o + 3)), .int (nI pg), .int (nI cm), .int lst, .int md, .int sd, .int (nI hd)]) := (zf4 _ (by omega)).trans zk3_1
    have zk4_2 : zE4 (o + 2) = eI G 500 cs := (zf4 _ (by omega)).trans zk3_2
    have zk4_3 : zE4 (o + 3) = eI G 4 op := (zf4 _ (by omega)).trans zk3_3
    have zk4_4 : zE4 (o + 54) = eR G 2 fi := (zf4 _ (by omega)).trans zk3_4
    have zk4_5 : zE4 (z + 1) = eI G 500 (va_cpy cs cs2 0 0 (pg * 50)) := (zf4 _ (by omega)).trans zk3_6
    have zk4_6 : zE4 (z + 2) = eI G 4 (va_cpy op op2 0 0 4) := (zf4 _ (by omega)).trans zk3_7
    have zk4_7 : zE4 z = .inr (2, [.ref (ad (z + 1)), .ref (ad (z + 2)), .int (nI pg), .int (nI cm), .int lst, .int md, .int sd, .int (nI hd)]) := (zf4 _ (by omega)).trans zh3_0
    have zfr4 : ∀ j, j ≠ z → j ≠ (z + 1) → j ≠ (z + 2) → j ≠ (o + 61) → zE4 j = E j := fun j zm0 zm1 zm2 zm3 => (zf4 j zm3).trans (zfr3 j zm0 zm1 zm2)
    have zy4_rg : Ring G ad zE4 (o + 4) pa pm := zy3_rg.same (fun j zj1 zj2 => zf4 j (by omega))
    obtain ⟨nx, fz, hrn⟩ := id zy4_rg
    have ht0 := hrn.2.2.1
    refine lv_aload_n hx hb dX7_keep_48 rfl (lv_at hl 0 rfl) ?_
    refine r_get C zw4 RX7 TX7 9 4 hinX7 (i := o) (by omega) zk4_0 rfl 1 (by decide) (by decide +kernel) rfl (v := .ref (ad (o + 4))) rfl dX7_keep_49 ?_
    refine r_vV C zw4 hl.1 (i := (o + 4)) (by omega) ht0 (T := TX6) (n := 3) rfl [] 0 rfl (c_X6_forget (l := l) (G := G) (tC := tC) (ad := ad) (N := N) (E := zE4) (t := (o + 4)) (pm := pm) (pa := pa) (pb := pb) (by omega)  zy4_rg) gX7_keep_X6_forget rfl ⟨rfl, rfl⟩ (by decide +kernel) ⟨Nat.le_of_ble_eq_true rfl, Nat.le_of_ble_eq_true rfl⟩ (rest := []) rfl (Nat.le_of_ble_eq_true rfl) dX7_keep_52 ⟨Nat.zero_le _, Nat.zero_le _⟩ (fun zE5 zH5 zL5 zp5 zw5 => ?_)
    obtain ⟨zf5, zq5⟩ := zp5
    have zk5_0 : zE5 o = .inr (4, [.ref (ad (o + 1)), .ref (ad (o + 4)), .ref (ad (o + 54)), .ref (ad (o + 61)), .ref (ad (o + 62)), .ref (ad (o + 67)), .ref (ad (o + 73)), .ref (ad (o + 74)), .int (nI co)]) := (zf5 _ (by omega)).trans zk4_0
    have zk5_1 : zE5 (o + 1) = .inr (2, [.ref (ad (o + 2)), .ref (ad (o + 3)), .int (nI pg), .int (nI cm), .int lst, .int md, .int sd, .int (nI hd)]) := (zf5 _ (by omega)).trans zk4_1
    have zk5_2 : zE5 (o + 2) = eI G 500 cs := (zf5 _ (by omega)).trans zk4_2
    have zk5_3 : zE5 (o + 3) = eI G 4 op := (zf5 _ (by omega)).trans zk4_3
    have zk5_4 : zE5 (o + 54) = eR G 2 fi := (zf5 _ (by omega)).trans zk4_4
    have zk5_5 : zE5 (z + 1) = eI G 500 (va_cpy cs cs2 0 0 (pg * 50)) := (zf5 _ (by omega)).trans zk4_5
    have zk5_6 : zE5 (z + 2) = eI G 4 (va_cpy op op2 0 0 4) := (zf5 _ (by omega)).trans zk4_6
    have zk5_7 : zE5 z = .inr (2, [.ref (ad (z + 1)), .ref (ad (z + 2)), .int (nI pg), .int (nI cm), .int lst, .int md, .int sd, .int (nI hd)]) := (zf5 _ (by omega)).trans zk4_7
    have zk5_8 : zE5 (o + 61) = eZ G 2 (upd kp k9 (vp_nar .boolean (nI 1))) := (zf5 _ (by omega)).trans zh4_0
    have zfr5 : ∀ j, j ≠ z → j ≠ (z + 1) → j ≠ (z + 2) → j ≠ (o + 61) → ¬ ((o + 4) ≤ j ∧ j < (o + 54)) → zE5 j = E j := fun j zm0 zm1 zm2 zm3 zm4 => (zf5 j zm4).trans (zfr4 j zm0 zm1 zm2 zm3)
    refine lv_iconst (v := nI 1) hx hb dX7_keep_55 rfl ?_
    exact r_iret C zw5 dX7_keep_56 ⟨zk5_7, zk5_5, zk5_6, zk5_8, (fun j zm0 zm1 zm2 zm3 zm4 => zfr5 j zm0 zm1 zm2 zm3 (by omega)), (by exact ⟨zq5, rfl⟩)⟩
  · exact absurd (in_nI (by omega) (by omega)) zc6

set_option maxHeartbeats 4000000 in
set_option maxRecDepth 100000 in
theorem c_X7_keep_n {l : Launch} {G : vG} {tC : Nat} {ad : Nat → Nat} {N : Nat} {E : Nat → va_E} {o : Nat} {k : Int32} (hN0 : o + 75 ≤ N) (hno : ¬ (nI 0 ≤ k ∧ k ≤ nI 1)) : MI l yX7_keep wsX7_keep ({ frames := 2, cells := 0, slots := 0, locals := 61 } : Room) G tC ad N E [.ref (ad o), .int k] (fun r E2 => E2 = E ∧ r = -1000000001) := by
  refine MI_of RX7 rfl (by decide) rfl (Nat.le_of_ble_eq_true rfl) ?_
  intro pp_ ee_ ss_ mm_ aa_ bb_ me_ cc_ A ls C hw hl
  have hx := C.1
  have hb := C.2.1
  have hown := C.2.2.2.2.1
  have hts := C.2.2.2.2.2.1
  have hl : lv_has ls 2 [(0, .ref (ad o)), (1, .int k)] := hl
  have hinX5 : ∀ w ∈ u_ws RX5 TX5 8, w ∈ wsX7_keep := by decide +kernel
  have hinX7 : ∀ w ∈ u_ws RX7 TX7 9, w ∈ wsX7_keep := by decide +kernel
  refine lv_iload_n hx hb dX7_keep_0 rfl (lv_at hl 1 rfl) ?_
  refine lv_iconst (v := nI 0) hx hb dX7_keep_1 rfl ?_
  refine lv_iconst (v := nI 1) hx hb dX7_keep_2 rfl ?_
  refine r_sI C hw hl.1 [.int k, .int (nI 0), .int (nI 1)] 3 rfl (c_X7_isWithin (l := l) (G := G) (tC := tC) (ad := ad) (N := N) (E := E) (x := k) (a := nI 0) (b := nI 1)   ) gX7_keep_X7_isWithin rfl ⟨rfl, rfl⟩ (by decide +kernel) ⟨Nat.le_of_ble_eq_true rfl, Nat.le_of_ble_eq_true rfl⟩ (rest := []) rfl (Nat.le_of_ble_eq_true rfl) dX7_keep_3 ⟨Nat.zero_le _, Nat.zero_le _⟩ (fun zr1 zE1 zH1 zL1 zp1 zw1 => ?_)
  obtain ⟨ze1, zq1⟩ := zp1
  rw [ze1] at zw1
  clear ze1
  rw [zq1]
  refine b_if_ne (tgt := 12) hx hb dX7_keep_6 (by decide) (fun zc6 => ?_) (fun zc6 => ?_)
  · exact absurd zc6 hno
  · refine lv_ldc (v := -1000000001) hx hb hown (hts (.constant RX7 103 (-1000000001)) (by decide +kernel)) dX7_keep_9 ?_
    exact r_iret C zw1 dX7_keep_11 ⟨rfl, (by rfl)⟩

set_option maxHeartbeats 4000000 in
set_option maxRecDepth 100000 in
theorem c_X7_goBack_y {l : Launch} {G : vG} {tC : Nat} {ad : Nat → Nat} {N : Nat} {E : Nat → va_E} {o co pg cm hd : Nat} {lst md sd : Int32} {cs op : Nat → Int32} {pm : Nat} {pa s : Nat → Int32} {kp : Nat → Int32} {fi : Nat → Option Nat} {z pg2 cm2 hd2 k9 : Nat} {lst2 md2 sd2 : Int32} {cs2 op2 : Nat → Int32} {pb : Nat → Int32} (hN0 : o + 75 ≤ N) (hE0 : E o = .inr (4, [.ref (ad (o + 1)), .ref (ad (o + 4)), .ref (ad (o + 54)), .ref (ad (o + 61)), .ref (ad (o + 62)), .ref (ad (o + 67)), .ref (ad (o + 73)), .ref (ad (o + 74)), .int (nI co)])) (hE1 : E (o + 1) = .inr (2, [.ref (ad (o + 2)), .ref (ad (o + 3)), .int (nI pg), .int (nI cm), .int lst, .int md, .int sd, .int (nI hd)])) (hE2 : E (o + 2) = eI G 500 cs) (hE3 : E (o + 3) = eI G 4 op) (hE4 : E (o + 54) = eR G 2 fi) (hE5 : E (o + 61) = eZ G 2 kp) (hE6 : E z = .inr (2, [.ref (ad (z + 1)), .ref (ad (z + 2)), .int (nI pg2), .int (nI cm2), .int lst2, .int md2, .int sd2, .int (nI hd2)])) (hE7 : E (z + 1) = eI G 500 cs2) (hE8 : E (z + 2) = eI G 4 op2) (hk1 : k9 ≤ 1) (hz : z = o + 55 + 3 * k9) (hfi : fi k9 = some (ad z)) (hkp : kp k9 = nI 1) (hp2 : pg2 ≤ 10) (hrg : Ring G ad E (o + 4) pa pm) : MI l yX7_goBack wsX7_goBack ({ frames := 2, cells := 0, slots := 0, locals := 61 } : Room) G tC ad N E [.ref (ad o), .int (nI k9)] (fun r E2 => E2 (o + 1) = .inr (2, [.ref (ad (o + 2)), .ref (ad (o + 3)), .int (nI pg2), .int (nI cm2), .int lst2, .int md2, .int sd2, .int (nI hd2)]) ∧ E2 (o + 2) = eI G 500 (va_cpy cs2 cs 0 0 (pg2 * 50)) ∧ E2 (o + 3) = eI G 4 (va_cpy op2 op 0 0 4) ∧ (∀ j, j ≠ (o + 1) → j ≠ (o + 2) → j ≠ (o + 3) → ¬ (o + 4 ≤ j ∧ j < o + 54) → E2 j = E j) ∧ Ring G ad E2 (o + 4) pb 0 ∧ r = nI 1) := by
  refine MI_of RX7 rfl (by decide) rfl (Nat.le_of_ble_eq_true rfl) ?_
  intro pp_ ee_ ss_ mm_ aa_ bb_ me_ cc_ A ls C hw hl
  have hx := C.1
  have hb := C.2.1
  have hown := C.2.2.2.2.1
  have hts := C.2.2.2.2.2.1
  have hl : lv_has ls 2 [(0, .ref (ad o)), (1, .int (nI k9))] := hl
  have hinX5 : ∀ w ∈ u_ws RX5 TX5 8, w ∈ wsX7_goBack := by decide +kernel
  have hinX7 : ∀ w ∈ u_ws RX7 TX7 9, w ∈ wsX7_goBack := by decide +kernel
  refine lv_iload_n hx hb dX7_goBack_0 rfl (lv_at hl 1 rfl) ?_
  refine lv_iconst (v := nI 0) hx hb dX7_goBack_1 rfl ?_
  refine lv_iconst (v := nI 1) hx hb dX7_goBack_2 rfl ?_
  refine r_sI C hw hl.1 [.int (nI k9), .int (nI 0), .int (nI 1)] 3 rfl (c_X7_isWithin (l := l) (G := G) (tC := tC) (ad := ad) (N := N) (E := E) (x := nI k9) (a := nI 0) (b := nI 1)   ) gX7_goBack_X7_isWithin rfl ⟨rfl, rfl⟩ (by decide +kernel) ⟨Nat.le_of_ble_eq_true rfl, Nat.le_of_ble_eq_true rfl⟩ (rest := []) rfl (Nat.le_of_ble_eq_true rfl) dX7_goBack_3 ⟨Nat.zero_le _, Nat.zero_le _⟩ (fun zr1 zE1 zH1 zL1 zp1 zw1 => ?_)
  obtain ⟨ze1, zq1⟩ := zp1
  rw [ze1] at zw1
  clear ze1
  rw [zq1]
  refine b_if_ne (tgt := 12) hx hb dX7_goBack_6 (by decide) (fun zc6 => ?_) (fun zc6 => ?_)
  · refine lv_aload_n hx hb dX7_goBack_12 rfl (lv_at hl 0 rfl) ?_
    refine r_get C zw1 RX7 TX7 9 4 hinX7 (i := o) (by omega) hE0 rfl 3 (by decide) (by decide +kernel) rfl (v := .ref (ad (o + 61))) rfl dX7_goBack_13 ?_
    refine lv_iload_n hx hb dX7_goBack_16 rfl (lv_at hl 1 rfl) ?_
    refine r_zaN C zw1 (i := (o + 61)) (by omega) hE5 (j := k9) (by omega) (by omega) dX7_goBack_17 ?_
    refine r_nat 1 hkp ?_
    refine n_if_ne (tgt := 24) hx hb dX7_goBack_18 (by decide) (by omega) (fun zc18 => ?_) (fun zc18 => ?_)
    · refine lv_aload_n hx hb dX7_goBack_24 rfl (lv_at hl 0 rfl) ?_
      refine r_get C zw1 RX7 TX7 9 4 hinX7 (i := o) (by omega) hE0 rfl 0 (by decide) (by decide +kernel) rfl (v := .ref (ad (o + 1))) rfl dX7_goBack_25 ?_
      refine lv_aload_n hx hb dX7_goBack_28 rfl (lv_at hl 0 rfl) ?_
      refine r_get C zw1 RX7 TX7 9 4 hinX7 (i := o) (by omega) hE0 rfl 2 (by decide) (by decide +kernel) rfl (v := .ref (ad (o + 54))) rfl dX7_goBack_29 ?_
      refine lv_iload_n hx hb dX7_goBack_32 rfl (lv_at hl 1 rfl) ?_
      refine r_raN C zw1 (i := (o + 54)) (by omega) hE4 (j := k9) (by omega) (by omega) (a := ad z) hfi dX7_goBack_33 ?_
      refine r_vV C zw1 hl.1 (i := (o + 1)) (by omega) hE1 (T := TX5) (n := 8) rfl [.ref (ad z)] 1 rfl (c_X5_become (l := l) (G := G) (tC := tC) (ad := ad) (N := N) (E := E) (i := (o + 1)) (pg := pg) (cm := cm) (hd := hd) (lst := lst) (md := md) (sd := sd) (cs := cs) (op := op) (o := z) (pg2 := pg2) (cm2 := cm2) (hd2 := hd2) (lst2 := lst2) (md2 := md2) (sd2 := sd2) (cs2 := cs2) (op2 := op2) (by omega) (by omega) hE1 hE2 hE3 hE6 hE7 hE8 (by omega) (by first | assumption | omega)) gX7_goBack_X5_become rfl ⟨rfl, rfl⟩ (by decide +kernel) ⟨Nat.le_of_ble_eq_true rfl, Nat.le_of_ble_eq_true rfl⟩ (rest := []) rfl (Nat.le_of_ble_eq_true rfl) dX7_goBack_34 ⟨Nat.zero_le _, Nat.zero_le _⟩ (fun zE2 zH2 zL2 zp2 zw2 => ?_)
      obtain ⟨zg2_0, zg2_1, zg2_2, zf2⟩ := zp2
      have zh2_0 : zE2 (o + 1) = .inr (2, [.ref (ad (o + 2)), .ref (ad (o + 3)), .int (nI pg2), .int (nI cm2), .int lst2, .int md2, .int sd, .int (nI hd2)]) := zg2_0
      have zh2_1 : zE2 (o + 2) = eI G 500 (va_cpy cs2 cs 0 0 (pg2 * 50)) := zg2_1
      have zh2_2 : zE2 (o + 3) = eI G 4 (va_cpy op2 op 0 0 4) := zg2_2
      have zk2_0 : zE2 o = .inr (4, [.ref (ad (o + 1)), .ref (ad (o + 4)), .ref (ad (o + 54)), .ref (ad (o + 61)), .ref (ad (o + 62)), .ref (ad (o + 67)), .ref (ad (o + 73)), .ref (ad (o + 74)), .int (nI co)]) := (zf2 _ (by omega) (by omega) (by omega)).trans hE0
      have zk2_1 : zE2 (o + 54) = eR G 2 fi := (zf2 _ (by omega) (by omega) (by omega)).trans hE4
      have zk2_2 : zE2 (o + 61) = eZ G 2 kp := (zf2 _ (by omega) (by omega) (by omega)).trans hE5
      have zk2_3 : zE2 z = .inr (2, [.ref (ad (z + 1)), .ref (ad (z + 2)), .int (nI pg2), .int (nI cm2), .int lst2, .int md2, .int sd2, .int (nI hd2)]) := (zf2 _ (by omega) (by omega) (by omega)).trans hE6
      have zk2_4 : zE2 (z + 1) = eI G 500 cs2 := (zf2 _ (by omega) (by omega) (by omega)).trans hE7
      have zk2_5 : zE2 (z + 2) = eI G 4 op2 := (zf2 _ (by omega) (by omega) (by omega)).trans hE8
      have zfr2 : ∀ j, j ≠ (o + 1) → j ≠ (o + 2) → j ≠ (o + 3) → zE2 j = E j := fun j zm0 zm1 zm2 => zf2 j zm0 zm1 zm2
      have zy2_rg : Ring G ad zE2 (o + 4) pa pm := hrg.same (fun j zj1 zj2 => zf2 j (by omega) (by omega) (by omega))
      refine lv_aload_n hx hb dX7_goBack_37 rfl (lv_at hl 0 rfl) ?_
      refine r_get C zw2 RX7 TX7 9 4 hinX7 (i := o) (by omega) zk2_0 rfl 0 (by decide) (by decide +kernel) rfl (v := .ref (ad (o + 1))) rfl dX7_goBack_38 ?_
      refine lv_aload_n hx hb dX7_goBack_41 rfl (lv_at hl 0 rfl) ?_
      refine r_get C zw2 RX7 TX7 9 4 hinX7 (i := o) (by omega) zk2_0 rfl 2 (by decide) (by decide +kernel) rfl (v := .ref (ad (o + 54))) rfl dX7_goBack_42 ?_
      refine lv_iload_n hx hb dX7_goBack_45 rfl (lv_at hl 1 rfl) ?_
      refine r_raN C zw2 (i := (o + 54)) (by omega) zk2_1 (j := k9) (by omega) (by omega) (a := ad z) hfi dX7_goBack_46 ?_
      refine r_get C zw2 RX5 TX5 8 2 hinX5 (i := z) (by omega) zk2_3 rfl 6 (by decide) (by decide +kernel) rfl (v := .int sd2) rfl dX7_goBack_47 ?_
      refine r_put C zw2 RX5 TX5 8 2 hinX5 tyX5 tyX5_ok nmX5 (i := (o + 1)) (by omega) zh2_0 rfl 6 (by decide) (by decide +kernel) rfl rfl (v := .int sd2) rfl rfl (Nat.le_of_ble_eq_true rfl) dX7_goBack_50 (fun zE3 zH3 zL3 zg3 zf3 zw3 => ?_)
      have zh3_0 : zE3 (o + 1) = .inr (2, [.ref (ad (o + 2)), .ref (ad (o + 3)), .int (nI pg2), .int (nI cm2), .int lst2, .int md2, .int sd2, .int (nI hd2)]) := zg3
      have zk3_0 : zE3 o = .inr (4, [.ref (ad (o + 1)), .ref (ad (o + 4)), .ref (ad (o + 54)), .ref (ad (o + 61)), .ref (ad (o + 62)), .ref (ad (o + 67)), .ref (ad (o + 73)), .ref (ad (o + 74)), .int (nI co)]) := (zf3 _ (by omega)).trans zk2_0
      have zk3_1 : zE3 (o + 54) = eR G 2 fi := (zf3 _ (by omega)).trans zk2_1
      have zk3_2 : zE3 (o + 61) = eZ G 2 kp := (zf3 _ (by omega)).trans zk2_2
      have zk3_3 : zE3 z = .inr (2, [.ref (ad (z + 1)), .ref (ad (z + 2)), .int (nI pg2), .int (nI cm2), .int lst2, .int md2, .int sd2, .int (nI hd2)]) := (zf3 _ (by omega)).trans zk2_3
      have zk3_4 : zE3 (z + 1) = eI G 500 cs2 := (zf3 _ (by omega)).trans zk2_4
      have zk3_5 : zE3 (z + 2) = eI G 4 op2 := (zf3 _ (by omega)).trans zk2_5
      have zk3_6 : zE3 (o + 2) = eI G 500 (va_cpy cs2 cs 0 0 (pg2 * 50)) := (zf3 _ (by omega)).trans zh2_1
      have zk3_7 : zE3 (o + 3) = eI G 4 (va_cpy op2 op 0 0 4) := (zf3 _ (by omega)).trans zh2_2
      have zfr3 : ∀ j, j ≠ (o + 1) → j ≠ (o + 2) → j ≠ (o + 3) → zE3 j = E j := fun j zm0 zm1 zm2 => (zf3 j zm0).trans (zfr2 j zm0 zm1 zm2)
      have zy3_rg : Ring G ad zE3 (o + 4) pa pm := zy2_rg.same (fun j zj1 zj2 => zf3 j (by omega))
      obtain ⟨nx, fz, hrn⟩ := id zy3_rg
      have ht0 := hrn.2.2.1
      refine lv_aload_n hx hb dX7_goBack_53 rfl (lv_at hl 0 rfl) ?_
      refine r_get C zw3 RX7 TX7 9 4 hinX7 (i := o) (by omega) zk3_0 rfl 1 (by decide) (by decide +kernel) rfl (v := .ref (ad (o + 4))) rfl dX7_goBack_54 ?_
      refine r_vV C zw3 hl.1 (i := (o + 4)) (by omega) ht0 (T := TX6) (n := 3) rfl [] 0 rfl (c_X6_forget (l := l) (G := G) (tC := tC) (ad := ad) (N := N) (E := zE3) (t := (o + 4)) (pm := pm) (pa := pa) (pb := pb) (by omega)  zy3_rg) gX7_goBack_X6_forget rfl ⟨rfl, rfl⟩ (by decide +kernel) ⟨Nat.le_of_ble_eq_true rfl, Nat.le_of_ble_eq_true rfl⟩ (rest := []) rfl (Nat.le_of_ble_eq_true rfl) dX7_goBack_57 ⟨Nat.zero_le _, Nat.zero_le _⟩ (fun zE4 zH4 zL4 zp4 zw4 => ?_)
      obtain ⟨zf4, zq4⟩ := zp4
      have zk4_0 : zE4 o = .inr (4, [.ref (ad (o + 1)), .ref (ad (o + 4)), .ref (ad (o + 54)), .ref (ad (o + 61)), .ref (ad (o + 62)), .ref (ad (o + 67)), .ref (ad (o + 73)), .ref (ad (o + 74)), .int (nI co)]) := (zf4 _ (by omega)).trans zk3_0
      have zk4_1 : zE4 (o + 54) = eR G 2 fi := (zf4 _ (by omega)).trans zk3_1
      have zk4_2 : zE4 (o + 61) = eZ G 2 kp := (zf4 _ (by omega)).trans zk3_2
      have zk4_3 : zE4 z = .inr (2, [.ref (ad (z + 1)), .ref (ad (z + 2)), .int (nI pg2), .int (nI cm2), .int lst2, .int md2, .int sd2, .int (nI hd2)]) := (zf4 _ (by omega)).trans zk3_3
      have zk4_4 : zE4 (z + 1) = eI G 500 cs2 := (zf4 _ (by omega)).trans zk3_4
      have zk4_5 : zE4 (z + 2) = eI G 4 op2 := (zf4 _ (by omega)).trans zk3_5
      have zk4_6 : zE4 (o + 2) = eI G 500 (va_cpy cs2 cs 0 0 (pg2 * 50)) := (zf4 _ (by omega)).trans zk3_6
      have zk4_7 : zE4 (o + 3) = eI G 4 (va_cpy op2 op 0 0 4) := (zf4 _ (by omega)).trans zk3_7
      have zk4_8 : zE4 (o + 1) = .inr (2, [.ref (ad (o + 2)), .ref (ad (o + 3)), .int (nI pg2), .int (nI cm2), .int lst2, .int md2, .int sd2, .int (nI hd2)]) := (zf4 _ (by omega)).trans zh3_0
      have zfr4 : ∀ j, j ≠ (o + 1) → j ≠ (o + 2) → j ≠ (o + 3) → ¬ ((o + 4) ≤ j ∧ j < (o + 54)) → zE4 j = E j := fun j zm0 zm1 zm2 zm3 => (zf4 j zm3).trans (zfr3 j zm0 zm1 zm2)
      refine lv_iconst (v := nI 1) hx hb dX7_goBack_60 rfl ?_
      exact r_iret C zw4 dX7_goBack_61 ⟨zk4_8, zk4_6, zk4_7, (fun j zm0 zm1 zm2 zm3 => zfr4 j zm0 zm1 zm2 (by omega)), (by exact ⟨zq4, rfl⟩)⟩
    · exact absurd zc18 (by decide)
  · exact absurd (in_nI (by omega) (by omega)) zc6

set_option maxHeartbeats 4000000 in
set_option maxRecDepth 100000 in
theorem c_X7_goBack_n {l : Launch} {G : vG} {tC : Nat} {ad : Nat → Nat} {N : Nat} {E : Nat → va_E} {o : Nat} {k : Int32} (hN0 : o + 75 ≤ N) (hno : ¬ (nI 0 ≤ k ∧ k ≤ nI 1)) : MI l yX7_goBack wsX7_goBack ({ frames := 2, cells := 0, slots := 0, locals := 61 } : Room) G tC ad N E [.ref (ad o), .int k] (fun r E2 => E2 = E ∧ r = -1000000001) := by
  refine MI_of RX7 rfl (by decide) rfl (Nat.le_of_ble_eq_true rfl) ?_
  intro pp_ ee_ ss_ mm_ aa_ bb_ me_ cc_ A ls C hw hl
  have hx := C.1
  have hb := C.2.1
  have hown := C.2.2.2.2.1
  have hts := C.2.2.2.2.2.1
  have hl : lv_has ls 2 [(0, .ref (ad o)), (1, .int k)] := hl
  have hinX5 : ∀ w ∈ u_ws RX5 TX5 8, w ∈ wsX7_goBack := by decide +kernel
  have hinX7 : ∀ w ∈ u_ws RX7 TX7 9, w ∈ wsX7_goBack := by decide +kernel
  refine lv_iload_n hx hb dX7_goBack_0 rfl (lv_at hl 1 rfl) ?_
  refine lv_iconst (v := nI 0) hx hb dX7_goBack_1 rfl ?_
  refine lv_iconst (v := nI 1) hx hb dX7_goBack_2 rfl ?_
  refine r_sI C hw hl.1 [.int k, .int (nI 0), .int (nI 1)] 3 rfl (c_X7_isWithin (l := l) (G := G) (tC := tC) (ad := ad) (N := N) (E := E) (x := k) (a := nI 0) (b := nI 1)   ) gX7_goBack_X7_isWithin rfl ⟨rfl, rfl⟩ (by decide +kernel) ⟨Nat.le_of_ble_eq_true rfl, Nat.le_of_ble_eq_true rfl⟩ (rest := []) rfl (Nat.le_of_ble_eq_true rfl) dX7_goBack_3 ⟨Nat.zero_le _, Nat.zero_le _⟩ (fun zr1 zE1 zH1 zL1 zp1 zw1 => ?_)
  obtain ⟨ze1, zq1⟩ := zp1
  rw [ze1] at zw1
  clear ze1
  rw [zq1]
  refine b_if_ne (tgt := 12) hx hb dX7_goBack_6 (by decide) (fun zc6 => ?_) (fun zc6 => ?_)
  · exact absurd zc6 hno
  · refine lv_ldc (v := -1000000001) hx hb hown (hts (.constant RX7 103 (-1000000001)) (by decide +kernel)) dX7_goBack_9 ?_
    exact r_iret C zw1 dX7_goBack_11 ⟨rfl, (by rfl)⟩

set_option maxHeartbeats 4000000 in
set_option maxRecDepth 100000 in
theorem c_X7_goBack_0 {l : Launch} {G : vG} {tC : Nat} {ad : Nat → Nat} {N : Nat} {E : Nat → va_E} {o co k9 : Nat} {kp : Nat → Int32} (hN0 : o + 75 ≤ N) (hE0 : E o = .inr (4, [.ref (ad (o + 1)), .ref (ad (o + 4)), .ref (ad (o + 54)), .ref (ad (o + 61)), .ref (ad (o + 62)), .ref (ad (o + 67)), .ref (ad (o + 73)), .ref (ad (o + 74)), .int (nI co)])) (hE1 : E (o + 61) = eZ G 2 kp) (hk1 : k9 ≤ 1) (hkp : kp k9 = nI 0) : MI l yX7_goBack wsX7_goBack ({ frames := 2, cells := 0, slots := 0, locals := 61 } : Room) G tC ad N E [.ref (ad o), .int (nI k9)] (fun r E2 => E2 = E ∧ r = -1000000003) := by
  refine MI_of RX7 rfl (by decide) rfl (Nat.le_of_ble_eq_true rfl) ?_
  intro pp_ ee_ ss_ mm_ aa_ bb_ me_ cc_ A ls C hw hl
  have hx := C.1
  have hb := C.2.1
  have hown := C.2.2.2.2.1
  have hts := C.2.2.2.2.2.1
  have hl : lv_has ls 2 [(0, .ref (ad o)), (1, .int (nI k9))] := hl
  have hinX5 : ∀ w ∈ u_ws RX5 TX5 8, w ∈ wsX7_goBack := by decide +kernel
  have hinX7 : ∀ w ∈ u_ws RX7 TX7 9, w ∈ wsX7_goBack := by decide +kernel
  refine lv_iload_n hx hb dX7_goBack_0 rfl (lv_at hl 1 rfl) ?_
  refine lv_iconst (v := nI 0) hx hb dX7_goBack_1 rfl ?_
  refine lv_iconst (v := nI 1) hx hb dX7_goBack_2 rfl ?_
  refine r_sI C hw hl.1 [.int (nI k9), .int (nI 0), .int (nI 1)] 3 rfl (c_X7_isWithin (l := l) (G := G) (tC := tC) (ad := ad) (N := N) (E := E) (x := nI k9) (a := nI 0) (b := nI 1)   ) gX7_goBack_X7_isWithin rfl ⟨rfl, rfl⟩ (by decide +kernel) ⟨Nat.le_of_ble_eq_true rfl, Nat.le_of_ble_eq_true rfl⟩ (rest := []) rfl (Nat.le_of_ble_eq_true rfl) dX7_goBack_3 ⟨Nat.zero_le _, Nat.zero_le _⟩ (fun zr1 zE1 zH1 zL1 zp1 zw1 => ?_)
  obtain ⟨ze1, zq1⟩ := zp1
  rw [ze1] at zw1
  clear ze1
  rw [zq1]
  refine b_if_ne (tgt := 12) hx hb dX7_goBack_6 (by decide) (fun zc6 => ?_) (fun zc6 => ?_)
  · refine lv_aload_n hx hb dX7_goBack_12 rfl (lv_at hl 0 rfl) ?_
    refine r_get C zw1 RX7 TX7 9 4 hinX7 (i := o) (by omega) hE0 rfl 3 (by decide) (by decide +kernel) rfl (v := .ref (ad (o + 61))) rfl dX7_goBack_13 ?_
    refine lv_iload_n hx hb dX7_goBack_16 rfl (lv_at hl 1 rfl) ?_
    refine r_zaN C zw1 (i := (o + 61)) (by omega) hE1 (j := k9) (by omega) (by omega) dX7_goBack_17 ?_
    refine r_nat 0 hkp ?_
    refine n_if_ne (tgt := 24) hx hb dX7_goBack_18 (by decide) (by omega) (fun zc18 => ?_) (fun zc18 => ?_)
    · exact absurd zc18 (by decide)
    · refine lv_ldc (v := -1000000003) hx hb hown (hts (.constant RX7 159 (-1000000003)) (by decide +kernel)) dX7_goBack_21 ?_
      exact r_iret C zw1 dX7_goBack_23 ⟨rfl, (by rfl)⟩
  · exact absurd (in_nI (by omega) (by omega)) zc6

