set_option maxHeartbeats 4000000 in
set_option maxRecDepth 100000 in
theorem c_X3_takeRow_m {l : Launch} {G : vG} {tC : Nat} {ad : Nat → Nat} {N : Nat} {E : Nat → va_E} {i pg cm hd : Nat} {lst md sd : Int32} {w9 : Nat} {row : Int32} (hN0 : i + 3 ≤ N) (hE0 : E i = .inr (2, [.ref (ad (i + 1)), .ref (ad (i + 2)), .int (nI pg), .int (nI cm), .int lst, .int md, .int sd, .int (nI hd)])) (hp : pg ≤ 10) : MI l yX3_takeRow wsX3_takeRow ({ frames := 3, cells := 0, slots := 0, locals := 68 } : Room) G tC ad N E [.ref (ad i), .int (-1), .int row, .ref (ad w9)] (fun r E2 => E2 = E ∧ r = 0) := by
  refine MI_of RX3 rfl (by decide) rfl (Nat.le_of_ble_eq_true rfl) ?_
  intro pp_ ee_ ss_ mm_ aa_ bb_ me_ cc_ A ls C hw hl
  have hx := C.1
  have hb := C.2.1
  have hown := C.2.2.2.2.1
  have hts := C.2.2.2.2.2.1
  have hl : lv_has ls 5 [(0, .ref (ad i)), (1, .int (-1)), (2, .int row), (3, .ref (ad w9))] := hl
  refine lv_aload_n hx hb dX3_takeRow_0 rfl (lv_at hl 0 rfl) ?_
  refine lv_iload_n hx hb dX3_takeRow_1 rfl (lv_at hl 1 rfl) ?_
  refine r_vI C hw hl.1 (i := i) (by omega) hE0 (T := TX5) (n := 8) rfl [.int (-1)] 1 rfl (c_X5_has (l := l) (G := G) (tC := tC) (ad := ad) (N := N) (E := E) (i := i) (pg := pg) (cm := cm) (hd := hd) (lst := lst) (md := md) (sd := sd) (k := -1) (by omega) hE0 (by first | assumption | omega)) gX3_takeRow_X5_has rfl ⟨rfl, rfl⟩ (by decide +kernel) ⟨Nat.le_of_ble_eq_true rfl, Nat.le_of_ble_eq_true rfl⟩ (rest := []) rfl (Nat.le_of_ble_eq_true rfl) dX3_takeRow_2 ⟨Nat.zero_le _, Nat.zero_le _⟩ (fun zr1 zE1 zH1 zL1 zp1 zw1 => ?_)
  obtain ⟨ze1, zq1⟩ := zp1
  rw [ze1] at zw1
  clear ze1
  rw [zq1]
  refine b_if_eq (tgt := 17) hx hb dX3_takeRow_5 (by decide) (fun zc5 => ?_) (fun zc5 => ?_)
  · refine lv_iconst (v := nI 0) hx hb dX3_takeRow_17 rfl ?_
    exact r_zret C zw1 dX3_takeRow_18 (Or.inl rfl) ⟨rfl, (by rfl)⟩
  · exact absurd zc5 (has_m1 pg)

set_option maxHeartbeats 4000000 in
set_option maxRecDepth 100000 in
theorem c_X3_takeRow_b {l : Launch} {G : vG} {tC : Nat} {ad : Nat → Nat} {N : Nat} {E : Nat → va_E} {i pg cm hd : Nat} {lst md sd : Int32} {w9 k : Nat} {row : Int32} (hN0 : i + 3 ≤ N) (hE0 : E i = .inr (2, [.ref (ad (i + 1)), .ref (ad (i + 2)), .int (nI pg), .int (nI cm), .int lst, .int md, .int sd, .int (nI hd)])) (hk : k < pg) (hp : pg ≤ 10) (hno : ¬ (nI 0 ≤ row ∧ row ≤ nI 4)) : MI l yX3_takeRow wsX3_takeRow ({ frames := 3, cells := 0, slots := 0, locals := 68 } : Room) G tC ad N E [.ref (ad i), .int (nI k), .int row, .ref (ad w9)] (fun r E2 => E2 = E ∧ r = 0) := by
  refine MI_of RX3 rfl (by decide) rfl (Nat.le_of_ble_eq_true rfl) ?_
  intro pp_ ee_ ss_ mm_ aa_ bb_ me_ cc_ A ls C hw hl
  have hx := C.1
  have hb := C.2.1
  have hown := C.2.2.2.2.1
  have hts := C.2.2.2.2.2.1
  have hl : lv_has ls 5 [(0, .ref (ad i)), (1, .int (nI k)), (2, .int row), (3, .ref (ad w9))] := hl
  refine lv_aload_n hx hb dX3_takeRow_0 rfl (lv_at hl 0 rfl) ?_
  refine lv_iload_n hx hb dX3_takeRow_1 rfl (lv_at hl 1 rfl) ?_
  refine r_vI C hw hl.1 (i := i) (by omega) hE0 (T := TX5) (n := 8) rfl [.int (nI k)] 1 rfl (c_X5_has (l := l) (G := G) (tC := tC) (ad := ad) (N := N) (E := E) (i := i) (pg := pg) (cm := cm) (hd := hd) (lst := lst) (md := md) (sd := sd) (k := nI k) (by omega) hE0 (by first | assumption | omega)) gX3_takeRow_X5_has rfl ⟨rfl, rfl⟩ (by decide +kernel) ⟨Nat.le_of_ble_eq_true rfl, Nat.le_of_ble_eq_true rfl⟩ (rest := []) rfl (Nat.le_of_ble_eq_true rfl) dX3_takeRow_2 ⟨Nat.zero_le _, Nat.zero_le _⟩ (fun zr1 zE1 zH1 zL1 zp1 zw1 => ?_)
  obtain ⟨ze1, zq1⟩ := zp1
  rw [ze1] at zw1
  clear ze1
  rw [zq1]
  refine b_if_eq (tgt := 17) hx hb dX3_takeRow_5 (by decide) (fun zc5 => ?_) (fun zc5 => ?_)
  · exact absurd (has_nI hk (by omega)) zc5
  · refine lv_iload_n hx hb dX3_takeRow_8 rfl (lv_at hl 2 rfl) ?_
    refine lv_iconst (v := nI 0) hx hb dX3_takeRow_9 rfl ?_
    refine lv_iconst (v := nI 4) hx hb dX3_takeRow_10 rfl ?_
    refine r_nI C zw1 hl.1 [.int row, .int (nI 0), .int (nI 4)] 3 rfl (c_X7_isWithin (l := l) (G := G) (tC := tC) (ad := ad) (N := N) (E := E) (x := row) (a := nI 0) (b := nI 4)   ) C.2.2.2.2.2.2.1.2.2.1 gX3_takeRow_X7_isWithin_n21 rfl ⟨rfl, rfl⟩ (by decide +kernel) (by decide +kernel) (by decide +kernel) ⟨Nat.le_of_ble_eq_true rfl, Nat.le_of_ble_eq_true rfl⟩ (rest := []) rfl (Nat.le_of_ble_eq_true rfl) dX3_takeRow_11 ⟨Nat.zero_le _, Nat.zero_le _⟩ (fun zr2 zE2 zH2 zL2 zp2 zw2 => ?_)
    obtain ⟨ze2, zq2⟩ := zp2
    rw [ze2] at zw2
    clear ze2
    rw [zq2]
    refine b_if_ne (tgt := 19) hx hb dX3_takeRow_14 (by decide) (fun zc14 => ?_) (fun zc14 => ?_)
    · exact absurd zc14 hno
    · refine lv_iconst (v := nI 0) hx hb dX3_takeRow_17 rfl ?_
      exact r_zret C zw2 dX3_takeRow_18 (Or.inl rfl) ⟨rfl, (by rfl)⟩

set_option maxHeartbeats 4000000 in
set_option maxRecDepth 100000 in
theorem c_X3_takeHead {l : Launch} {G : vG} {tC : Nat} {ad : Nat → Nat} {N : Nat} {E : Nat → va_E} {i pg cm hd : Nat} {lst md sd : Int32} {cs : Nat → Int32} {op : Nat → Int32} {w9 : Nat} {pt : Nat → Int32} {pk : Nat → Nat} {s : Nat → Int32} {b : Nat} (hN0 : i + 3 ≤ N) (hN1 : w9 + 1 ≤ N) (hE0 : E i = .inr (2, [.ref (ad (i + 1)), .ref (ad (i + 2)), .int (nI pg), .int (nI cm), .int lst, .int md, .int sd, .int (nI hd)])) (hE1 : E (i + 1) = eI G 500 cs) (hE2 : E (i + 2) = eI G 4 op) (hE3 : E w9 = eI G 10 pt) (hw9 : w9 < i ∨ i + 3 ≤ w9) (hpk : ∀ j, j < 10 → pt j = nI (pk j) ∧ pk j < 256) (hrep : RepS s cs op pg cm hd lst md cm) (hcm : cm < 1000000) (hb4 : b < 4) : MI l yX3_takeHead wsX3_takeHead ({ frames := 4, cells := 0, slots := 0, locals := 91 } : Room) G tC ad N E [.ref (ad i), .int (nI b), .ref (ad w9)] (fun r E2 => ∃ cs2 : Nat → Int32, ∃ op2 : Nat → Int32, ∃ pg2 : Nat, ∃ hd2 : Nat, E2 i = .inr (2, [.ref (ad (i + 1)), .ref (ad (i + 2)), .int (nI pg2), .int (nI cm), .int lst, .int (mdF pk 2 4 md), .int sd, .int (nI hd2)]) ∧ E2 (i + 1) = eI G 500 cs2 ∧ E2 (i + 2) = eI G 4 op2 ∧ (∀ j, j ≠ i → j ≠ (i + 1) → j ≠ (i + 2) → E2 j = E j) ∧ RepS (hdF (upd s 3 (mdF pk 2 4 (s 3))) pg pk b) cs2 op2 pg2 cm hd2 lst (mdF pk 2 4 md) (cm + 1) ∧ r = if hdOk pk then 1 else 0) := by
  refine MI_of RX3 rfl (by decide) rfl (Nat.le_of_ble_eq_true rfl) ?_
  intro pp_ ee_ ss_ mm_ aa_ bb_ me_ cc_ A ls C hw hl
  have hx := C.1
  have hb := C.2.1
  have hown := C.2.2.2.2.1
  have hts := C.2.2.2.2.2.1
  have hl : lv_has ls 7 [(0, .ref (ad i)), (1, .int (nI b)), (2, .ref (ad w9))] := hl
  have hinX5 : ∀ w ∈ u_ws RX5 TX5 8, w ∈ wsX3_takeHead := by decide +kernel
  have hp := hrep.1.2.1
  have hhd : hd < cm := hrep.2.2.2.1.1
  have hrep2 := rep_mdF (pk := pk) 2 4 hrep
  refine lv_aload_n hx hb dX3_takeHead_0 rfl (lv_at hl 0 rfl) ?_
  refine lv_aload_n hx hb dX3_takeHead_1 rfl (lv_at hl 2 rfl) ?_
  refine lv_iconst (v := nI 2) hx hb dX3_takeHead_2 rfl ?_
  refine lv_bipush (v := nI 6) hx hb dX3_takeHead_3 rfl ?_
  refine r_vV C hw hl.1 (i := i) (by omega) hE0 (T := TX5) (n := 8) rfl [.ref (ad w9), .int (nI 2), .int (nI 6)] 3 rfl (c_X5_countMended (l := l) (G := G) (tC := tC) (ad := ad) (N := N) (E := E) (i := i) (pg := pg) (cm := cm) (hd := hd) (lst := lst) (md := md) (sd := sd) (w9 := w9) (pt := pt) (pk := pk) (a := 2) (b := 6) (by omega) (by omega) hE0 hE3 (by first | assumption | omega) (by first | assumption | omega) (by first | assumption | omega) (by first | assumption | omega)) gX3_takeHead_X5_countMended rfl ⟨rfl, rfl⟩ (by decide +kernel) ⟨Nat.le_of_ble_eq_true rfl, Nat.le_of_ble_eq_true rfl⟩ (rest := []) rfl (Nat.le_of_ble_eq_true rfl) dX3_takeHead_5 ⟨Nat.zero_le _, Nat.zero_le _⟩ (fun zE1 zH1 zL1 zp1 zw1 => ?_)
  obtain ⟨zg1_0, zf1⟩ := zp1
  have zh1_0 : zE1 i = .inr (2, [.ref (ad (i + 1)), .ref (ad (i + 2)), .int (nI pg), .int (nI cm), .int lst, .int (mdF pk 2 (6 - 2) md), .int sd, .int (nI hd)]) := zg1_0
  have zk1_0 : zE1 (i + 1) = eI G 500 cs := (zf1 _ (by omega)).trans hE1
  have zk1_1 : zE1 (i + 2) = eI G 4 op := (zf1 _ (by omega)).trans hE2
  have zk1_2 : zE1 w9 = eI G 10 pt := (zf1 _ (by omega)).trans hE3
  have zfr1 : ∀ j, j ≠ i → zE1 j = E j := fun j zm0 => zf1 j zm0
  refine lv_aload_n hx hb dX3_takeHead_8 rfl (lv_at hl 2 rfl) ?_
  refine lv_iconst (v := nI 2) hx hb dX3_takeHead_9 rfl ?_
  refine r_sI C zw1 hl.1 [.ref (ad w9), .int (nI 2)] 2 rfl (c_X3_numberAt (l := l) (G := G) (tC := tC) (ad := ad) (N := N) (E := zE1) (w9 := w9) (pt := pt) (pk := pk) (a := 2) (by omega) zk1_2 (by first | assumption | omega) (by first | assumption | omega)) gX3_takeHead_X3_numberAt rfl ⟨rfl, rfl⟩ (by decide +kernel) ⟨Nat.le_of_ble_eq_true rfl, Nat.le_of_ble_eq_true rfl⟩ (rest := []) rfl (Nat.le_of_ble_eq_true rfl) dX3_takeHead_10 ⟨Nat.zero_le _, Nat.zero_le _⟩ (fun zr2 zE2 zH2 zL2 zp2 zw2 => ?_)
  obtain ⟨ze2, zq2⟩ := zp2
  rw [ze2] at zw2
  clear ze2
  rw [zq2]
  refine lv_istore_n (lv' := [(3, .int (numI (pk 2) (pk (2 + 1)))), (0, .ref (ad i)), (1, .int (nI b)), (2, .ref (ad w9))]) hx hb dX3_takeHead_13 rfl hl (by decide) rfl (fun ls hl => ?_)
  refine lv_aload_n hx hb dX3_takeHead_14 rfl (lv_at hl 3 rfl) ?_
  refine lv_iconst (v := nI 4) hx hb dX3_takeHead_15 rfl ?_
  refine r_iaN C zw2 (i := w9) (by omega) zk1_2 (j := 4) (by omega) (by omega) dX3_takeHead_16 ?_
  refine r_nat (pk 4) (hpk 4 (by omega)).1 ?_
  refine r_sI C zw2 hl.1 [.int (nI (pk 4))] 1 rfl (c_X1_decode (l := l) (G := G) (tC := tC) (ad := ad) (N := N) (E := zE1) (o := pk 4)   (hpk 4 (by omega)).2) gX3_takeHead_X1_decode rfl ⟨rfl, rfl⟩ (by decide +kernel) ⟨Nat.le_of_ble_eq_true rfl, Nat.le_of_ble_eq_true rfl⟩ (rest := []) rfl (Nat.le_of_ble_eq_true rfl) dX3_takeHead_17 ⟨Nat.zero_le _, Nat.zero_le _⟩ (fun zr3 zE3 zH3 zL3 zp3 zw3 => ?_)
  obtain ⟨ze3, zq3⟩ := zp3
  rw [ze3] at zw3
  clear ze3
  rw [zq3]
  refine lv_istore (lv' := [(4, .int (dec (pk 4))), (3, .int (numI (pk 2) (pk (2 + 1)))), (0, .ref (ad i)), (1, .int (nI b)), (2, .ref (ad w9))]) hx hb dX3_takeHead_20 hl (by decide) rfl (fun ls hl => ?_)
  refine lv_aload_n hx hb dX3_takeHead_22 rfl (lv_at hl 4 rfl) ?_
  refine lv_iconst (v := nI 5) hx hb dX3_takeHead_23 rfl ?_
  refine r_iaN C zw3 (i := w9) (by omega) zk1_2 (j := 5) (by omega) (by omega) dX3_takeHead_24 ?_
  refine r_nat (pk 5) (hpk 5 (by omega)).1 ?_
  refine r_sI C zw3 hl.1 [.int (nI (pk 5))] 1 rfl (c_X1_decode (l := l) (G := G) (tC := tC) (ad := ad) (N := N) (E := zE1) (o := pk 5)   (hpk 5 (by omega)).2) gX3_takeHead_X1_decode rfl ⟨rfl, rfl⟩ (by decide +kernel) ⟨Nat.le_of_ble_eq_true rfl, Nat.le_of_ble_eq_true rfl⟩ (rest := []) rfl (Nat.le_of_ble_eq_true rfl) dX3_takeHead_25 ⟨Nat.zero_le _, Nat.zero_le _⟩ (fun zr4 zE4 zH4 zL4 zp4 zw4 => ?_)
  obtain ⟨ze4, zq4⟩ := zp4
  rw [ze4] at zw4
  clear ze4
  rw [zq4]
  refine lv_istore (lv' := [(5, .int (dec (pk 5))), (4, .int (dec (pk 4))), (3, .int (numI (pk 2) (pk (2 + 1)))), (0, .ref (ad i)), (1, .int (nI b)), (2, .ref (ad w9))]) hx hb dX3_takeHead_28 hl (by decide) rfl (fun ls hl => ?_)
  refine lv_iload_n hx hb dX3_takeHead_30 rfl (lv_at hl 2 rfl) ?_
  refine lv_iconst (v := -1) hx hb dX3_takeHead_31 (by decide) ?_
  refine lv_icmp_eq (tgt := 52) hx hb dX3_takeHead_32 (by decide) (fun zc32 => ?_) (fun zc32 => ?_)
  · refine lv_aload_n hx hb dX3_takeHead_52 rfl (lv_at hl 3 rfl) ?_
    refine r_get C zw4 RX5 TX5 8 2 hinX5 (i := i) (by omega) zh1_0 rfl 1 (by decide) (by decide +kernel) rfl (v := .ref (ad (i + 2))) rfl dX3_takeHead_53 ?_
    refine lv_iload_n hx hb dX3_takeHead_56 rfl (lv_at hl 4 rfl) ?_
    refine lv_iconst (v := -1) hx hb dX3_takeHead_57 (by decide) ?_
    refine r_iasN C zw4 (i := (i + 2)) (by omega) zk1_1 (j := b) (by omega) (by omega) dX3_takeHead_58 (fun zE5 zH5 zL5 zg5 zf5 zw5 => ?_)
    have zh5_0 : zE5 (i + 2) = eI G 4 (upd op b (-1)) := zg5
    have zk5_0 : zE5 (i + 1) = eI G 500 cs := (zf5 _ (by omega)).trans zk1_0
    have zk5_1 : zE5 w9 = eI G 10 pt := (zf5 _ (by omega)).trans zk1_2
    have zk5_2 : zE5 i = .inr (2, [.ref (ad (i + 1)), .ref (ad (i + 2)), .int (nI pg), .int (nI cm), .int lst, .int (mdF pk 2 (6 - 2) md), .int sd, .int (nI hd)]) := (zf5 _ (by omega)).trans zh1_0
    have zfr5 : ∀ j, j ≠ i → j ≠ (i + 2) → zE5 j = E j := fun j zm0 zm1 => (zf5 j zm1).trans (zfr1 j zm0)
    refine lv_iconst (v := nI 0) hx hb dX3_takeHead_59 rfl ?_
    exact r_zret C zw5 dX3_takeHead_60 (Or.inl rfl) ⟨cs, upd op b (-1), pg, hd, zk5_2, zk5_0, zh5_0, (fun j zm0 zm1 zm2 => zfr5 j zm0 zm2), (by exact ⟨rep_hdN hrep2 hb4 (hd_no (by first | exact Or.inl zc32 | exact Or.inr (Or.inl zc43) | exact Or.inr (Or.inr zc49))), (if_neg (hd_no (by first | exact Or.inl zc32 | exact Or.inr (Or.inl zc43) | exact Or.inr (Or.inr zc49)))).symm⟩)⟩
  · refine lv_iload hx hb dX3_takeHead_35 (lv_at hl 1 rfl) ?_
    refine lv_iconst (v := nI 0) hx hb dX3_takeHead_37 rfl ?_
    refine lv_bipush (v := nI 7) hx hb dX3_takeHead_38 rfl ?_
    refine r_nI C zw4 hl.1 [.int (dec (pk 4)), .int (nI 0), .int (nI 7)] 3 rfl (c_X7_isWithin (l := l) (G := G) (tC := tC) (ad := ad) (N := N) (E := zE1) (x := dec (pk 4)) (a := nI 0) (b := nI 7)   ) C.2.2.2.2.2.2.1.2.2.1 gX3_takeHead_X7_isWithin_n21 rfl ⟨rfl, rfl⟩ (by decide +kernel) (by decide +kernel) (by decide +kernel) ⟨Nat.le_of_ble_eq_true rfl, Nat.le_of_ble_eq_true rfl⟩ (rest := []) rfl (Nat.le_of_ble_eq_true rfl) dX3_takeHead_40 ⟨Nat.zero_le _, Nat.zero_le _⟩ (fun zr6 zE6 zH6 zL6 zp6 zw6 => ?_)
    obtain ⟨ze6, zq6⟩ := zp6
    rw [ze6] at zw6
    clear ze6
    rw [zq6]
    refine b_if_eq (tgt := 52) hx hb dX3_takeHead_43 (by decide) (fun zc43 => ?_) (fun zc43 => ?_)
    · refine lv_aload_n hx hb dX3_takeHead_52 rfl (lv_at hl 3 rfl) ?_
      refine r_get C zw6 RX5 TX5 8 2 hinX5 (i := i) (by omega) zh1_0 rfl 1 (by decide) (by decide +kernel) rfl (v := .ref (ad (i + 2))) rfl dX3_takeHead_53 ?_
      refine lv_iload_n hx hb dX3_takeHead_56 rfl (lv_at hl 4 rfl) ?_
      refine lv_iconst (v := -1) hx hb dX3_takeHead_57 (by decide) ?_
      refine r_iasN C zw6 (i := (i + 2)) (by omega) zk1_1 (j := b) (by omega) (by omega) dX3_takeHead_58 (fun zE7 zH7 zL7 zg7 zf7 zw7 => ?_)
      have zh7_0 : zE7 (i + 2) = eI G 4 (upd op b (-1)) := zg7
      have zk7_0 : zE7 (i + 1) = eI G 500 cs := (zf7 _ (by omega)).trans zk1_0
      have zk7_1 : zE7 w9 = eI G 10 pt := (zf7 _ (by omega)).trans zk1_2
      have zk7_2 : zE7 i = .inr (2, [.ref (ad (i + 1)), .ref (ad (i + 2)), .int (nI pg), .int (nI cm), .int lst, .int (mdF pk 2 (6 - 2) md), .int sd, .int (nI hd)]) := (zf7 _ (by omega)).trans zh1_0
      have zfr7 : ∀ j, j ≠ i → j ≠ (i + 2) → zE7 j = E j := fun j zm0 zm1 => (zf7 j zm1).trans (zfr1 j zm0)
      refine lv_iconst (v := nI 0) hx hb dX3_takeHead_59 rfl ?_
      exact r_zret C zw7 dX3_takeHead_60 (Or.inl rfl) ⟨cs, upd op b (-1), pg, hd, zk7_2, zk7_0, zh7_0, (fun j zm0 zm1 zm2 => zfr7 j zm0 zm2), (by exact ⟨rep_hdN hrep2 hb4 (hd_no (by first | exact Or.inl zc32 | exact Or.inr (Or.inl zc43) | exact Or.inr (Or.inr zc49))), (if_neg (hd_no (by first | exact Or.inl zc32 | exact Or.inr (Or.inl zc43) | exact Or.inr (Or.inr zc49)))).symm⟩)⟩
    · refine lv_iload hx hb dX3_takeHead_46 (lv_at hl 0 rfl) ?_
      refine lv_iconst (v := -1) hx hb dX3_takeHead_48 (by decide) ?_
      refine lv_icmp_ne (tgt := 61) hx hb dX3_takeHead_49 (by decide) (fun zc49 => ?_) (fun zc49 => ?_)
      · have hok := hd_ok zc32 zc43 zc49
        have hd5 := hok.2.2.2
        refine lv_aload_n hx hb dX3_takeHead_61 rfl (lv_at hl 3 rfl) ?_
        refine lv_iload_n hx hb dX3_takeHead_62 rfl (lv_at hl 4 rfl) ?_
        refine lv_iload_n hx hb dX3_takeHead_63 rfl (lv_at hl 2 rfl) ?_
        refine r_as (nI (hdN pk)) (numI_y ⟨hok.1, hok.2.1⟩) ?_
        refine lv_iload hx hb dX3_takeHead_64 (lv_at hl 1 rfl) ?_
        refine r_as (nI (decN (pk 4))) (dec_lt (by have := hok.2.2.1; omega)) ?_
        refine r_vI C zw6 hl.1 (i := i) (by omega) zh1_0 (T := TX5) (n := 8) rfl [.int (nI b), .int (nI (hdN pk)), .int (nI (decN (pk 4)))] 3 rfl (c_X5_openPage (l := l) (G := G) (tC := tC) (ad := ad) (N := N) (E := zE1) (i := i) (pg := pg) (cm := cm) (hd := hd) (lst := lst) (md := mdF pk 2 (6 - 2) md) (sd := sd) (cs := cs) (op := op) (s := (upd s 3 (mdF pk 2 4 (s 3)))) (b := b) (n := nI (hdN pk)) (p9 := nI (decN (pk 4))) (by omega) zh1_0 zk1_0 zk1_1 hrep2.2.2.1 (by first | assumption | omega) (by first | assumption | omega) (by omega)) gX3_takeHead_X5_openPage rfl ⟨rfl, rfl⟩ (by decide +kernel) ⟨Nat.le_of_ble_eq_true rfl, Nat.le_of_ble_eq_true rfl⟩ (rest := []) rfl (Nat.le_of_ble_eq_true rfl) dX3_takeHead_66 ⟨Nat.zero_le _, Nat.zero_le _⟩ (fun zr8 zE8 zH8 zL8 zp8 zw8 => ?_)
        obtain ⟨zcs28, zop28, zpg28, zk28, zg8_0, zg8_1, zg8_2, zf8, zq8⟩ := zp8
        have zh8_0 : zE8 i = .inr (2, [.ref (ad (i + 1)), .ref (ad (i + 2)), .int (nI zpg28), .int (nI cm), .int lst, .int (mdF pk 2 (6 - 2) md), .int sd, .int (nI (hd + 1))]) := zg8_0
        have zh8_1 : zE8 (i + 1) = eI G 500 zcs28 := zg8_1
        have zh8_2 : zE8 (i + 2) = eI G 4 zop28 := zg8_2
        have zk8_0 : zE8 w9 = eI G 10 pt := (zf8 _ (by omega) (by omega) (by omega)).trans zk1_2
        have zfr8 : ∀ j, j ≠ i → j ≠ (i + 1) → j ≠ (i + 2) → zE8 j = E j := fun j zm0 zm1 zm2 => (zf8 j zm0 zm1 zm2).trans (zfr1 j zm0)
        obtain ⟨zo, zk⟩ := zq8
        obtain ⟨zy1, zy2⟩ := rep_hdY hrep2 (by omega) hb4 hok zo
        have zlt := opn_lt zo
        refine lv_istore (lv' := [(6, .int zr8), (5, .int (dec (pk 5))), (4, .int (dec (pk 4))), (3, .int (numI (pk 2) (pk (2 + 1)))), (0, .ref (ad i)), (1, .int (nI b)), (2, .ref (ad w9))]) hx hb dX3_takeHead_69 hl (by decide) rfl (fun ls hl => ?_)
        refine lv_iload hx hb dX3_takeHead_71 (lv_at hl 1 rfl) ?_
        refine r_nat (decN (pk 5)) (dec_lt hd5) ?_
        refine lv_iconst (v := nI 1) hx hb dX3_takeHead_73 rfl ?_
        refine lv_iand hx hb dX3_takeHead_74 ?_
        refine r_nat (decN (pk 5) % 2) (pk_andN (by omega) 1 rfl) ?_
        refine lv_iconst (v := nI 1) hx hb dX3_takeHead_75 rfl ?_
        refine n_icmp_ne (tgt := 85) hx hb dX3_takeHead_76 (by decide) (by omega) (by omega) (fun zc76 => ?_) (fun zc76 => ?_)
        · refine lv_iconst (v := nI 1) hx hb dX3_takeHead_85 rfl ?_
          exact r_zret C zw8 dX3_takeHead_86 (Or.inr rfl) ⟨zcs28, zop28, zpg28, hd + 1, zh8_0, zh8_1, zh8_2, (fun j zm0 zm1 zm2 => zfr8 j zm0 zm1 zm2), (by exact ⟨zy2 zc76, (if_pos hok).symm⟩)⟩
        · refine lv_aload_n hx hb dX3_takeHead_79 rfl (lv_at hl 4 rfl) ?_
          refine lv_iload hx hb dX3_takeHead_80 (lv_at hl 0 rfl) ?_
          refine r_nat zk28 zk ?_
          refine r_vV C zw8 hl.1 (i := i) (by omega) zh8_0 (T := TX5) (n := 8) rfl [.int (nI zk28)] 1 rfl (c_X5_clear (l := l) (G := G) (tC := tC) (ad := ad) (N := N) (E := zE8) (i := i) (pg := zpg28) (cm := cm) (hd := hd + 1) (lst := lst) (md := (mdF pk 2 (6 - 2) md)) (sd := sd) (cs := zcs28) (k := zk28) (by omega) zh8_0 zh8_1 (by omega)) gX3_takeHead_X5_clear rfl ⟨rfl, rfl⟩ (by decide +kernel) ⟨Nat.le_of_ble_eq_true rfl, Nat.le_of_ble_eq_true rfl⟩ (rest := []) rfl (Nat.le_of_ble_eq_true rfl) dX3_takeHead_82 ⟨Nat.zero_le _, Nat.zero_le _⟩ (fun zE9 zH9 zL9 zp9 zw9 => ?_)
          obtain ⟨zg9_0, zf9⟩ := zp9
          have zh9_0 : zE9 (i + 1) = eI G 500 (fillF zcs28 (zk28 * 50 + 6) ((zk28 + 1) * 50) (-1)) := zg9_0
          have zk9_0 : zE9 w9 = eI G 10 pt := (zf9 _ (by omega)).trans zk8_0
          have zk9_1 : zE9 i = .inr (2, [.ref (ad (i + 1)), .ref (ad (i + 2)), .int (nI zpg28), .int (nI cm), .int lst, .int (mdF pk 2 (6 - 2) md), .int sd, .int (nI (hd + 1))]) := (zf9 _ (by omega)).trans zh8_0
          have zk9_2 : zE9 (i + 2) = eI G 4 zop28 := (zf9 _ (by omega)).trans zh8_2
          have zfr9 : ∀ j, j ≠ i → j ≠ (i + 1) → j ≠ (i + 2) → zE9 j = E j := fun j zm0 zm1 zm2 => (zf9 j zm1).trans (zfr8 j zm0 zm1 zm2)
          refine lv_iconst (v := nI 1) hx hb dX3_takeHead_85 rfl ?_
          exact r_zret C zw9 dX3_takeHead_86 (Or.inr rfl) ⟨fillF zcs28 (zk28 * 50 + 6) ((zk28 + 1) * 50) (-1), zop28, zpg28, hd + 1, zk9_1, zh9_0, zk9_2, (fun j zm0 zm1 zm2 => zfr9 j zm0 zm1 zm2), (by exact ⟨zy1 zc76, (if_pos hok).symm⟩)⟩
      · refine lv_aload_n hx hb dX3_takeHead_52 rfl (lv_at hl 3 rfl) ?_
        refine r_get C zw6 RX5 TX5 8 2 hinX5 (i := i) (by omega) zh1_0 rfl 1 (by decide) (by decide +kernel) rfl (v := .ref (ad (i + 2))) rfl dX3_takeHead_53 ?_
        refine lv_iload_n hx hb dX3_takeHead_56 rfl (lv_at hl 4 rfl) ?_
        refine lv_iconst (v := -1) hx hb dX3_takeHead_57 (by decide) ?_
        refine r_iasN C zw6 (i := (i + 2)) (by omega) zk1_1 (j := b) (by omega) (by omega) dX3_takeHead_58 (fun zE10 zH10 zL10 zg10 zf10 zw10 => ?_)
        have zh10_0 : zE10 (i + 2) = eI G 4 (upd op b (-1)) := zg10
        have zk10_0 : zE10 (i + 1) = eI G 500 cs := (zf10 _ (by omega)).trans zk1_0
        have zk10_1 : zE10 w9 = eI G 10 pt := (zf10 _ (by omega)).trans zk1_2
        have zk10_2 : zE10 i = .inr (2, [.ref (ad (i + 1)), .ref (ad (i + 2)), .int (nI pg), .int (nI cm), .int lst, .int (mdF pk 2 (6 - 2) md), .int sd, .int (nI hd)]) := (zf10 _ (by omega)).trans zh1_0
        have zfr10 : ∀ j, j ≠ i → j ≠ (i + 2) → zE10 j = E j := fun j zm0 zm1 => (zf10 j zm1).trans (zfr1 j zm0)
        refine lv_iconst (v := nI 0) hx hb dX3_takeHead_59 rfl ?_
        exact r_zret C zw10 dX3_takeHead_60 (Or.inl rfl) ⟨cs, upd op b (-1), pg, hd, zk10_2, zk10_0, zh10_0, (fun j zm0 zm1 zm2 => zfr10 j zm0 zm2), (by exact ⟨rep_hdN hrep2 hb4 (hd_no (by first | exact Or.inl zc32 | exact Or.inr (Or.inl zc43) | exact Or.inr (Or.inr zc49))), (if_neg (hd_no (by first | exact Or.inl zc32 | exact Or.inr (Or.inl zc43) | exact Or.inr (Or.inr zc49)))).symm⟩)⟩

set_option maxHeartbeats 4000000 in
set_option maxRecDepth 100000 in
theorem c_X3_take {l : Launch} {G : vG} {tC : Nat} {ad : Nat → Nat} {N : Nat} {E : Nat → va_E} {i pg cm hd : Nat} {lst md sd : Int32} {cs : Nat → Int32} {op : Nat → Int32} {w9 : Nat} {pt : Nat → Int32} {pk : Nat → Nat} {s : Nat → Int32} (hN0 : i + 3 ≤ N) (hN1 : w9 + 1 ≤ N) (hE0 : E i = .inr (2, [.ref (ad (i + 1)), .ref (ad (i + 2)), .int (nI pg), .int (nI cm), .int lst, .int md, .int sd, .int (nI hd)])) (hE1 : E (i + 1) = eI G 500 cs) (hE2 : E (i + 2) = eI G 4 op) (hE3 : E w9 = eI G 10 pt) (hw9 : w9 < i ∨ i + 3 ≤ w9) (hpk : ∀ j, j < 10 → pt j = nI (pk j) ∧ pk j < 256) (hrep : RepS s cs op pg cm hd lst md cm) (hcm : cm < 1000000) : MI l yX3_take wsX3_take ({ frames := 5, cells := 0, slots := 0, locals := 117 } : Room) G tC ad N E [.ref (ad i), .ref (ad w9)] (fun r E2 => ∃ cs2 : Nat → Int32, ∃ op2 : Nat → Int32, ∃ pg2 : Nat, ∃ hd2 : Nat, ∃ md2 : Int32, E2 i = .inr (2, [.ref (ad (i + 1)), .ref (ad (i + 2)), .int (nI pg2), .int (nI cm), .int lst, .int md2, .int sd, .int (nI hd2)]) ∧ E2 (i + 1) = eI G 500 cs2 ∧ E2 (i + 2) = eI G 4 op2 ∧ (∀ j, j ≠ i → j ≠ (i + 1) → j ≠ (i + 2) → E2 j = E j) ∧ RepS (tkF s pg pk) cs2 op2 pg2 cm hd2 lst md2 (cm + 1) ∧ r = if tkB s pk then 1 else 0) := by
  refine MI_of RX3 rfl (by decide) rfl (Nat.le_of_ble_eq_true rfl) ?_
  intro pp_ ee_ ss_ mm_ aa_ bb_ me_ cc_ A ls C hw hl
  have hx := C.1
  have hb := C.2.1
  have hown := C.2.2.2.2.1
  have hts := C.2.2.2.2.2.1
  have hl : lv_has ls 4 [(0, .ref (ad i)), (1, .ref (ad w9))] := hl
  have hinX5 : ∀ w ∈ u_ws RX5 TX5 8, w ∈ wsX3_take := by decide +kernel
  have hp := hrep.1.2.1
  refine lv_aload_n hx hb dX3_take_0 rfl (lv_at hl 1 rfl) ?_
  refine r_alenI C hw (i := w9) (by omega) hE3 dX3_take_1 ?_
  refine lv_bipush (v := nI 10) hx hb dX3_take_2 rfl ?_
  refine n_icmp_ge (tgt := 9) hx hb dX3_take_4 (by decide) (by omega) (by omega) (fun zc4 => ?_) (fun zc4 => ?_)
  · refine lv_aload_n hx hb dX3_take_9 rfl (lv_at hl 0 rfl) ?_
    refine lv_aload_n hx hb dX3_take_10 rfl (lv_at hl 1 rfl) ?_
    refine lv_iconst (v := nI 0) hx hb dX3_take_11 rfl ?_
    refine lv_iconst (v := nI 2) hx hb dX3_take_12 rfl ?_
    refine r_vV C hw hl.1 (i := i) (by omega) hE0 (T := TX5) (n := 8) rfl [.ref (ad w9), .int (nI 0), .int (nI 2)] 3 rfl (c_X5_countMended (l := l) (G := G) (tC := tC) (ad := ad) (N := N) (E := E) (i := i) (pg := pg) (cm := cm) (hd := hd) (lst := lst) (md := md) (sd := sd) (w9 := w9) (pt := pt) (pk := pk) (a := 0) (b := 2) (by omega) (by omega) hE0 hE3 (by first | assumption | omega) (by first | assumption | omega) (by first | assumption | omega) (by first | assumption | omega)) gX3_take_X5_countMended rfl ⟨rfl, rfl⟩ (by decide +kernel) ⟨Nat.le_of_ble_eq_true rfl, Nat.le_of_ble_eq_true rfl⟩ (rest := []) rfl (Nat.le_of_ble_eq_true rfl) dX3_take_13 ⟨Nat.zero_le _, Nat.zero_le _⟩ (fun zE1 zH1 zL1 zp1 zw1 => ?_)
    obtain ⟨zg1_0, zf1⟩ := zp1
    have zh1_0 : zE1 i = .inr (2, [.ref (ad (i + 1)), .ref (ad (i + 2)), .int (nI pg), .int (nI cm), .int lst, .int (mdF pk 0 (2 - 0) md), .int sd, .int (nI hd)]) := zg1_0
    have zk1_0 : zE1 (i + 1) = eI G 500 cs := (zf1 _ (by omega)).trans hE1
    have zk1_1 : zE1 (i + 2) = eI G 4 op := (zf1 _ (by omega)).trans hE2
    have zk1_2 : zE1 w9 = eI G 10 pt := (zf1 _ (by omega)).trans hE3
    have zfr1 : ∀ j, j ≠ i → zE1 j = E j := fun j zm0 => zf1 j zm0
    refine lv_aload_n hx hb dX3_take_16 rfl (lv_at hl 1 rfl) ?_
    refine lv_iconst (v := nI 0) hx hb dX3_take_17 rfl ?_
    refine r_iaN C zw1 (i := w9) (by omega) zk1_2 (j := 0) (by omega) (by omega) dX3_take_18 ?_
    refine r_nat (pk 0) (hpk 0 (by omega)).1 ?_
    refine r_sI C zw1 hl.1 [.int (nI (pk 0))] 1 rfl (c_X1_decode (l := l) (G := G) (tC := tC) (ad := ad) (N := N) (E := zE1) (o := pk 0)   (hpk 0 (by omega)).2) gX3_take_X1_decode rfl ⟨rfl, rfl⟩ (by decide +kernel) ⟨Nat.le_of_ble_eq_true rfl, Nat.le_of_ble_eq_true rfl⟩ (rest := []) rfl (Nat.le_of_ble_eq_true rfl) dX3_take_19 ⟨Nat.zero_le _, Nat.zero_le _⟩ (fun zr2 zE2 zH2 zL2 zp2 zw2 => ?_)
    obtain ⟨ze2, zq2⟩ := zp2
    rw [ze2] at zw2
    clear ze2
    rw [zq2]
    refine lv_istore_n (lv' := [(2, .int (dec (pk 0))), (0, .ref (ad i)), (1, .ref (ad w9))]) hx hb dX3_take_22 rfl hl (by decide) rfl (fun ls hl => ?_)
    refine lv_aload_n hx hb dX3_take_23 rfl (lv_at hl 2 rfl) ?_
    refine lv_iconst (v := nI 1) hx hb dX3_take_24 rfl ?_
    refine r_iaN C zw2 (i := w9) (by omega) zk1_2 (j := 1) (by omega) (by omega) dX3_take_25 ?_
    refine r_nat (pk 1) (hpk 1 (by omega)).1 ?_
    refine r_sI C zw2 hl.1 [.int (nI (pk 1))] 1 rfl (c_X1_decode (l := l) (G := G) (tC := tC) (ad := ad) (N := N) (E := zE1) (o := pk 1)   (hpk 1 (by omega)).2) gX3_take_X1_decode rfl ⟨rfl, rfl⟩ (by decide +kernel) ⟨Nat.le_of_ble_eq_true rfl, Nat.le_of_ble_eq_true rfl⟩ (rest := []) rfl (Nat.le_of_ble_eq_true rfl) dX3_take_26 ⟨Nat.zero_le _, Nat.zero_le _⟩ (fun zr3 zE3 zH3 zL3 zp3 zw3 => ?_)
    obtain ⟨ze3, zq3⟩ := zp3
    rw [ze3] at zw3
    clear ze3
    rw [zq3]
    refine lv_istore_n (lv' := [(3, .int (dec (pk 1))), (2, .int (dec (pk 0))), (0, .ref (ad i)), (1, .ref (ad w9))]) hx hb dX3_take_29 rfl hl (by decide) rfl (fun ls hl => ?_)
    refine lv_iload_n hx hb dX3_take_30 rfl (lv_at hl 1 rfl) ?_
    refine lv_iconst (v := nI 0) hx hb dX3_take_31 rfl ?_
    refine lv_iconst (v := nI 3) hx hb dX3_take_32 rfl ?_
    refine r_nI C zw3 hl.1 [.int (dec (pk 0)), .int (nI 0), .int (nI 3)] 3 rfl (c_X7_isWithin (l := l) (G := G) (tC := tC) (ad := ad) (N := N) (E := zE1) (x := dec (pk 0)) (a := nI 0) (b := nI 3)   ) C.2.2.2.2.2.2.1.2.2.1 gX3_take_X7_isWithin_n21 rfl ⟨rfl, rfl⟩ (by decide +kernel) (by decide +kernel) (by decide +kernel) ⟨Nat.le_of_ble_eq_true rfl, Nat.le_of_ble_eq_true rfl⟩ (rest := []) rfl (Nat.le_of_ble_eq_true rfl) dX3_take_33 ⟨Nat.zero_le _, Nat.zero_le _⟩ (fun zr4 zE4 zH4 zL4 zp4 zw4 => ?_)
    obtain ⟨ze4, zq4⟩ := zp4
    rw [ze4] at zw4
    clear ze4
    rw [zq4]
    refine b_if_ne (tgt := 41) hx hb dX3_take_36 (by decide) (fun zc36 => ?_) (fun zc36 => ?_)
    · rw [dec_in (by omega)] at zc36
      refine lv_iload_n hx hb dX3_take_41 rfl (lv_at hl 0 rfl) ?_
      by_cases zc42_0 : (dec (pk 1)) = nI 0
      · refine lv_lookup (tgt := 76) hx hb dX3_take_42 (off := 34) (by decide) (by rw [zc42_0]; decide) (by decide) ?_
        rw [dec_k (by omega)] at zc42_0
        refine lv_aload_n hx hb dX3_take_76 rfl (lv_at hl 2 rfl) ?_
        refine lv_iload_n hx hb dX3_take_77 rfl (lv_at hl 1 rfl) ?_
        refine r_nat (decN (pk 0)) (dec_lt (by omega)) ?_
        refine lv_aload_n hx hb dX3_take_78 rfl (lv_at hl 3 rfl) ?_
        refine r_sI C zw4 hl.1 [.ref (ad i), .int (nI (decN (pk 0))), .ref (ad w9)] 3 rfl (c_X3_takeHead (l := l) (G := G) (tC := tC) (ad := ad) (N := N) (E := zE1) (i := i) (pg := pg) (cm := cm) (hd := hd) (lst := lst) (md := mdF pk 0 (2 - 0) md) (sd := sd) (cs := cs) (op := op) (w9 := w9) (pt := pt) (pk := pk) (s := (tk1 s pk)) (b := decN (pk 0)) (by omega) (by omega) zh1_0 zk1_0 zk1_1 zk1_2 (by first | assumption | omega) (by first | assumption | omega) (tk1_rep hrep) (by first | assumption | omega) (by first | assumption | omega)) gX3_take_X3_takeHead rfl ⟨rfl, rfl⟩ (by decide +kernel) ⟨Nat.le_of_ble_eq_true rfl, Nat.le_of_ble_eq_true rfl⟩ (rest := []) rfl (Nat.le_of_ble_eq_true rfl) dX3_take_79 ⟨Nat.zero_le _, Nat.zero_le _⟩ (fun zr5 zE5 zH5 zL5 zp5 zw5 => ?_)
        obtain ⟨zcs25, zop25, zpg25, zhd25, zg5_0, zg5_1, zg5_2, zf5, zq5⟩ := zp5
        have zh5_0 : zE5 i = .inr (2, [.ref (ad (i + 1)), .ref (ad (i + 2)), .int (nI zpg25), .int (nI cm), .int lst, .int (mdF pk 2 4 (mdF pk 0 (2 - 0) md)), .int sd, .int (nI zhd25)]) := zg5_0
        have zh5_1 : zE5 (i + 1) = eI G 500 zcs25 := zg5_1
        have zh5_2 : zE5 (i + 2) = eI G 4 zop25 := zg5_2
        have zk5_0 : zE5 w9 = eI G 10 pt := (zf5 _ (by omega) (by omega) (by omega)).trans zk1_2
        have zfr5 : ∀ j, j ≠ i → j ≠ (i + 1) → j ≠ (i + 2) → zE5 j = E j := fun j zm0 zm1 zm2 => (zf5 j zm0 zm1 zm2).trans (zfr1 j zm0)
        exact r_zret C zw5 dX3_take_82 (by rw [zq5.2]; split <;> simp) ⟨zcs25, zop25, zpg25, zhd25, mdF pk 2 4 (mdF pk 0 (2 - 0) md), zh5_0, zh5_1, zh5_2, (fun j zm0 zm1 zm2 => zfr5 j zm0 zm1 zm2), (by exact take_head zc36 zc42_0 zq5)⟩
      by_cases zc42_6 : (dec (pk 1)) = nI 6
      · refine lv_lookup (tgt := 83) hx hb dX3_take_42 (off := 41) (by decide) (by rw [zc42_6]; decide) (by decide) ?_
        rw [dec_k (by omega)] at zc42_0 zc42_6
        by_cases zs83 : s (4 + decN (pk 0)) = -1
        · refine lv_aload_n hx hb dX3_take_83 rfl (lv_at hl 2 rfl) ?_
          refine lv_aload_n hx hb dX3_take_84 rfl (lv_at hl 2 rfl) ?_
          refine r_get C zw4 RX5 TX5 8 2 hinX5 (i := i) (by omega) zh1_0 rfl 1 (by decide) (by decide +kernel) rfl (v := .ref (ad (i + 2))) rfl dX3_take_85 ?_
          refine lv_iload_n hx hb dX3_take_88 rfl (lv_at hl 1 rfl) ?_
          refine r_nat (decN (pk 0)) (dec_lt (by omega)) ?_
          refine r_iaN C zw4 (i := (i + 2)) (by omega) zk1_1 (j := decN (pk 0)) (by omega) (by omega) dX3_take_89 ?_
          refine r_as (-1) (by rw [hrep.2.1.1 _ (by omega)]; exact zs83) ?_
          refine lv_aload_n hx hb dX3_take_90 rfl (lv_at hl 3 rfl) ?_
          refine r_sI C zw4 hl.1 [.ref (ad i), .int (-1), .ref (ad w9)] 3 rfl (c_X3_takeLinks_n (l := l) (G := G) (tC := tC) (ad := ad) (N := N) (E := zE1) (i := i) (pg := pg) (cm := cm) (hd := hd) (lst := lst) (md := mdF pk 0 (2 - 0) md) (sd := sd) (w9 := w9) (by omega) zh1_0 (by first | assumption | omega)) gX3_take_X3_takeLinks rfl ⟨rfl, rfl⟩ (by decide +kernel) ⟨Nat.le_of_ble_eq_true rfl, Nat.le_of_ble_eq_true rfl⟩ (rest := []) rfl (Nat.le_of_ble_eq_true rfl) dX3_take_91 ⟨Nat.zero_le _, Nat.zero_le _⟩ (fun zr6 zE6 zH6 zL6 zp6 zw6 => ?_)
          obtain ⟨ze6, zq6⟩ := zp6
          rw [ze6] at zw6
          clear ze6
          rw [zq6]
          exact r_zret C zw6 dX3_take_94 (Or.inl rfl) ⟨cs, op, pg, hd, mdF pk 0 (2 - 0) md, zh1_0, zk1_0, zk1_1, (fun j zm0 zm1 zm2 => zfr1 j zm0), (by exact take_shut hrep zc42_0 (by omega) zs83)⟩
        · refine lv_aload_n hx hb dX3_take_83 rfl (lv_at hl 2 rfl) ?_
          refine lv_aload_n hx hb dX3_take_84 rfl (lv_at hl 2 rfl) ?_
          refine r_get C zw4 RX5 TX5 8 2 hinX5 (i := i) (by omega) zh1_0 rfl 1 (by decide) (by decide +kernel) rfl (v := .ref (ad (i + 2))) rfl dX3_take_85 ?_
          refine lv_iload_n hx hb dX3_take_88 rfl (lv_at hl 1 rfl) ?_
          refine r_nat (decN (pk 0)) (dec_lt (by omega)) ?_
          refine r_iaN C zw4 (i := (i + 2)) (by omega) zk1_1 (j := decN (pk 0)) (by omega) (by omega) dX3_take_89 ?_
          refine r_nat ((s (4 + decN (pk 0))).toNatClampNeg) (take_opn hrep zc36 zs83).1 ?_
          refine lv_aload_n hx hb dX3_take_90 rfl (lv_at hl 3 rfl) ?_
          refine r_sI C zw4 hl.1 [.ref (ad i), .int (nI ((s (4 + decN (pk 0))).toNatClampNeg)), .ref (ad w9)] 3 rfl (c_X3_takeLinks_y (l := l) (G := G) (tC := tC) (ad := ad) (N := N) (E := zE1) (i := i) (pg := pg) (cm := cm) (hd := hd) (lst := lst) (md := mdF pk 0 (2 - 0) md) (sd := sd) (cs := cs) (w9 := w9) (pt := pt) (pk := pk) (k := (s (4 + decN (pk 0))).toNatClampNeg) (by omega) (by omega) zh1_0 zk1_0 zk1_2 (by first | assumption | omega) (by first | assumption | omega) (take_opn hrep zc36 zs83).2 (by first | assumption | omega)) gX3_take_X3_takeLinks rfl ⟨rfl, rfl⟩ (by decide +kernel) ⟨Nat.le_of_ble_eq_true rfl, Nat.le_of_ble_eq_true rfl⟩ (rest := []) rfl (Nat.le_of_ble_eq_true rfl) dX3_take_91 ⟨Nat.zero_le _, Nat.zero_le _⟩ (fun zr7 zE7 zH7 zL7 zp7 zw7 => ?_)
          obtain ⟨zg7_0, zg7_1, zf7, zq7⟩ := zp7
          have zh7_0 : zE7 i = .inr (2, [.ref (ad (i + 1)), .ref (ad (i + 2)), .int (nI pg), .int (nI cm), .int lst, .int (mdF pk 2 8 (mdF pk 0 (2 - 0) md)), .int sd, .int (nI hd)]) := zg7_0
          have zh7_1 : zE7 (i + 1) = eI G 500 (lkF cs pk (((s (4 + decN (pk 0))).toNatClampNeg) * 50 + 6) 4) := zg7_1
          have zk7_0 : zE7 (i + 2) = eI G 4 op := (zf7 _ (by omega) (by omega)).trans zk1_1
          have zk7_1 : zE7 w9 = eI G 10 pt := (zf7 _ (by omega) (by omega)).trans zk1_2
          have zfr7 : ∀ j, j ≠ i → j ≠ (i + 1) → zE7 j = E j := fun j zm0 zm1 => (zf7 j zm0 zm1).trans (zfr1 j zm0)
          rw [zq7]
          exact r_zret C zw7 dX3_take_94 (Or.inr rfl) ⟨lkF cs pk (((s (4 + decN (pk 0))).toNatClampNeg) * 50 + 6) 4, op, pg, hd, mdF pk 2 8 (mdF pk 0 (2 - 0) md), zh7_0, zh7_1, zk7_0, (fun j zm0 zm1 zm2 => zfr7 j zm0 zm1), (by exact take_link hrep zc36 zc42_6 zs83 rfl (take_opn hrep zc36 zs83).2)⟩
      by_cases zc42_7 : (dec (pk 1)) = nI 7
      · refine lv_lookup (tgt := 95) hx hb dX3_take_42 (off := 53) (by decide) (by rw [zc42_7]; decide) (by decide) ?_
        rw [dec_k (by omega)] at zc42_7
        refine lv_iconst (v := nI 1) hx hb dX3_take_95 rfl ?_
        exact r_zret C zw4 dX3_take_96 (Or.inr rfl) ⟨cs, op, pg, hd, mdF pk 0 (2 - 0) md, zh1_0, zk1_0, zk1_1, (fun j zm0 zm1 zm2 => zfr1 j zm0), (by exact take_7 hrep zc36 zc42_7)⟩
      have zc42_d : Op.lookupswitch.offset [(0, 34), (6, 41), (7, 53)] (55) (dec (pk 1)).toInt = 55 := by
        rw [lv_osw (k := nI 0) zc42_0 (by decide), lv_osw (k := nI 6) zc42_6 (by decide), lv_osw (k := nI 7) zc42_7 (by decide)]; rfl
      refine lv_lookup (tgt := 97) hx hb dX3_take_42 (off := 55) (by decide) zc42_d (by decide) ?_
      rw [dec_k (by omega)] at zc42_0 zc42_6 zc42_7
      rcases tk3 (s (4 + decN (pk 0))) (decN (pk 1)) with zs97 | zs97 | zs97
      · refine lv_aload_n hx hb dX3_take_97 rfl (lv_at hl 2 rfl) ?_
        refine lv_aload_n hx hb dX3_take_98 rfl (lv_at hl 2 rfl) ?_
        refine r_get C zw4 RX5 TX5 8 2 hinX5 (i := i) (by omega) zh1_0 rfl 1 (by decide) (by decide +kernel) rfl (v := .ref (ad (i + 2))) rfl dX3_take_99 ?_
        refine lv_iload_n hx hb dX3_take_102 rfl (lv_at hl 1 rfl) ?_
        refine r_nat (decN (pk 0)) (dec_lt (by omega)) ?_
        refine r_iaN C zw4 (i := (i + 2)) (by omega) zk1_1 (j := decN (pk 0)) (by omega) (by omega) dX3_take_103 ?_
        refine r_as (-1) (by rw [hrep.2.1.1 _ (by omega)]; exact zs97) ?_
        refine lv_iload_n hx hb dX3_take_104 rfl (lv_at hl 0 rfl) ?_
        refine lv_iconst (v := nI 1) hx hb dX3_take_105 rfl ?_
        refine lv_isub hx hb dX3_take_106 ?_
        refine lv_aload_n hx hb dX3_take_107 rfl (lv_at hl 3 rfl) ?_
        refine r_sI C zw4 hl.1 [.ref (ad i), .int (-1), .int ((dec (pk 1)) - (nI 1)), .ref (ad w9)] 4 rfl (c_X3_takeRow_m (l := l) (G := G) (tC := tC) (ad := ad) (N := N) (E := zE1) (i := i) (pg := pg) (cm := cm) (hd := hd) (lst := lst) (md := mdF pk 0 (2 - 0) md) (sd := sd) (w9 := w9) (row := (dec (pk 1)) - (nI 1)) (by omega) zh1_0 (by first | assumption | omega)) gX3_take_X3_takeRow rfl ⟨rfl, rfl⟩ (by decide +kernel) ⟨Nat.le_of_ble_eq_true rfl, Nat.le_of_ble_eq_true rfl⟩ (rest := []) rfl (Nat.le_of_ble_eq_true rfl) dX3_take_108 ⟨Nat.zero_le _, Nat.zero_le _⟩ (fun zr8 zE8 zH8 zL8 zp8 zw8 => ?_)
        obtain ⟨ze8, zq8⟩ := zp8
        rw [ze8] at zw8
        clear ze8
        rw [zq8]
        exact r_zret C zw8 dX3_take_111 (Or.inl rfl) ⟨cs, op, pg, hd, mdF pk 0 (2 - 0) md, zh1_0, zk1_0, zk1_1, (fun j zm0 zm1 zm2 => zfr1 j zm0), (by exact take_shut hrep zc42_0 zc42_7 zs97)⟩
      · refine lv_aload_n hx hb dX3_take_97 rfl (lv_at hl 2 rfl) ?_
        refine lv_aload_n hx hb dX3_take_98 rfl (lv_at hl 2 rfl) ?_
        refine r_get C zw4 RX5 TX5 8 2 hinX5 (i := i) (by omega) zh1_0 rfl 1 (by decide) (by decide +kernel) rfl (v := .ref (ad (i + 2))) rfl dX3_take_99 ?_
        refine lv_iload_n hx hb dX3_take_102 rfl (lv_at hl 1 rfl) ?_
        refine r_nat (decN (pk 0)) (dec_lt (by omega)) ?_
        refine r_iaN C zw4 (i := (i + 2)) (by omega) zk1_1 (j := decN (pk 0)) (by omega) (by omega) dX3_take_103 ?_
        refine r_nat ((s (4 + decN (pk 0))).toNatClampNeg) (take_opn hrep zc36 zs97.1).1 ?_
        refine lv_iload_n hx hb dX3_take_104 rfl (lv_at hl 0 rfl) ?_
        refine r_nat (decN (pk 1)) (dec_lt (by omega)) ?_
        refine lv_iconst (v := nI 1) hx hb dX3_take_105 rfl ?_
        refine lv_isub hx hb dX3_take_106 ?_
        refine r_nat (decN (pk 1) - 1) (pk_sub (by omega)) ?_
        refine lv_aload_n hx hb dX3_take_107 rfl (lv_at hl 3 rfl) ?_
        refine r_sI C zw4 hl.1 [.ref (ad i), .int (nI ((s (4 + decN (pk 0))).toNatClampNeg)), .int (nI (decN (pk 1) - 1)), .ref (ad w9)] 4 rfl (c_X3_takeRow_y (l := l) (G := G) (tC := tC) (ad := ad) (N := N) (E := zE1) (i := i) (pg := pg) (cm := cm) (hd := hd) (lst := lst) (md := mdF pk 0 (2 - 0) md) (sd := sd) (cs := cs) (w9 := w9) (pt := pt) (pk := pk) (k := (s (4 + decN (pk 0))).toNatClampNeg) (row := decN (pk 1) - 1) (by omega) (by omega) zh1_0 zk1_0 zk1_2 (by first | assumption | omega) (by first | assumption | omega) (take_opn hrep zc36 zs97.1).2 (by first | assumption | omega) (by omega) (by intro zj hj; have zt := take_opn hrep zc36 zs97.1; rw [hrep.2.2.1 _ _ zt.2 (by omega) (by omega)]; exact hrep.2.2.2.2.2 _ _ zt.2 (by omega) (by omega))) gX3_take_X3_takeRow rfl ⟨rfl, rfl⟩ (by decide +kernel) ⟨Nat.le_of_ble_eq_true rfl, Nat.le_of_ble_eq_true rfl⟩ (rest := []) rfl (Nat.le_of_ble_eq_true rfl) dX3_take_108 ⟨Nat.zero_le _, Nat.zero_le _⟩ (fun zr9 zE9 zH9 zL9 zp9 zw9 => ?_)
        obtain ⟨zg9_0, zf9, zq9⟩ := zp9
        have zh9_0 : zE9 (i + 1) = eI G 500 (rwF cs pk (((s (4 + decN (pk 0))).toNatClampNeg) * 50 + 10 + (decN (pk 1) - 1) * 8) 8) := zg9_0
        have zk9_0 : zE9 (i + 2) = eI G 4 op := (zf9 _ (by omega)).trans zk1_1
        have zk9_1 : zE9 w9 = eI G 10 pt := (zf9 _ (by omega)).trans zk1_2
        have zk9_2 : zE9 i = .inr (2, [.ref (ad (i + 1)), .ref (ad (i + 2)), .int (nI pg), .int (nI cm), .int lst, .int (mdF pk 0 (2 - 0) md), .int sd, .int (nI hd)]) := (zf9 _ (by omega)).trans zh1_0
        have zfr9 : ∀ j, j ≠ i → j ≠ (i + 1) → zE9 j = E j := fun j zm0 zm1 => (zf9 j zm1).trans (zfr1 j zm0)
        rw [zq9]
        exact r_zret C zw9 dX3_take_111 (Or.inr rfl) ⟨rwF cs pk (((s (4 + decN (pk 0))).toNatClampNeg) * 50 + 10 + (decN (pk 1) - 1) * 8) 8, op, pg, hd, mdF pk 0 (2 - 0) md, zk9_2, zh9_0, zk9_0, (fun j zm0 zm1 zm2 => zfr9 j zm0 zm1), (by exact take_row hrep zc36 zs97.2 zc42_0 zc42_6 zc42_7 zs97.1 rfl rfl)⟩
      · refine lv_aload_n hx hb dX3_take_97 rfl (lv_at hl 2 rfl) ?_
        refine lv_aload_n hx hb dX3_take_98 rfl (lv_at hl 2 rfl) ?_
        refine r_get C zw4 RX5 TX5 8 2 hinX5 (i := i) (by omega) zh1_0 rfl 1 (by decide) (by decide +kernel) rfl (v := .ref (ad (i + 2))) rfl dX3_take_99 ?_
        refine lv_iload_n hx hb dX3_take_102 rfl (lv_at hl 1 rfl) ?_
        refine r_nat (decN (pk 0)) (dec_lt (by omega)) ?_
        refine r_iaN C zw4 (i := (i + 2)) (by omega) zk1_1 (j := decN (pk 0)) (by omega) (by omega) dX3_take_103 ?_
        refine r_nat ((s (4 + decN (pk 0))).toNatClampNeg) (take_opn hrep zc36 zs97.1).1 ?_
        refine lv_iload_n hx hb dX3_take_104 rfl (lv_at hl 0 rfl) ?_
        refine lv_iconst (v := nI 1) hx hb dX3_take_105 rfl ?_
        refine lv_isub hx hb dX3_take_106 ?_
        refine lv_aload_n hx hb dX3_take_107 rfl (lv_at hl 3 rfl) ?_
        refine r_sI C zw4 hl.1 [.ref (ad i), .int (nI ((s (4 + decN (pk 0))).toNatClampNeg)), .int ((dec (pk 1)) - (nI 1)), .ref (ad w9)] 4 rfl (c_X3_takeRow_b (l := l) (G := G) (tC := tC) (ad := ad) (N := N) (E := zE1) (i := i) (pg := pg) (cm := cm) (hd := hd) (lst := lst) (md := mdF pk 0 (2 - 0) md) (sd := sd) (w9 := w9) (k := (s (4 + decN (pk 0))).toNatClampNeg) (row := (dec (pk 1)) - (nI 1)) (by omega) zh1_0 (take_opn hrep zc36 zs97.1).2 (by first | assumption | omega) (row_bad zc42_0 zs97.2)) gX3_take_X3_takeRow rfl ⟨rfl, rfl⟩ (by decide +kernel) ⟨Nat.le_of_ble_eq_true rfl, Nat.le_of_ble_eq_true rfl⟩ (rest := []) rfl (Nat.le_of_ble_eq_true rfl) dX3_take_108 ⟨Nat.zero_le _, Nat.zero_le _⟩ (fun zr10 zE10 zH10 zL10 zp10 zw10 => ?_)
        obtain ⟨ze10, zq10⟩ := zp10
        rw [ze10] at zw10
        clear ze10
        rw [zq10]
        exact r_zret C zw10 dX3_take_111 (Or.inl rfl) ⟨cs, op, pg, hd, mdF pk 0 (2 - 0) md, zh1_0, zk1_0, zk1_1, (fun j zm0 zm1 zm2 => zfr1 j zm0), (by exact take_bad hrep (fun zq => zs97.2 zq.2))⟩
    · rw [dec_in (by omega)] at zc36
      refine lv_iconst (v := nI 0) hx hb dX3_take_39 rfl ?_
      exact r_zret C zw4 dX3_take_40 (Or.inl rfl) ⟨cs, op, pg, hd, mdF pk 0 (2 - 0) md, zh1_0, zk1_0, zk1_1, (fun j zm0 zm1 zm2 => zfr1 j zm0), (by exact take_bad hrep (fun zq => zc36 zq.1))⟩
  · exact absurd zc4 (by decide)

