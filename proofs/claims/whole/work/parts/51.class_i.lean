set_option maxHeartbeats 4000000 in
set_option maxRecDepth 100000 in
theorem c_X5_get_s {l : Launch} {G : vG} {tC : Nat} {ad : Nat → Nat} {N : Nat} {E : Nat → va_E} {i pg cm hd : Nat} {lst md sd : Int32} {cs : Nat → Int32} {s : Nat → Int32} {k cl : Nat} (hN0 : i + 3 ≤ N) (hE0 : E i = .inr (2, [.ref (ad (i + 1)), .ref (ad (i + 2)), .int (nI pg), .int (nI cm), .int lst, .int md, .int sd, .int (nI hd)])) (hE1 : E (i + 1) = eI G 500 cs) (hag : agr cs s pg) (hp : pg ≤ 10) (hk : k < pg) (hcl : cl < 50) (hc5 : ¬ cl = 5) : MI l yX5_get wsX5_get ({ frames := 0, cells := 0, slots := 0, locals := 0 } : Room) G tC ad N E [.ref (ad i), .int (nI k), .int (nI cl)] (fun r E2 => E2 = E ∧ r = s (8 + 50 * k + cl)) := by
  refine MI_of RX5 rfl (by decide) rfl (Nat.le_of_ble_eq_true rfl) ?_
  intro pp_ ee_ ss_ mm_ aa_ bb_ me_ cc_ A ls C hw hl
  have hx := C.1
  have hb := C.2.1
  have hown := C.2.2.2.2.1
  have hts := C.2.2.2.2.2.1
  have hl : lv_has ls 4 [(0, .ref (ad i)), (1, .int (nI k)), (2, .int (nI cl))] := hl
  have hinX5 : ∀ w ∈ u_ws RX5 TX5 8, w ∈ wsX5_get := by decide +kernel
  refine lv_iload_n hx hb dX5_get_0 rfl (lv_at hl 1 rfl) ?_
  refine lv_bipush (v := nI 50) hx hb dX5_get_1 rfl ?_
  refine lv_imul hx hb dX5_get_3 ?_
  refine r_nat (k * 50) (pk_mul _ _) ?_
  refine lv_iload_n hx hb dX5_get_4 rfl (lv_at hl 2 rfl) ?_
  refine lv_iadd hx hb dX5_get_5 ?_
  refine r_nat (k * 50 + cl) (nI_add _ _) ?_
  refine lv_istore_n (lv' := [(3, .int (nI (k * 50 + cl))), (0, .ref (ad i)), (1, .int (nI k)), (2, .int (nI cl))]) hx hb dX5_get_6 rfl hl (by decide) rfl (fun ls hl => ?_)
  refine lv_iload_n hx hb dX5_get_7 rfl (lv_at hl 0 rfl) ?_
  refine n_if_lt (tgt := 20) hx hb dX5_get_8 (by decide) (by omega) (fun zc8 => ?_) (fun zc8 => ?_)
  · exact zc8.elim
  · refine lv_iload_n hx hb dX5_get_11 rfl (lv_at hl 0 rfl) ?_
    refine lv_aload_n hx hb dX5_get_12 rfl (lv_at hl 1 rfl) ?_
    refine r_get C hw RX5 TX5 8 2 hinX5 (i := i) (by omega) hE0 rfl 0 (by decide) (by decide +kernel) rfl (v := .ref (ad (i + 1))) rfl dX5_get_13 ?_
    refine r_alenI C hw (i := (i + 1)) (by omega) hE1 dX5_get_16 ?_
    refine n_icmp_lt (tgt := 24) hx hb dX5_get_17 (by decide) (by omega) (by omega) (fun zc17 => ?_) (fun zc17 => ?_)
    · refine lv_aload_n hx hb dX5_get_24 rfl (lv_at hl 1 rfl) ?_
      refine r_get C hw RX5 TX5 8 2 hinX5 (i := i) (by omega) hE0 rfl 0 (by decide) (by decide +kernel) rfl (v := .ref (ad (i + 1))) rfl dX5_get_25 ?_
      refine lv_iload_n hx hb dX5_get_28 rfl (lv_at hl 0 rfl) ?_
      refine r_iaN C hw (i := (i + 1)) (by omega) hE1 (j := k * 50 + cl) (by omega) (by omega) dX5_get_29 ?_
      exact r_iret C hw dX5_get_30 ⟨rfl, (by exact hag k cl hk hcl hc5)⟩
    · exact absurd zc17 (by omega)

set_option maxHeartbeats 4000000 in
set_option maxRecDepth 100000 in
theorem c_X5_linkAt_s {l : Launch} {G : vG} {tC : Nat} {ad : Nat → Nat} {N : Nat} {E : Nat → va_E} {i pg cm hd : Nat} {lst md sd : Int32} {cs : Nat → Int32} {s : Nat → Int32} {k j : Nat} (hN0 : i + 3 ≤ N) (hE0 : E i = .inr (2, [.ref (ad (i + 1)), .ref (ad (i + 2)), .int (nI pg), .int (nI cm), .int lst, .int md, .int sd, .int (nI hd)])) (hE1 : E (i + 1) = eI G 500 cs) (hag : agr cs s pg) (hp : pg ≤ 10) (hk : k < pg) (hj : j < 4) : MI l yX5_linkAt wsX5_linkAt ({ frames := 1, cells := 0, slots := 0, locals := 23 } : Room) G tC ad N E [.ref (ad i), .int (nI k), .int (nI j)] (fun r E2 => E2 = E ∧ r = lkL s k j) := by
  refine MI_of RX5 rfl (by decide) rfl (Nat.le_of_ble_eq_true rfl) ?_
  intro pp_ ee_ ss_ mm_ aa_ bb_ me_ cc_ A ls C hw hl
  have hx := C.1
  have hb := C.2.1
  have hown := C.2.2.2.2.1
  have hts := C.2.2.2.2.2.1
  have hl : lv_has ls 3 [(0, .ref (ad i)), (1, .int (nI k)), (2, .int (nI j))] := hl
  refine lv_aload_n hx hb dX5_linkAt_0 rfl (lv_at hl 0 rfl) ?_
  refine lv_iload_n hx hb dX5_linkAt_1 rfl (lv_at hl 1 rfl) ?_
  refine lv_bipush (v := nI 6) hx hb dX5_linkAt_2 rfl ?_
  refine lv_iload_n hx hb dX5_linkAt_4 rfl (lv_at hl 2 rfl) ?_
  refine lv_iadd hx hb dX5_linkAt_5 ?_
  refine r_nat (6 + j) (nI_add _ _) ?_
  refine r_vI C hw hl.1 (i := i) (by omega) hE0 (T := TX5) (n := 8) rfl [.int (nI k), .int (nI (6 + j))] 2 rfl (c_X5_get_s (l := l) (G := G) (tC := tC) (ad := ad) (N := N) (E := E) (i := i) (pg := pg) (cm := cm) (hd := hd) (lst := lst) (md := md) (sd := sd) (cs := cs) (s := s) (k := k) (cl := 6 + j) (by omega) hE0 hE1 (by first | assumption | omega) (by first | assumption | omega) (by first | assumption | omega) (by first | assumption | omega) (by first | assumption | omega)) gX5_linkAt_X5_get rfl ⟨rfl, rfl⟩ (by decide +kernel) ⟨Nat.le_of_ble_eq_true rfl, Nat.le_of_ble_eq_true rfl⟩ (rest := []) rfl (Nat.le_of_ble_eq_true rfl) dX5_linkAt_6 ⟨Nat.zero_le _, Nat.zero_le _⟩ (fun zr1 zE1 zH1 zL1 zp1 zw1 => ?_)
  obtain ⟨ze1, zq1⟩ := zp1
  rw [ze1] at zw1
  clear ze1
  rw [zq1]
  exact r_iret C zw1 dX5_linkAt_9 ⟨rfl, (by rfl)⟩

set_option maxHeartbeats 4000000 in
set_option maxRecDepth 100000 in
theorem c_X5_letterAt_s {l : Launch} {G : vG} {tC : Nat} {ad : Nat → Nat} {N : Nat} {E : Nat → va_E} {i pg cm hd : Nat} {lst md sd : Int32} {cs : Nat → Int32} {s : Nat → Int32} {k row j : Nat} (hN0 : i + 3 ≤ N) (hE0 : E i = .inr (2, [.ref (ad (i + 1)), .ref (ad (i + 2)), .int (nI pg), .int (nI cm), .int lst, .int md, .int sd, .int (nI hd)])) (hE1 : E (i + 1) = eI G 500 cs) (hag : agr cs s pg) (hp : pg ≤ 10) (hk : k < pg) (hrow : row < 5) (hj : j < 8) : MI l yX5_letterAt wsX5_letterAt ({ frames := 1, cells := 0, slots := 0, locals := 23 } : Room) G tC ad N E [.ref (ad i), .int (nI k), .int (nI row), .int (nI j)] (fun r E2 => E2 = E ∧ r = ltF s k (8 * row + j)) := by
  refine MI_of RX5 rfl (by decide) rfl (Nat.le_of_ble_eq_true rfl) ?_
  intro pp_ ee_ ss_ mm_ aa_ bb_ me_ cc_ A ls C hw hl
  have hx := C.1
  have hb := C.2.1
  have hown := C.2.2.2.2.1
  have hts := C.2.2.2.2.2.1
  have hl : lv_has ls 4 [(0, .ref (ad i)), (1, .int (nI k)), (2, .int (nI row)), (3, .int (nI j))] := hl
  refine lv_aload_n hx hb dX5_letterAt_0 rfl (lv_at hl 0 rfl) ?_
  refine lv_iload_n hx hb dX5_letterAt_1 rfl (lv_at hl 1 rfl) ?_
  refine lv_bipush (v := nI 10) hx hb dX5_letterAt_2 rfl ?_
  refine lv_iload_n hx hb dX5_letterAt_4 rfl (lv_at hl 2 rfl) ?_
  refine lv_bipush (v := nI 8) hx hb dX5_letterAt_5 rfl ?_
  refine lv_imul hx hb dX5_letterAt_7 ?_
  refine r_nat (row * 8) (pk_mul _ _) ?_
  refine lv_iadd hx hb dX5_letterAt_8 ?_
  refine r_nat (10 + row * 8) (nI_add _ _) ?_
  refine lv_iload_n hx hb dX5_letterAt_9 rfl (lv_at hl 3 rfl) ?_
  refine lv_iadd hx hb dX5_letterAt_10 ?_
  refine r_nat (10 + row * 8 + j) (nI_add _ _) ?_
  refine r_vI C hw hl.1 (i := i) (by omega) hE0 (T := TX5) (n := 8) rfl [.int (nI k), .int (nI (10 + row * 8 + j))] 2 rfl (c_X5_get_s (l := l) (G := G) (tC := tC) (ad := ad) (N := N) (E := E) (i := i) (pg := pg) (cm := cm) (hd := hd) (lst := lst) (md := md) (sd := sd) (cs := cs) (s := s) (k := k) (cl := 10 + row * 8 + j) (by omega) hE0 hE1 (by first | assumption | omega) (by first | assumption | omega) (by first | assumption | omega) (by first | assumption | omega) (by first | assumption | omega)) gX5_letterAt_X5_get rfl ⟨rfl, rfl⟩ (by decide +kernel) ⟨Nat.le_of_ble_eq_true rfl, Nat.le_of_ble_eq_true rfl⟩ (rest := []) rfl (Nat.le_of_ble_eq_true rfl) dX5_letterAt_11 ⟨Nat.zero_le _, Nat.zero_le _⟩ (fun zr1 zE1 zH1 zL1 zp1 zw1 => ?_)
  obtain ⟨ze1, zq1⟩ := zp1
  rw [ze1] at zw1
  clear ze1
  rw [zq1]
  exact r_iret C zw1 dX5_letterAt_14 ⟨rfl, (by show s _ = s _; congr 1; omega)⟩

set_option maxHeartbeats 4000000 in
set_option maxRecDepth 100000 in
theorem c_X0_hasLetters {l : Launch} {G : vG} {tC : Nat} {ad : Nat → Nat} {N : Nat} {E : Nat → va_E} {i pg cm hd : Nat} {lst md sd : Int32} {cs : Nat → Int32} {s : Nat → Int32} {k row : Nat} (hN0 : i + 3 ≤ N) (hE0 : E i = .inr (2, [.ref (ad (i + 1)), .ref (ad (i + 2)), .int (nI pg), .int (nI cm), .int lst, .int md, .int sd, .int (nI hd)])) (hE1 : E (i + 1) = eI G 500 cs) (hag : agr cs s pg) (hp : pg ≤ 10) (hk : k < pg) (hrow : row < 5) : MI l yX0_hasLetters wsX0_hasLetters ({ frames := 2, cells := 0, slots := 0, locals := 46 } : Room) G tC ad N E [.ref (ad i), .int (nI k), .int (nI row)] (fun r E2 => E2 = E ∧ r = if ¬ rowE (ltF s k) row then 1 else 0) := by
  refine MI_of RX0 rfl (by decide) rfl (Nat.le_of_ble_eq_true rfl) ?_
  intro pp_ ee_ ss_ mm_ aa_ bb_ me_ cc_ A ls C hw hl
  have hx := C.1
  have hb := C.2.1
  have hown := C.2.2.2.2.1
  have hts := C.2.2.2.2.2.1
  have hl : lv_has ls 4 [(0, .ref (ad i)), (1, .int (nI k)), (2, .int (nI row))] := hl
  refine lv_iconst (v := nI 0) hx hb dX0_hasLetters_0 rfl ?_
  refine lv_istore_n (lv' := [(3, .int (nI 0)), (0, .ref (ad i)), (1, .int (nI k)), (2, .int (nI row))]) hx hb dX0_hasLetters_1 rfl hl (by decide) rfl (fun ls hl => ?_)
  have zlp2 : ∀ (zn : Nat) (j : Nat), 8 - j < zn → (j ≤ 8) → (∀ x, x < j → ltF s k (8 * row + x) = -1) → ∀ (H9 : Heap) (L9 : List Loc), Wd G A ss_.heap H9 L9 ad E N → ∀ (ls : Array Slot), lv_has ls 4 [(0, .ref (ad i)), (1, .int (nI k)), (2, .int (nI row)), (3, .int (nI j))] → W pp_ l ee_ ({ frames := 2, cells := 0, slots := 0, locals := 46 } : Room) ss_ mm_ aa_ bb_ me_ cc_ H9 L9 0 0 (QI bb_ aa_ ss_ G ad N A (fun r E2 => E2 = E ∧ r = if ¬ rowE (ltF s k) row then 1 else 0)) (F0 mm_ 2 ls []) := by
    intro zn
    induction zn with
    | zero => intro j zhm; exact absurd zhm (Nat.not_lt_zero _)
    | succ zn zih2 =>
      intro j zhm2 hj hn zH_2 zL_2 zlw2 ls hl
      refine lv_iload_n hx hb dX0_hasLetters_2 rfl (lv_at hl 3 rfl) ?_
      refine lv_bipush (v := nI 8) hx hb dX0_hasLetters_3 rfl ?_
      refine n_icmp_ge (tgt := 27) hx hb dX0_hasLetters_5 (by decide) (by omega) (by omega) (fun zc5 => ?_) (fun zc5 => ?_)
      · refine lv_iconst (v := nI 0) hx hb dX0_hasLetters_27 rfl ?_
        exact r_zret C zlw2 dX0_hasLetters_28 (Or.inl rfl) ⟨rfl, (by rw [if_neg (fun zq => zq (fun x hx => hn x (by omega)))]; rfl)⟩
      · refine lv_aload_n hx hb dX0_hasLetters_8 rfl (lv_at hl 0 rfl) ?_
        refine lv_iload_n hx hb dX0_hasLetters_9 rfl (lv_at hl 1 rfl) ?_
        refine lv_iload_n hx hb dX0_hasLetters_10 rfl (lv_at hl 2 rfl) ?_
        refine lv_iload_n hx hb dX0_hasLetters_11 rfl (lv_at hl 3 rfl) ?_
        refine r_vI C zlw2 hl.1 (i := i) (by omega) hE0 (T := TX5) (n := 8) rfl [.int (nI k), .int (nI row), .int (nI j)] 3 rfl (c_X5_letterAt_s (l := l) (G := G) (tC := tC) (ad := ad) (N := N) (E := E) (i := i) (pg := pg) (cm := cm) (hd := hd) (lst := lst) (md := md) (sd := sd) (cs := cs) (s := s) (k := k) (row := row) (j := j) (by omega) hE0 hE1 (by first | assumption | omega) (by first | assumption | omega) (by first | assumption | omega) (by first | assumption | omega) (by first | assumption | omega)) gX0_hasLetters_X5_letterAt rfl ⟨rfl, rfl⟩ (by decide +kernel) ⟨Nat.le_of_ble_eq_true rfl, Nat.le_of_ble_eq_true rfl⟩ (rest := []) rfl (Nat.le_of_ble_eq_true rfl) dX0_hasLetters_12 ⟨Nat.zero_le _, Nat.zero_le _⟩ (fun zr1 zE1 zH1 zL1 zp1 zw1 => ?_)
        obtain ⟨ze1, zq1⟩ := zp1
        rw [ze1] at zw1
        clear ze1
        rw [zq1]
        refine lv_iconst (v := -1) hx hb dX0_hasLetters_15 (by decide) ?_
        refine lv_icmp_eq (tgt := 21) hx hb dX0_hasLetters_16 (by decide) (fun zc16 => ?_) (fun zc16 => ?_)
        · refine lv_iinc (v := nI (j + 1)) (lv' := [(3, .int (nI (j + 1))), (0, .ref (ad i)), (1, .int (nI k)), (2, .int (nI row))]) hx hb dX0_hasLetters_21 hl (k := 3) rfl (by rw [show Int32.ofInt 1 = nI 1 from rfl, nI_add]) (by decide) rfl (fun ls hl => ?_)
          refine lv_goto (tgt := 2) hx hb dX0_hasLetters_24 (by decide) ?_
          exact zih2 (j + 1) (by omega) (by omega) (by exact lt_s hn zc16) _ _ zw1 _ (lv_sub hl [1, 2, 3, 0] rfl)
        · refine lv_iconst (v := nI 1) hx hb dX0_hasLetters_19 rfl ?_
          exact r_zret C zw1 dX0_hasLetters_20 (Or.inr rfl) ⟨rfl, (by rw [if_pos (fun zq => zc16 (zq j (by omega)))]; rfl)⟩
  exact zlp2 _ 0 (Nat.lt_succ_self _) (by omega) (by intro x hx; exact absurd hx (Nat.not_lt_zero x)) _ _ hw _ (lv_sub hl [1, 2, 3, 0] rfl)

set_option maxHeartbeats 4000000 in
set_option maxRecDepth 100000 in
theorem c_X0_hasLinks {l : Launch} {G : vG} {tC : Nat} {ad : Nat → Nat} {N : Nat} {E : Nat → va_E} {i pg cm hd : Nat} {lst md sd : Int32} {cs : Nat → Int32} {s : Nat → Int32} {k : Nat} (hN0 : i + 3 ≤ N) (hE0 : E i = .inr (2, [.ref (ad (i + 1)), .ref (ad (i + 2)), .int (nI pg), .int (nI cm), .int lst, .int md, .int sd, .int (nI hd)])) (hE1 : E (i + 1) = eI G 500 cs) (hag : agr cs s pg) (hp : pg ≤ 10) (hk : k < pg) : MI l yX0_hasLinks wsX0_hasLinks ({ frames := 2, cells := 0, slots := 0, locals := 45 } : Room) G tC ad N E [.ref (ad i), .int (nI k)] (fun r E2 => E2 = E ∧ r = if anyL (lkL s k) 4 then 1 else 0) := by
  refine MI_of RX0 rfl (by decide) rfl (Nat.le_of_ble_eq_true rfl) ?_
  intro pp_ ee_ ss_ mm_ aa_ bb_ me_ cc_ A ls C hw hl
  have hx := C.1
  have hb := C.2.1
  have hown := C.2.2.2.2.1
  have hts := C.2.2.2.2.2.1
  have hl : lv_has ls 3 [(0, .ref (ad i)), (1, .int (nI k))] := hl
  refine lv_iconst (v := nI 0) hx hb dX0_hasLinks_0 rfl ?_
  refine lv_istore_n (lv' := [(2, .int (nI 0)), (0, .ref (ad i)), (1, .int (nI k))]) hx hb dX0_hasLinks_1 rfl hl (by decide) rfl (fun ls hl => ?_)
  have zlp2 : ∀ (zn : Nat) (j : Nat), 4 - j < zn → (j ≤ 4) → (∀ x, x < j → lkL s k x = -1) → ∀ (H9 : Heap) (L9 : List Loc), Wd G A ss_.heap H9 L9 ad E N → ∀ (ls : Array Slot), lv_has ls 3 [(0, .ref (ad i)), (1, .int (nI k)), (2, .int (nI j))] → W pp_ l ee_ ({ frames := 2, cells := 0, slots := 0, locals := 45 } : Room) ss_ mm_ aa_ bb_ me_ cc_ H9 L9 0 0 (QI bb_ aa_ ss_ G ad N A (fun r E2 => E2 = E ∧ r = if anyL (lkL s k) 4 then 1 else 0)) (F0 mm_ 2 ls []) := by
    intro zn
    induction zn with
    | zero => intro j zhm; exact absurd zhm (Nat.not_lt_zero _)
    | succ zn zih2 =>
      intro j zhm2 hj hn zH_2 zL_2 zlw2 ls hl
      refine lv_iload_n hx hb dX0_hasLinks_2 rfl (lv_at hl 2 rfl) ?_
      refine lv_iconst (v := nI 4) hx hb dX0_hasLinks_3 rfl ?_
      refine n_icmp_ge (tgt := 25) hx hb dX0_hasLinks_4 (by decide) (by omega) (by omega) (fun zc4 => ?_) (fun zc4 => ?_)
      · refine lv_iconst (v := nI 0) hx hb dX0_hasLinks_25 rfl ?_
        exact r_zret C zlw2 dX0_hasLinks_26 (Or.inl rfl) ⟨rfl, (by rw [if_neg (fun zq => zq (fun x hx => hn x (by omega)))]; rfl)⟩
      · refine lv_aload_n hx hb dX0_hasLinks_7 rfl (lv_at hl 0 rfl) ?_
        refine lv_iload_n hx hb dX0_hasLinks_8 rfl (lv_at hl 1 rfl) ?_
        refine lv_iload_n hx hb dX0_hasLinks_9 rfl (lv_at hl 2 rfl) ?_
        refine r_vI C zlw2 hl.1 (i := i) (by omega) hE0 (T := TX5) (n := 8) rfl [.int (nI k), .int (nI j)] 2 rfl (c_X5_linkAt_s (l := l) (G := G) (tC := tC) (ad := ad) (N := N) (E := E) (i := i) (pg := pg) (cm := cm) (hd := hd) (lst := lst) (md := md) (sd := sd) (cs := cs) (s := s) (k := k) (j := j) (by omega) hE0 hE1 (by first | assumption | omega) (by first | assumption | omega) (by first | assumption | omega) (by first | assumption | omega)) gX0_hasLinks_X5_linkAt rfl ⟨rfl, rfl⟩ (by decide +kernel) ⟨Nat.le_of_ble_eq_true rfl, Nat.le_of_ble_eq_true rfl⟩ (rest := []) rfl (Nat.le_of_ble_eq_true rfl) dX0_hasLinks_10 ⟨Nat.zero_le _, Nat.zero_le _⟩ (fun zr1 zE1 zH1 zL1 zp1 zw1 => ?_)
        obtain ⟨ze1, zq1⟩ := zp1
        rw [ze1] at zw1
        clear ze1
        rw [zq1]
        refine lv_iconst (v := -1) hx hb dX0_hasLinks_13 (by decide) ?_
        refine lv_icmp_eq (tgt := 19) hx hb dX0_hasLinks_14 (by decide) (fun zc14 => ?_) (fun zc14 => ?_)
        · refine lv_iinc (v := nI (j + 1)) (lv' := [(2, .int (nI (j + 1))), (0, .ref (ad i)), (1, .int (nI k))]) hx hb dX0_hasLinks_19 hl (k := 2) rfl (by rw [show Int32.ofInt 1 = nI 1 from rfl, nI_add]) (by decide) rfl (fun ls hl => ?_)
          refine lv_goto (tgt := 2) hx hb dX0_hasLinks_22 (by decide) ?_
          exact zih2 (j + 1) (by omega) (by omega) (by exact lt_s hn zc14) _ _ zw1 _ (lv_sub hl [1, 2, 0] rfl)
        · refine lv_iconst (v := nI 1) hx hb dX0_hasLinks_17 rfl ?_
          exact r_zret C zw1 dX0_hasLinks_18 (Or.inr rfl) ⟨rfl, (by rw [if_pos (fun zq => zc14 (zq j (by omega)))]; rfl)⟩
  exact zlp2 _ 0 (Nat.lt_succ_self _) (by omega) (by intro x hx; exact absurd hx (Nat.not_lt_zero x)) _ _ hw _ (lv_sub hl [1, 2, 0] rfl)

set_option maxHeartbeats 4000000 in
set_option maxRecDepth 100000 in
theorem c_X0_lacks {l : Launch} {G : vG} {tC : Nat} {ad : Nat → Nat} {N : Nat} {E : Nat → va_E} {i pg cm hd : Nat} {lst md sd : Int32} {cs : Nat → Int32} {s : Nat → Int32} {k : Nat} (hN0 : i + 3 ≤ N) (hE0 : E i = .inr (2, [.ref (ad (i + 1)), .ref (ad (i + 2)), .int (nI pg), .int (nI cm), .int lst, .int md, .int sd, .int (nI hd)])) (hE1 : E (i + 1) = eI G 500 cs) (hag : agr cs s pg) (hp : pg ≤ 10) (hk : k < pg) : MI l yX0_lacks wsX0_lacks ({ frames := 3, cells := 0, slots := 0, locals := 69 } : Room) G tC ad N E [.ref (ad i), .int (nI k)] (fun r E2 => E2 = E ∧ r = nI (lacN (ltF s k))) := by
  refine MI_of RX0 rfl (by decide) rfl (Nat.le_of_ble_eq_true rfl) ?_
  intro pp_ ee_ ss_ mm_ aa_ bb_ me_ cc_ A ls C hw hl
  have hx := C.1
  have hb := C.2.1
  have hown := C.2.2.2.2.1
  have hts := C.2.2.2.2.2.1
  have hl : lv_has ls 4 [(0, .ref (ad i)), (1, .int (nI k))] := hl
  refine lv_iconst (v := nI 0) hx hb dX0_lacks_0 rfl ?_
  refine lv_istore_n (lv' := [(2, .int (nI 0)), (0, .ref (ad i)), (1, .int (nI k))]) hx hb dX0_lacks_1 rfl hl (by decide) rfl (fun ls hl => ?_)
  refine lv_iconst (v := nI 0) hx hb dX0_lacks_2 rfl ?_
  refine lv_istore_n (lv' := [(3, .int (nI 0)), (2, .int (nI 0)), (0, .ref (ad i)), (1, .int (nI k))]) hx hb dX0_lacks_3 rfl hl (by decide) rfl (fun ls hl => ?_)
  have zlp4 : ∀ (zn : Nat) (a row : Nat), 5 - row < zn → (row ≤ 5) → (a = acR (ltF s k) row) → ∀ (H9 : Heap) (L9 : List Loc), Wd G A ss_.heap H9 L9 ad E N → ∀ (ls : Array Slot), lv_has ls 4 [(0, .ref (ad i)), (1, .int (nI k)), (2, .int (nI a)), (3, .int (nI row))] → W pp_ l ee_ ({ frames := 3, cells := 0, slots := 0, locals := 69 } : Room) ss_ mm_ aa_ bb_ me_ cc_ H9 L9 0 0 (QI bb_ aa_ ss_ G ad N A (fun r E2 => E2 = E ∧ r = nI (lacN (ltF s k)))) (F0 mm_ 4 ls []) := by
    intro zn
    induction zn with
    | zero => intro a row zhm; exact absurd zhm (Nat.not_lt_zero _)
    | succ zn zih4 =>
      intro a row zhm4 hr ha zH_4 zL_4 zlw4 ls hl
      refine lv_iload_n hx hb dX0_lacks_4 rfl (lv_at hl 3 rfl) ?_
      refine lv_iconst (v := nI 5) hx hb dX0_lacks_5 rfl ?_
      refine n_icmp_ge (tgt := 30) hx hb dX0_lacks_6 (by decide) (by omega) (by omega) (fun zc6 => ?_) (fun zc6 => ?_)
      · refine lv_iload_n hx hb dX0_lacks_30 rfl (lv_at hl 2 rfl) ?_
        exact r_iret C zlw4 dX0_lacks_31 ⟨rfl, (by rw [ha, show row = 5 by omega]; rfl)⟩
      · refine lv_aload_n hx hb dX0_lacks_9 rfl (lv_at hl 0 rfl) ?_
        refine lv_iload_n hx hb dX0_lacks_10 rfl (lv_at hl 1 rfl) ?_
        refine lv_iload_n hx hb dX0_lacks_11 rfl (lv_at hl 3 rfl) ?_
        refine r_sI C zlw4 hl.1 [.ref (ad i), .int (nI k), .int (nI row)] 3 rfl (c_X0_hasLetters (l := l) (G := G) (tC := tC) (ad := ad) (N := N) (E := E) (i := i) (pg := pg) (cm := cm) (hd := hd) (lst := lst) (md := md) (sd := sd) (cs := cs) (s := s) (k := k) (row := row) (by omega) hE0 hE1 (by first | assumption | omega) (by first | assumption | omega) (by first | assumption | omega) (by first | assumption | omega)) gX0_lacks_X0_hasLetters rfl ⟨rfl, rfl⟩ (by decide +kernel) ⟨Nat.le_of_ble_eq_true rfl, Nat.le_of_ble_eq_true rfl⟩ (rest := []) rfl (Nat.le_of_ble_eq_true rfl) dX0_lacks_12 ⟨Nat.zero_le _, Nat.zero_le _⟩ (fun zr1 zE1 zH1 zL1 zp1 zw1 => ?_)
        obtain ⟨ze1, zq1⟩ := zp1
        rw [ze1] at zw1
        clear ze1
        rw [zq1]
        refine b_if_ne (tgt := 24) hx hb dX0_lacks_15 (by decide) (fun zc15 => ?_) (fun zc15 => ?_)
        · refine lv_iinc (v := nI (row + 1)) (lv' := [(3, .int (nI (row + 1))), (0, .ref (ad i)), (1, .int (nI k)), (2, .int (nI a))]) hx hb dX0_lacks_24 hl (k := 3) rfl (by rw [show Int32.ofInt 1 = nI 1 from rfl, nI_add]) (by decide) rfl (fun ls hl => ?_)
          refine lv_goto (tgt := 4) hx hb dX0_lacks_27 (by decide) ?_
          exact zih4 a (row + 1) (by omega) (by omega) (by first | rw [acR_n zc15, ha] | rw [acR_y (Classical.byContradiction zc15), ha]) _ _ zw1 _ (lv_sub hl [1, 2, 3, 0] rfl)
        · refine lv_iload_n hx hb dX0_lacks_18 rfl (lv_at hl 2 rfl) ?_
          refine lv_iconst (v := nI 1) hx hb dX0_lacks_19 rfl ?_
          refine lv_iload_n hx hb dX0_lacks_20 rfl (lv_at hl 3 rfl) ?_
          refine lv_ishl hx hb dX0_lacks_21 ?_
          refine lv_ior hx hb dX0_lacks_22 ?_
          refine r_nat (a + 2 ^ row) (or_acR row (by omega) a (by rw [ha]; exact acR_32 _ hr) (by rw [ha]; exact acR_lt _ _)) ?_
          refine lv_istore_n (lv' := [(2, .int (nI (a + 2 ^ row))), (0, .ref (ad i)), (1, .int (nI k)), (3, .int (nI row))]) hx hb dX0_lacks_23 rfl hl (by decide) rfl (fun ls hl => ?_)
          refine lv_iinc (v := nI (row + 1)) (lv' := [(3, .int (nI (row + 1))), (2, .int (nI (a + 2 ^ row))), (0, .ref (ad i)), (1, .int (nI k))]) hx hb dX0_lacks_24 hl (k := 3) rfl (by rw [show Int32.ofInt 1 = nI 1 from rfl, nI_add]) (by decide) rfl (fun ls hl => ?_)
          refine lv_goto (tgt := 4) hx hb dX0_lacks_27 (by decide) ?_
          exact zih4 (a + 2 ^ row) (row + 1) (by omega) (by omega) (by first | rw [acR_n zc15, ha] | rw [acR_y (Classical.byContradiction zc15), ha]) _ _ zw1 _ (lv_sub hl [2, 3, 1, 0] rfl)
  exact zlp4 _ 0 0 (Nat.lt_succ_self _) (by omega) (by rfl) _ _ hw _ (lv_sub hl [2, 3, 1, 0] rfl)

set_option maxHeartbeats 4000000 in
set_option maxRecDepth 100000 in
theorem c_X0_length {l : Launch} {G : vG} {tC : Nat} {ad : Nat → Nat} {N : Nat} {E : Nat → va_E} {i pg cm hd : Nat} {lst md sd : Int32} {cs : Nat → Int32} {s : Nat → Int32} {k : Nat} (hN0 : i + 3 ≤ N) (hE0 : E i = .inr (2, [.ref (ad (i + 1)), .ref (ad (i + 2)), .int (nI pg), .int (nI cm), .int lst, .int md, .int sd, .int (nI hd)])) (hE1 : E (i + 1) = eI G 500 cs) (hag : agr cs s pg) (hp : pg ≤ 10) (hk : k < pg) : MI l yX0_length wsX0_length ({ frames := 4, cells := 0, slots := 0, locals := 92 } : Room) G tC ad N E [.ref (ad i), .int (nI k)] (fun r E2 => E2 = E ∧ r = nI (lenN (lkL s k) (ltF s k))) := by
  refine MI_of RX0 rfl (by decide) rfl (Nat.le_of_ble_eq_true rfl) ?_
  intro pp_ ee_ ss_ mm_ aa_ bb_ me_ cc_ A ls C hw hl
  have hx := C.1
  have hb := C.2.1
  have hown := C.2.2.2.2.1
  have hts := C.2.2.2.2.2.1
  have hl : lv_has ls 3 [(0, .ref (ad i)), (1, .int (nI k))] := hl
  refine lv_iconst (v := nI 5) hx hb dX0_length_0 rfl ?_
  refine lv_aload_n hx hb dX0_length_1 rfl (lv_at hl 0 rfl) ?_
  refine lv_iload_n hx hb dX0_length_2 rfl (lv_at hl 1 rfl) ?_
  refine r_sI C hw hl.1 [.ref (ad i), .int (nI k)] 2 rfl (c_X0_lacks (l := l) (G := G) (tC := tC) (ad := ad) (N := N) (E := E) (i := i) (pg := pg) (cm := cm) (hd := hd) (lst := lst) (md := md) (sd := sd) (cs := cs) (s := s) (k := k) (by omega) hE0 hE1 (by first | assumption | omega) (by first | assumption | omega) (by first | assumption | omega)) gX0_length_X0_lacks rfl ⟨rfl, rfl⟩ (by decide +kernel) ⟨Nat.le_of_ble_eq_true rfl, Nat.le_of_ble_eq_true rfl⟩ (rest := [.int (nI 5)]) rfl (Nat.le_of_ble_eq_true rfl) dX0_length_3 ⟨Nat.zero_le _, Nat.zero_le _⟩ (fun zr1 zE1 zH1 zL1 zp1 zw1 => ?_)
  obtain ⟨ze1, zq1⟩ := zp1
  rw [ze1] at zw1
  clear ze1
  rw [zq1]
  refine r_sI C zw1 hl.1 [.int (nI (lacN (ltF s k)))] 1 rfl (c_J6_bitCount_0f7a4 (l := l) (G := G) (tC := tC) (ad := ad) (N := N) (E := E) (n := lacN (ltF s k))   (by have := lacN_lt (ltF s k); omega)) gX0_length_J6_bitCount_0f7a4 rfl ⟨rfl, rfl⟩ (by decide +kernel) ⟨Nat.le_of_ble_eq_true rfl, Nat.le_of_ble_eq_true rfl⟩ (rest := [.int (nI 5)]) rfl (Nat.le_of_ble_eq_true rfl) dX0_length_6 ⟨Nat.zero_le _, Nat.zero_le _⟩ (fun zr2 zE2 zH2 zL2 zp2 zw2 => ?_)
  obtain ⟨ze2, zq2⟩ := zp2
  rw [ze2] at zw2
  clear ze2
  rw [zq2]
  refine lv_isub hx hb dX0_length_9 ?_
  refine r_nat (5 - pc8 (lacN (ltF s k))) (pk_sub (pc8_lac _)) ?_
  refine lv_istore_n (lv' := [(2, .int (nI (5 - pc8 (lacN (ltF s k))))), (0, .ref (ad i)), (1, .int (nI k))]) hx hb dX0_length_10 rfl hl (by decide) rfl (fun ls hl => ?_)
  refine lv_iconst (v := nI 1) hx hb dX0_length_11 rfl ?_
  refine lv_iload_n hx hb dX0_length_12 rfl (lv_at hl 0 rfl) ?_
  refine lv_iadd hx hb dX0_length_13 ?_
  refine r_nat (1 + (5 - pc8 (lacN (ltF s k)))) (nI_add _ _) ?_
  refine lv_aload_n hx hb dX0_length_14 rfl (lv_at hl 1 rfl) ?_
  refine lv_iload_n hx hb dX0_length_15 rfl (lv_at hl 2 rfl) ?_
  refine r_sI C zw2 hl.1 [.ref (ad i), .int (nI k)] 2 rfl (c_X0_hasLinks (l := l) (G := G) (tC := tC) (ad := ad) (N := N) (E := E) (i := i) (pg := pg) (cm := cm) (hd := hd) (lst := lst) (md := md) (sd := sd) (cs := cs) (s := s) (k := k) (by omega) hE0 hE1 (by first | assumption | omega) (by first | assumption | omega) (by first | assumption | omega)) gX0_length_X0_hasLinks rfl ⟨rfl, rfl⟩ (by decide +kernel) ⟨Nat.le_of_ble_eq_true rfl, Nat.le_of_ble_eq_true rfl⟩ (rest := [.int (nI (1 + (5 - pc8 (lacN (ltF s k)))))]) rfl (Nat.le_of_ble_eq_true rfl) dX0_length_16 ⟨Nat.zero_le _, Nat.zero_le _⟩ (fun zr3 zE3 zH3 zL3 zp3 zw3 => ?_)
  obtain ⟨ze3, zq3⟩ := zp3
  rw [ze3] at zw3
  clear ze3
  rw [zq3]
  refine b_if_eq (tgt := 26) hx hb dX0_length_19 (by decide) (fun zc19 => ?_) (fun zc19 => ?_)
  · refine lv_iconst (v := nI 0) hx hb dX0_length_26 rfl ?_
    refine lv_iadd hx hb dX0_length_27 ?_
    refine r_nat ((1 + (5 - pc8 (lacN (ltF s k)))) + 0) (nI_add _ _) ?_
    exact r_iret C zw3 dX0_length_28 ⟨rfl, (by congr 1; rw [lenN]; first | (rw [if_pos zc19]; omega) | (rw [if_neg zc19]; omega))⟩
  · refine lv_iconst (v := nI 1) hx hb dX0_length_22 rfl ?_
    refine lv_goto (tgt := 27) hx hb dX0_length_23 (by decide) ?_
    refine lv_iadd hx hb dX0_length_27 ?_
    refine r_nat ((1 + (5 - pc8 (lacN (ltF s k)))) + 1) (nI_add _ _) ?_
    exact r_iret C zw3 dX0_length_28 ⟨rfl, (by congr 1; rw [lenN]; first | (rw [if_pos zc19]; omega) | (rw [if_neg zc19]; omega))⟩

set_option maxHeartbeats 4000000 in
set_option maxRecDepth 100000 in
theorem c_X0_sureOnes {l : Launch} {G : vG} {tC : Nat} {ad : Nat → Nat} {N : Nat} {E : Nat → va_E} {i pg cm hd : Nat} {lst md sd : Int32} {cs : Nat → Int32} {s : Nat → Int32} {k : Nat} (hN0 : i + 3 ≤ N) (hE0 : E i = .inr (2, [.ref (ad (i + 1)), .ref (ad (i + 2)), .int (nI pg), .int (nI cm), .int lst, .int md, .int sd, .int (nI hd)])) (hE1 : E (i + 1) = eI G 500 cs) (hag : agr cs s pg) (hp : pg ≤ 10) (hk : k < pg) : MI l yX0_sureOnes wsX0_sureOnes ({ frames := 2, cells := 0, slots := 0, locals := 46 } : Room) G tC ad N E [.ref (ad i), .int (nI k)] (fun r E2 => E2 = E ∧ r = nI (surN (ltF s k) 40)) := by
  refine MI_of RX0 rfl (by decide) rfl (Nat.le_of_ble_eq_true rfl) ?_
  intro pp_ ee_ ss_ mm_ aa_ bb_ me_ cc_ A ls C hw hl
  have hx := C.1
  have hb := C.2.1
  have hown := C.2.2.2.2.1
  have hts := C.2.2.2.2.2.1
  have hl : lv_has ls 5 [(0, .ref (ad i)), (1, .int (nI k))] := hl
  refine lv_iconst (v := nI 0) hx hb dX0_sureOnes_0 rfl ?_
  refine lv_istore_n (lv' := [(2, .int (nI 0)), (0, .ref (ad i)), (1, .int (nI k))]) hx hb dX0_sureOnes_1 rfl hl (by decide) rfl (fun ls hl => ?_)
  refine lv_iconst (v := nI 0) hx hb dX0_sureOnes_2 rfl ?_
  refine lv_istore_n (lv' := [(3, .int (nI 0)), (2, .int (nI 0)), (0, .ref (ad i)), (1, .int (nI k))]) hx hb dX0_sureOnes_3 rfl hl (by decide) rfl (fun ls hl => ?_)
  have zlp4 : ∀ (zn : Nat) (a row : Nat), 5 - row < zn → (row ≤ 5) → (a = surN (ltF s k) (8 * row)) → ∀ (H9 : Heap) (L9 : List Loc), Wd G A ss_.heap H9 L9 ad E N → ∀ (ls : Array Slot), lv_has ls 5 [(0, .ref (ad i)), (1, .int (nI k)), (2, .int (nI a)), (3, .int (nI row))] → W pp_ l ee_ ({ frames := 2, cells := 0, slots := 0, locals := 46 } : Room) ss_ mm_ aa_ bb_ me_ cc_ H9 L9 0 0 (QI bb_ aa_ ss_ G ad N A (fun r E2 => E2 = E ∧ r = nI (surN (ltF s k) 40))) (F0 mm_ 4 ls []) := by
    intro zn
    induction zn with
    | zero => intro a row zhm; exact absurd zhm (Nat.not_lt_zero _)
    | succ zn zih4 =>
      intro a row zhm4 hr ha zH_4 zL_4 zlw4 ls hl
      refine lv_iload_n hx hb dX0_sureOnes_4 rfl (lv_at hl 3 rfl) ?_
      refine lv_iconst (v := nI 5) hx hb dX0_sureOnes_5 rfl ?_
      refine n_icmp_ge (tgt := 48) hx hb dX0_sureOnes_6 (by decide) (by omega) (by omega) (fun zc6 => ?_) (fun zc6 => ?_)
      · refine lv_iload_n hx hb dX0_sureOnes_48 rfl (lv_at hl 2 rfl) ?_
        exact r_iret C zlw4 dX0_sureOnes_49 ⟨rfl, (by rw [ha, show row = 5 by omega])⟩
      · refine lv_iconst (v := nI 0) hx hb dX0_sureOnes_9 rfl ?_
        refine lv_istore (lv' := [(4, .int (nI 0)), (0, .ref (ad i)), (1, .int (nI k)), (2, .int (nI a)), (3, .int (nI row))]) hx hb dX0_sureOnes_10 hl (by decide) rfl (fun ls hl => ?_)
        have zlp12 : ∀ (zn : Nat) (b j : Nat), 8 - j < zn → (j ≤ 8) → (b = surN (ltF s k) (8 * row + j)) → ∀ (H9 : Heap) (L9 : List Loc), Wd G A ss_.heap H9 L9 ad E N → ∀ (ls : Array Slot), lv_has ls 5 [(0, .ref (ad i)), (1, .int (nI k)), (2, .int (nI b)), (3, .int (nI row)), (4, .int (nI j))] → W pp_ l ee_ ({ frames := 2, cells := 0, slots := 0, locals := 46 } : Room) ss_ mm_ aa_ bb_ me_ cc_ H9 L9 0 0 (QI bb_ aa_ ss_ G ad N A (fun r E2 => E2 = E ∧ r = nI (surN (ltF s k) 40))) (F0 mm_ 12 ls []) := by
          intro zn
          induction zn with
          | zero => intro b j zhm; exact absurd zhm (Nat.not_lt_zero _)
          | succ zn zih12 =>
            intro b j zhm12 hj hbb zH_12 zL_12 zlw12 ls hl
            refine lv_iload hx hb dX0_sureOnes_12 (lv_at hl 4 rfl) ?_
            refine lv_bipush (v := nI 8) hx hb dX0_sureOnes_14 rfl ?_
            refine n_icmp_ge (tgt := 42) hx hb dX0_sureOnes_16 (by decide) (by omega) (by omega) (fun zc16 => ?_) (fun zc16 => ?_)
            · refine lv_iinc (v := nI (row + 1)) (lv' := [(3, .int (nI (row + 1))), (0, .ref (ad i)), (1, .int (nI k)), (2, .int (nI b)), (4, .int (nI j))]) hx hb dX0_sureOnes_42 hl (k := 3) rfl (by rw [show Int32.ofInt 1 = nI 1 from rfl, nI_add]) (by decide) rfl (fun ls hl => ?_)
              refine lv_goto (tgt := 4) hx hb dX0_sureOnes_45 (by decide) ?_
              exact zih4 b (row + 1) (by omega) (by omega) (by rw [hbb, show 8 * row + j = 8 * (row + 1) by omega]) _ _ zlw12 _ (lv_sub hl [1, 2, 3, 0] rfl)
            · refine lv_aload_n hx hb dX0_sureOnes_19 rfl (lv_at hl 0 rfl) ?_
              refine lv_iload_n hx hb dX0_sureOnes_20 rfl (lv_at hl 1 rfl) ?_
              refine lv_iload_n hx hb dX0_sureOnes_21 rfl (lv_at hl 3 rfl) ?_
              refine lv_iload hx hb dX0_sureOnes_22 (lv_at hl 4 rfl) ?_
              refine r_vI C zlw12 hl.1 (i := i) (by omega) hE0 (T := TX5) (n := 8) rfl [.int (nI k), .int (nI row), .int (nI j)] 3 rfl (c_X5_letterAt_s (l := l) (G := G) (tC := tC) (ad := ad) (N := N) (E := E) (i := i) (pg := pg) (cm := cm) (hd := hd) (lst := lst) (md := md) (sd := sd) (cs := cs) (s := s) (k := k) (row := row) (j := j) (by omega) hE0 hE1 (by first | assumption | omega) (by first | assumption | omega) (by first | assumption | omega) (by first | assumption | omega) (by first | assumption | omega)) gX0_sureOnes_X5_letterAt rfl ⟨rfl, rfl⟩ (by decide +kernel) ⟨Nat.le_of_ble_eq_true rfl, Nat.le_of_ble_eq_true rfl⟩ (rest := []) rfl (Nat.le_of_ble_eq_true rfl) dX0_sureOnes_24 ⟨Nat.zero_le _, Nat.zero_le _⟩ (fun zr1 zE1 zH1 zL1 zp1 zw1 => ?_)
              obtain ⟨ze1, zq1⟩ := zp1
              rw [ze1] at zw1
              clear ze1
              rw [zq1]
              refine r_sI C zw1 hl.1 [.int (ltF s k (8 * row + j))] 1 rfl (c_X5_isSure (l := l) (G := G) (tC := tC) (ad := ad) (N := N) (E := E) (x := ltF s k (8 * row + j))   ) gX0_sureOnes_X5_isSure rfl ⟨rfl, rfl⟩ (by decide +kernel) ⟨Nat.le_of_ble_eq_true rfl, Nat.le_of_ble_eq_true rfl⟩ (rest := []) rfl (Nat.le_of_ble_eq_true rfl) dX0_sureOnes_27 ⟨Nat.zero_le _, Nat.zero_le _⟩ (fun zr2 zE2 zH2 zL2 zp2 zw2 => ?_)
              obtain ⟨ze2, zq2⟩ := zp2
              rw [ze2] at zw2
              clear ze2
              rw [zq2]
              refine b_if_eq (tgt := 36) hx hb dX0_sureOnes_30 (by decide) (fun zc30 => ?_) (fun zc30 => ?_)
              · refine lv_iinc (v := nI (j + 1)) (lv' := [(4, .int (nI (j + 1))), (0, .ref (ad i)), (1, .int (nI k)), (2, .int (nI b)), (3, .int (nI row))]) hx hb dX0_sureOnes_36 hl (k := 4) rfl (by rw [show Int32.ofInt 1 = nI 1 from rfl, nI_add]) (by decide) rfl (fun ls hl => ?_)
                refine lv_goto (tgt := 12) hx hb dX0_sureOnes_39 (by decide) ?_
                exact zih12 b (j + 1) (by omega) (by omega) (by rw [show 8 * row + (j + 1) = (8 * row + j) + 1 by omega, surN, hbb]; first | rw [if_pos zc30] | (rw [if_neg zc30]; rfl)) _ _ zw2 _ (lv_sub hl [1, 2, 3, 4, 0] rfl)
              · refine lv_iinc (v := nI (b + 1)) (lv' := [(2, .int (nI (b + 1))), (0, .ref (ad i)), (1, .int (nI k)), (3, .int (nI row)), (4, .int (nI j))]) hx hb dX0_sureOnes_33 hl (k := 2) rfl (by rw [show Int32.ofInt 1 = nI 1 from rfl, nI_add]) (by decide) rfl (fun ls hl => ?_)
                refine lv_iinc (v := nI (j + 1)) (lv' := [(4, .int (nI (j + 1))), (2, .int (nI (b + 1))), (0, .ref (ad i)), (1, .int (nI k)), (3, .int (nI row))]) hx hb dX0_sureOnes_36 hl (k := 4) rfl (by rw [show Int32.ofInt 1 = nI 1 from rfl, nI_add]) (by decide) rfl (fun ls hl => ?_)
                refine lv_goto (tgt := 12) hx hb dX0_sureOnes_39 (by decide) ?_
                exact zih12 (b + 1) (j + 1) (by omega) (by omega) (by rw [show 8 * row + (j + 1) = (8 * row + j) + 1 by omega, surN, hbb]; first | rw [if_pos zc30] | (rw [if_neg zc30]; rfl)) _ _ zw2 _ (lv_sub hl [2, 3, 1, 4, 0] rfl)
        exact zlp12 _ a 0 (Nat.lt_succ_self _) (by omega) (by exact ha) _ _ zlw4 _ (lv_sub hl [1, 2, 3, 4, 0] rfl)
  exact zlp4 _ 0 0 (Nat.lt_succ_self _) (by omega) (by rfl) _ _ hw _ (lv_sub hl [2, 3, 1, 0] rfl)

set_option maxHeartbeats 4000000 in
set_option maxRecDepth 100000 in
theorem c_X0_leadsTo {l : Launch} {G : vG} {tC : Nat} {ad : Nat → Nat} {N : Nat} {E : Nat → va_E} {i pg cm hd : Nat} {lst md sd : Int32} {cs : Nat → Int32} {s : Nat → Int32} {k o : Nat} (hN0 : i + 3 ≤ N) (hE0 : E i = .inr (2, [.ref (ad (i + 1)), .ref (ad (i + 2)), .int (nI pg), .int (nI cm), .int lst, .int md, .int sd, .int (nI hd)])) (hE1 : E (i + 1) = eI G 500 cs) (hag : agr cs s pg) (hp : pg ≤ 10) (hk : k < pg) (ho : o < pg) : MI l yX0_leadsTo wsX0_leadsTo ({ frames := 2, cells := 0, slots := 0, locals := 45 } : Room) G tC ad N E [.ref (ad i), .int (nI k), .int (nI o)] (fun r E2 => E2 = E ∧ r = if leads s k o then 1 else 0) := by
  refine MI_of RX0 rfl (by decide) rfl (Nat.le_of_ble_eq_true rfl) ?_
  intro pp_ ee_ ss_ mm_ aa_ bb_ me_ cc_ A ls C hw hl
  have hx := C.1
  have hb := C.2.1
  have hown := C.2.2.2.2.1
  have hts := C.2.2.2.2.2.1
  have hl : lv_has ls 5 [(0, .ref (ad i)), (1, .int (nI k)), (2, .int (nI o))] := hl
  refine lv_aload_n hx hb dX0_leadsTo_0 rfl (lv_at hl 0 rfl) ?_
  refine lv_iload_n hx hb dX0_leadsTo_1 rfl (lv_at hl 1 rfl) ?_
  refine lv_iconst (v := nI 0) hx hb dX0_leadsTo_2 rfl ?_
  refine r_vI C hw hl.1 (i := i) (by omega) hE0 (T := TX5) (n := 8) rfl [.int (nI k), .int (nI 0)] 2 rfl (c_X5_get_s (l := l) (G := G) (tC := tC) (ad := ad) (N := N) (E := E) (i := i) (pg := pg) (cm := cm) (hd := hd) (lst := lst) (md := md) (sd := sd) (cs := cs) (s := s) (k := k) (cl := 0) (by omega) hE0 hE1 (by first | assumption | omega) (by first | assumption | omega) (by first | assumption | omega) (by first | assumption | omega) (by first | assumption | omega)) gX0_leadsTo_X5_get rfl ⟨rfl, rfl⟩ (by decide +kernel) ⟨Nat.le_of_ble_eq_true rfl, Nat.le_of_ble_eq_true rfl⟩ (rest := []) rfl (Nat.le_of_ble_eq_true rfl) dX0_leadsTo_3 ⟨Nat.zero_le _, Nat.zero_le _⟩ (fun zr1 zE1 zH1 zL1 zp1 zw1 => ?_)
  obtain ⟨ze1, zq1⟩ := zp1
  rw [ze1] at zw1
  clear ze1
  rw [zq1]
  refine lv_aload_n hx hb dX0_leadsTo_6 rfl (lv_at hl 0 rfl) ?_
  refine lv_iload_n hx hb dX0_leadsTo_7 rfl (lv_at hl 2 rfl) ?_
  refine lv_iconst (v := nI 0) hx hb dX0_leadsTo_8 rfl ?_
  refine r_vI C zw1 hl.1 (i := i) (by omega) hE0 (T := TX5) (n := 8) rfl [.int (nI o), .int (nI 0)] 2 rfl (c_X5_get_s (l := l) (G := G) (tC := tC) (ad := ad) (N := N) (E := E) (i := i) (pg := pg) (cm := cm) (hd := hd) (lst := lst) (md := md) (sd := sd) (cs := cs) (s := s) (k := o) (cl := 0) (by omega) hE0 hE1 (by first | assumption | omega) (by first | assumption | omega) (by first | assumption | omega) (by first | assumption | omega) (by first | assumption | omega)) gX0_leadsTo_X5_get rfl ⟨rfl, rfl⟩ (by decide +kernel) ⟨Nat.le_of_ble_eq_true rfl, Nat.le_of_ble_eq_true rfl⟩ (rest := [.int (s (8 + 50 * k + 0))]) rfl (Nat.le_of_ble_eq_true rfl) dX0_leadsTo_9 ⟨Nat.zero_le _, Nat.zero_le _⟩ (fun zr2 zE2 zH2 zL2 zp2 zw2 => ?_)
  obtain ⟨ze2, zq2⟩ := zp2
  rw [ze2] at zw2
  clear ze2
  rw [zq2]
  refine lv_icmp_eq (tgt := 17) hx hb dX0_leadsTo_12 (by decide) (fun zc12 => ?_) (fun zc12 => ?_)
  · refine lv_aload_n hx hb dX0_leadsTo_17 rfl (lv_at hl 0 rfl) ?_
    refine lv_iload_n hx hb dX0_leadsTo_18 rfl (lv_at hl 2 rfl) ?_
    refine lv_iconst (v := nI 1) hx hb dX0_leadsTo_19 rfl ?_
    refine r_vI C zw2 hl.1 (i := i) (by omega) hE0 (T := TX5) (n := 8) rfl [.int (nI o), .int (nI 1)] 2 rfl (c_X5_get_s (l := l) (G := G) (tC := tC) (ad := ad) (N := N) (E := E) (i := i) (pg := pg) (cm := cm) (hd := hd) (lst := lst) (md := md) (sd := sd) (cs := cs) (s := s) (k := o) (cl := 1) (by omega) hE0 hE1 (by first | assumption | omega) (by first | assumption | omega) (by first | assumption | omega) (by first | assumption | omega) (by first | assumption | omega)) gX0_leadsTo_X5_get rfl ⟨rfl, rfl⟩ (by decide +kernel) ⟨Nat.le_of_ble_eq_true rfl, Nat.le_of_ble_eq_true rfl⟩ (rest := []) rfl (Nat.le_of_ble_eq_true rfl) dX0_leadsTo_20 ⟨Nat.zero_le _, Nat.zero_le _⟩ (fun zr3 zE3 zH3 zL3 zp3 zw3 => ?_)
    obtain ⟨ze3, zq3⟩ := zp3
    rw [ze3] at zw3
    clear ze3
    rw [zq3]
    refine lv_istore_n (lv' := [(3, .int (s (8 + 50 * o + 1))), (0, .ref (ad i)), (1, .int (nI k)), (2, .int (nI o))]) hx hb dX0_leadsTo_23 rfl hl (by decide) rfl (fun ls hl => ?_)
    refine lv_iconst (v := nI 0) hx hb dX0_leadsTo_24 rfl ?_
    refine lv_istore (lv' := [(4, .int (nI 0)), (3, .int (s (8 + 50 * o + 1))), (0, .ref (ad i)), (1, .int (nI k)), (2, .int (nI o))]) hx hb dX0_leadsTo_25 hl (by decide) rfl (fun ls hl => ?_)
    have zlp27 : ∀ (zn : Nat) (j : Nat), 4 - j < zn → (j ≤ 4) → (∀ x, x < j → ¬ (lkL s k x = s (8 + 50 * o + 1) ∧ s (8 + 50 * k + 0) = s (8 + 50 * o + 0))) → ∀ (H9 : Heap) (L9 : List Loc), Wd G A ss_.heap H9 L9 ad E N → ∀ (ls : Array Slot), lv_has ls 5 [(0, .ref (ad i)), (1, .int (nI k)), (2, .int (nI o)), (3, .int (s (8 + 50 * o + 1))), (4, .int (nI j))] → W pp_ l ee_ ({ frames := 2, cells := 0, slots := 0, locals := 45 } : Room) ss_ mm_ aa_ bb_ me_ cc_ H9 L9 0 0 (QI bb_ aa_ ss_ G ad N A (fun r E2 => E2 = E ∧ r = if leads s k o then 1 else 0)) (F0 mm_ 27 ls []) := by
      intro zn
      induction zn with
      | zero => intro j zhm; exact absurd zhm (Nat.not_lt_zero _)
      | succ zn zih27 =>
        intro j zhm27 hj hn zH_27 zL_27 zlw27 ls hl
        refine lv_iload hx hb dX0_leadsTo_27 (lv_at hl 4 rfl) ?_
        refine lv_iconst (v := nI 4) hx hb dX0_leadsTo_29 rfl ?_
        refine n_icmp_ge (tgt := 52) hx hb dX0_leadsTo_30 (by decide) (by omega) (by omega) (fun zc30 => ?_) (fun zc30 => ?_)
        · refine lv_iconst (v := nI 0) hx hb dX0_leadsTo_52 rfl ?_
          exact r_zret C zlw27 dX0_leadsTo_53 (Or.inl rfl) ⟨rfl, (by rw [if_neg (fun zq => zq (fun x hx => hn x (by omega)))]; rfl)⟩
        · refine lv_aload_n hx hb dX0_leadsTo_33 rfl (lv_at hl 0 rfl) ?_
          refine lv_iload_n hx hb dX0_leadsTo_34 rfl (lv_at hl 1 rfl) ?_
          refine lv_iload hx hb dX0_leadsTo_35 (lv_at hl 4 rfl) ?_
          refine r_vI C zlw27 hl.1 (i := i) (by omega) hE0 (T := TX5) (n := 8) rfl [.int (nI k), .int (nI j)] 2 rfl (c_X5_linkAt_s (l := l) (G := G) (tC := tC) (ad := ad) (N := N) (E := E) (i := i) (pg := pg) (cm := cm) (hd := hd) (lst := lst) (md := md) (sd := sd) (cs := cs) (s := s) (k := k) (j := j) (by omega) hE0 hE1 (by first | assumption | omega) (by first | assumption | omega) (by first | assumption | omega) (by first | assumption | omega)) gX0_leadsTo_X5_linkAt rfl ⟨rfl, rfl⟩ (by decide +kernel) ⟨Nat.le_of_ble_eq_true rfl, Nat.le_of_ble_eq_true rfl⟩ (rest := []) rfl (Nat.le_of_ble_eq_true rfl) dX0_leadsTo_37 ⟨Nat.zero_le _, Nat.zero_le _⟩ (fun zr4 zE4 zH4 zL4 zp4 zw4 => ?_)
          obtain ⟨ze4, zq4⟩ := zp4
          rw [ze4] at zw4
          clear ze4
          rw [zq4]
          refine lv_iload_n hx hb dX0_leadsTo_40 rfl (lv_at hl 3 rfl) ?_
          refine lv_icmp_ne (tgt := 46) hx hb dX0_leadsTo_41 (by decide) (fun zc41 => ?_) (fun zc41 => ?_)
          · refine lv_iinc (v := nI (j + 1)) (lv' := [(4, .int (nI (j + 1))), (0, .ref (ad i)), (1, .int (nI k)), (2, .int (nI o)), (3, .int (s (8 + 50 * o + 1)))]) hx hb dX0_leadsTo_46 hl (k := 4) rfl (by rw [show Int32.ofInt 1 = nI 1 from rfl, nI_add]) (by decide) rfl (fun ls hl => ?_)
            refine lv_goto (tgt := 27) hx hb dX0_leadsTo_49 (by decide) ?_
            exact zih27 (j + 1) (by omega) (by omega) (by exact lt_s hn (fun zq => zc41 zq.1)) _ _ zw4 _ (lv_sub hl [1, 2, 3, 4, 0] rfl)
          · refine lv_iconst (v := nI 1) hx hb dX0_leadsTo_44 rfl ?_
            exact r_zret C zw4 dX0_leadsTo_45 (Or.inr rfl) ⟨rfl, (by rw [if_pos (fun zq => zq j (by omega) ⟨zc41, zc12⟩)]; rfl)⟩
    exact zlp27 _ 0 (Nat.lt_succ_self _) (by omega) (by intro x hx; exact absurd hx (Nat.not_lt_zero x)) _ _ zw3 _ (lv_sub hl [2, 3, 4, 1, 0] rfl)
  · refine lv_iconst (v := nI 0) hx hb dX0_leadsTo_15 rfl ?_
    exact r_zret C zw2 dX0_leadsTo_16 (Or.inl rfl) ⟨rfl, (by rw [if_neg (fun zq => zq (fun x _ z => zc12 z.2))]; rfl)⟩

set_option maxHeartbeats 4000000 in
set_option maxRecDepth 100000 in
theorem c_X0_linked {l : Launch} {G : vG} {tC : Nat} {ad : Nat → Nat} {N : Nat} {E : Nat → va_E} {i pg cm hd : Nat} {lst md sd : Int32} {cs : Nat → Int32} {s : Nat → Int32} {k : Nat} (hN0 : i + 3 ≤ N) (hE0 : E i = .inr (2, [.ref (ad (i + 1)), .ref (ad (i + 2)), .int (nI pg), .int (nI cm), .int lst, .int md, .int sd, .int (nI hd)])) (hE1 : E (i + 1) = eI G 500 cs) (hag : agr cs s pg) (hp : pg ≤ 10) (hk : k < pg) : MI l yX0_linked wsX0_linked ({ frames := 3, cells := 0, slots := 0, locals := 69 } : Room) G tC ad N E [.ref (ad i), .int (nI k)] (fun r E2 => E2 = E ∧ r = lkd s k pg) := by
  refine MI_of RX0 rfl (by decide) rfl (Nat.le_of_ble_eq_true rfl) ?_
  intro pp_ ee_ ss_ mm_ aa_ bb_ me_ cc_ A ls C hw hl
  have hx := C.1
  have hb := C.2.1
  have hown := C.2.2.2.2.1
  have hts := C.2.2.2.2.2.1
  have hl : lv_has ls 4 [(0, .ref (ad i)), (1, .int (nI k))] := hl
  have hinX5 : ∀ w ∈ u_ws RX5 TX5 8, w ∈ wsX0_linked := by decide +kernel
  refine lv_iconst (v := nI 0) hx hb dX0_linked_0 rfl ?_
  refine lv_istore_n (lv' := [(2, .int (nI 0)), (0, .ref (ad i)), (1, .int (nI k))]) hx hb dX0_linked_1 rfl hl (by decide) rfl (fun ls hl => ?_)
  refine lv_iconst (v := nI 0) hx hb dX0_linked_2 rfl ?_
  refine lv_istore_n (lv' := [(3, .int (nI 0)), (2, .int (nI 0)), (0, .ref (ad i)), (1, .int (nI k))]) hx hb dX0_linked_3 rfl hl (by decide) rfl (fun ls hl => ?_)
  have zlp4 : ∀ (zn : Nat) (o : Nat) (x4 : Int32), pg - o < zn → (o ≤ pg) → (x4 = lkd s k o) → ∀ (H9 : Heap) (L9 : List Loc), Wd G A ss_.heap H9 L9 ad E N → ∀ (ls : Array Slot), lv_has ls 4 [(0, .ref (ad i)), (1, .int (nI k)), (2, .int x4), (3, .int (nI o))] → W pp_ l ee_ ({ frames := 3, cells := 0, slots := 0, locals := 69 } : Room) ss_ mm_ aa_ bb_ me_ cc_ H9 L9 0 0 (QI bb_ aa_ ss_ G ad N A (fun r E2 => E2 = E ∧ r = lkd s k pg)) (F0 mm_ 4 ls []) := by
    intro zn
    induction zn with
    | zero => intro o x4 zhm; exact absurd zhm (Nat.not_lt_zero _)
    | succ zn zih4 =>
      intro o x4 zhm4 ho hx4 zH_4 zL_4 zlw4 ls hl
      refine lv_iload_n hx hb dX0_linked_4 rfl (lv_at hl 3 rfl) ?_
      refine lv_aload_n hx hb dX0_linked_5 rfl (lv_at hl 0 rfl) ?_
      refine r_get C zlw4 RX5 TX5 8 2 hinX5 (i := i) (by omega) hE0 rfl 2 (by decide) (by decide +kernel) rfl (v := .int (nI pg)) rfl dX0_linked_6 ?_
      refine n_icmp_ge (tgt := 33) hx hb dX0_linked_9 (by decide) (by omega) (by omega) (fun zc9 => ?_) (fun zc9 => ?_)
      · refine lv_iload_n hx hb dX0_linked_33 rfl (lv_at hl 2 rfl) ?_
        exact r_iret C zlw4 dX0_linked_34 ⟨rfl, (by rw [hx4, show o = pg by omega])⟩
      · refine lv_aload_n hx hb dX0_linked_12 rfl (lv_at hl 0 rfl) ?_
        refine lv_iload_n hx hb dX0_linked_13 rfl (lv_at hl 1 rfl) ?_
        refine lv_iload_n hx hb dX0_linked_14 rfl (lv_at hl 3 rfl) ?_
        refine r_sI C zlw4 hl.1 [.ref (ad i), .int (nI k), .int (nI o)] 3 rfl (c_X0_leadsTo (l := l) (G := G) (tC := tC) (ad := ad) (N := N) (E := E) (i := i) (pg := pg) (cm := cm) (hd := hd) (lst := lst) (md := md) (sd := sd) (cs := cs) (s := s) (k := k) (o := o) (by omega) hE0 hE1 (by first | assumption | omega) (by first | assumption | omega) (by first | assumption | omega) (by first | assumption | omega)) gX0_linked_X0_leadsTo rfl ⟨rfl, rfl⟩ (by decide +kernel) ⟨Nat.le_of_ble_eq_true rfl, Nat.le_of_ble_eq_true rfl⟩ (rest := []) rfl (Nat.le_of_ble_eq_true rfl) dX0_linked_15 ⟨Nat.zero_le _, Nat.zero_le _⟩ (fun zr1 zE1 zH1 zL1 zp1 zw1 => ?_)
        obtain ⟨ze1, zq1⟩ := zp1
        rw [ze1] at zw1
        clear ze1
        rw [zq1]
        refine b_if_eq (tgt := 27) hx hb dX0_linked_18 (by decide) (fun zc18 => ?_) (fun zc18 => ?_)
        · refine lv_iinc (v := nI (o + 1)) (lv' := [(3, .int (nI (o + 1))), (0, .ref (ad i)), (1, .int (nI k)), (2, .int x4)]) hx hb dX0_linked_27 hl (k := 3) rfl (by rw [show Int32.ofInt 1 = nI 1 from rfl, nI_add]) (by decide) rfl (fun ls hl => ?_)
          refine lv_goto (tgt := 4) hx hb dX0_linked_30 (by decide) ?_
          exact zih4 (o + 1) x4 (by omega) (by omega) (by rw [lkd, hx4]; first | rw [if_pos zc18] | rw [if_neg zc18, or_0]) _ _ zw1 _ (lv_sub hl [1, 2, 3, 0] rfl)
        · refine lv_iload_n hx hb dX0_linked_21 rfl (lv_at hl 2 rfl) ?_
          refine lv_iconst (v := nI 1) hx hb dX0_linked_22 rfl ?_
          refine lv_iload_n hx hb dX0_linked_23 rfl (lv_at hl 3 rfl) ?_
          refine lv_ishl hx hb dX0_linked_24 ?_
          refine lv_ior hx hb dX0_linked_25 ?_
          refine lv_istore_n (lv' := [(2, .int (x4 ||| ((nI 1) <<< (nI o &&& 31)))), (0, .ref (ad i)), (1, .int (nI k)), (3, .int (nI o))]) hx hb dX0_linked_26 rfl hl (by decide) rfl (fun ls hl => ?_)
          refine lv_iinc (v := nI (o + 1)) (lv' := [(3, .int (nI (o + 1))), (2, .int (x4 ||| ((nI 1) <<< (nI o &&& 31)))), (0, .ref (ad i)), (1, .int (nI k))]) hx hb dX0_linked_27 hl (k := 3) rfl (by rw [show Int32.ofInt 1 = nI 1 from rfl, nI_add]) (by decide) rfl (fun ls hl => ?_)
          refine lv_goto (tgt := 4) hx hb dX0_linked_30 (by decide) ?_
          exact zih4 (o + 1) (x4 ||| ((nI 1) <<< (nI o &&& 31))) (by omega) (by omega) (by rw [lkd, hx4]; first | rw [if_pos zc18] | rw [if_neg zc18, or_0]) _ _ zw1 _ (lv_sub hl [2, 3, 1, 0] rfl)
  exact zlp4 _ 0 (nI 0) (Nat.lt_succ_self _) (by omega) (by rfl) _ _ hw _ (lv_sub hl [2, 3, 1, 0] rfl)

set_option maxHeartbeats 4000000 in
set_option maxRecDepth 100000 in
theorem c_X0_linkedFromAny {l : Launch} {G : vG} {tC : Nat} {ad : Nat → Nat} {N : Nat} {E : Nat → va_E} {i pg cm hd : Nat} {lst md sd : Int32} {cs : Nat → Int32} {s : Nat → Int32} {st : Int32} (hN0 : i + 3 ≤ N) (hE0 : E i = .inr (2, [.ref (ad (i + 1)), .ref (ad (i + 2)), .int (nI pg), .int (nI cm), .int lst, .int md, .int sd, .int (nI hd)])) (hE1 : E (i + 1) = eI G 500 cs) (hag : agr cs s pg) (hp : pg ≤ 10) : MI l yX0_linkedFromAny wsX0_linkedFromAny ({ frames := 4, cells := 0, slots := 0, locals := 92 } : Room) G tC ad N E [.ref (ad i), .int st] (fun r E2 => E2 = E ∧ r = frM s pg st (nI 0) pg) := by
  refine MI_of RX0 rfl (by decide) rfl (Nat.le_of_ble_eq_true rfl) ?_
  intro pp_ ee_ ss_ mm_ aa_ bb_ me_ cc_ A ls C hw hl
  have hx := C.1
  have hb := C.2.1
  have hown := C.2.2.2.2.1
  have hts := C.2.2.2.2.2.1
  have hl : lv_has ls 4 [(0, .ref (ad i)), (1, .int st)] := hl
  have hinX5 : ∀ w ∈ u_ws RX5 TX5 8, w ∈ wsX0_linkedFromAny := by decide +kernel
  refine lv_iconst (v := nI 0) hx hb dX0_linkedFromAny_0 rfl ?_
  refine lv_istore_n (lv' := [(2, .int (nI 0)), (0, .ref (ad i)), (1, .int st)]) hx hb dX0_linkedFromAny_1 rfl hl (by decide) rfl (fun ls hl => ?_)
  refine lv_iconst (v := nI 0) hx hb dX0_linkedFromAny_2 rfl ?_
  refine lv_istore_n (lv' := [(3, .int (nI 0)), (2, .int (nI 0)), (0, .ref (ad i)), (1, .int st)]) hx hb dX0_linkedFromAny_3 rfl hl (by decide) rfl (fun ls hl => ?_)
  have zlp4 : ∀ (zn : Nat) (e : Nat) (x4 : Int32), pg - e < zn → (e ≤ pg) → (x4 = frM s pg st (nI 0) e) → ∀ (H9 : Heap) (L9 : List Loc), Wd G A ss_.heap H9 L9 ad E N → ∀ (ls : Array Slot), lv_has ls 4 [(0, .ref (ad i)), (1, .int st), (2, .int x4), (3, .int (nI e))] → W pp_ l ee_ ({ frames := 4, cells := 0, slots := 0, locals := 92 } : Room) ss_ mm_ aa_ bb_ me_ cc_ H9 L9 0 0 (QI bb_ aa_ ss_ G ad N A (fun r E2 => E2 = E ∧ r = frM s pg st (nI 0) pg)) (F0 mm_ 4 ls []) := by
    intro zn
    induction zn with
    | zero => intro e x4 zhm; exact absurd zhm (Nat.not_lt_zero _)
    | succ zn zih4 =>
      intro e x4 zhm4 he hx4 zH_4 zL_4 zlw4 ls hl
      refine lv_iload_n hx hb dX0_linkedFromAny_4 rfl (lv_at hl 3 rfl) ?_
      refine lv_aload_n hx hb dX0_linkedFromAny_5 rfl (lv_at hl 0 rfl) ?_
      refine r_get C zlw4 RX5 TX5 8 2 hinX5 (i := i) (by omega) hE0 rfl 2 (by decide) (by decide +kernel) rfl (v := .int (nI pg)) rfl dX0_linkedFromAny_6 ?_
      refine n_icmp_ge (tgt := 35) hx hb dX0_linkedFromAny_9 (by decide) (by omega) (by omega) (fun zc9 => ?_) (fun zc9 => ?_)
      · refine lv_iload_n hx hb dX0_linkedFromAny_35 rfl (lv_at hl 2 rfl) ?_
        exact r_iret C zlw4 dX0_linkedFromAny_36 ⟨rfl, (by rw [hx4, show e = pg by omega])⟩
      · refine lv_iload_n hx hb dX0_linkedFromAny_12 rfl (lv_at hl 1 rfl) ?_
        refine lv_iload_n hx hb dX0_linkedFromAny_13 rfl (lv_at hl 3 rfl) ?_
        refine lv_ishr hx hb dX0_linkedFromAny_14 ?_
        refine lv_iconst (v := nI 1) hx hb dX0_linkedFromAny_15 rfl ?_
        refine lv_iand hx hb dX0_linkedFromAny_16 ?_
        refine lv_iconst (v := nI 1) hx hb dX0_linkedFromAny_17 rfl ?_
        refine lv_icmp_ne (tgt := 29) hx hb dX0_linkedFromAny_18 (by decide) (fun zc18 => ?_) (fun zc18 => ?_)
        · refine lv_iinc (v := nI (e + 1)) (lv' := [(3, .int (nI (e + 1))), (0, .ref (ad i)), (1, .int st), (2, .int x4)]) hx hb dX0_linkedFromAny_29 hl (k := 3) rfl (by rw [show Int32.ofInt 1 = nI 1 from rfl, nI_add]) (by decide) rfl (fun ls hl => ?_)
          refine lv_goto (tgt := 4) hx hb dX0_linkedFromAny_32 (by decide) ?_
          exact zih4 (e + 1) x4 (by omega) (by omega) (by rw [frM, hx4]; first | rw [if_pos zc18] | rw [if_neg zc18, or_0]) _ _ zlw4 _ (lv_sub hl [1, 2, 3, 0] rfl)
        · refine lv_iload_n hx hb dX0_linkedFromAny_21 rfl (lv_at hl 2 rfl) ?_
          refine lv_aload_n hx hb dX0_linkedFromAny_22 rfl (lv_at hl 0 rfl) ?_
          refine lv_iload_n hx hb dX0_linkedFromAny_23 rfl (lv_at hl 3 rfl) ?_
          refine r_sI C zlw4 hl.1 [.ref (ad i), .int (nI e)] 2 rfl (c_X0_linked (l := l) (G := G) (tC := tC) (ad := ad) (N := N) (E := E) (i := i) (pg := pg) (cm := cm) (hd := hd) (lst := lst) (md := md) (sd := sd) (cs := cs) (s := s) (k := e) (by omega) hE0 hE1 (by first | assumption | omega) (by first | assumption | omega) (by first | assumption | omega)) gX0_linkedFromAny_X0_linked rfl ⟨rfl, rfl⟩ (by decide +kernel) ⟨Nat.le_of_ble_eq_true rfl, Nat.le_of_ble_eq_true rfl⟩ (rest := [.int x4]) rfl (Nat.le_of_ble_eq_true rfl) dX0_linkedFromAny_24 ⟨Nat.zero_le _, Nat.zero_le _⟩ (fun zr1 zE1 zH1 zL1 zp1 zw1 => ?_)
          obtain ⟨ze1, zq1⟩ := zp1
          rw [ze1] at zw1
          clear ze1
          rw [zq1]
          refine lv_ior hx hb dX0_linkedFromAny_27 ?_
          refine lv_istore_n (lv' := [(2, .int (x4 ||| (lkd s e pg))), (0, .ref (ad i)), (1, .int st), (3, .int (nI e))]) hx hb dX0_linkedFromAny_28 rfl hl (by decide) rfl (fun ls hl => ?_)
          refine lv_iinc (v := nI (e + 1)) (lv' := [(3, .int (nI (e + 1))), (2, .int (x4 ||| (lkd s e pg))), (0, .ref (ad i)), (1, .int st)]) hx hb dX0_linkedFromAny_29 hl (k := 3) rfl (by rw [show Int32.ofInt 1 = nI 1 from rfl, nI_add]) (by decide) rfl (fun ls hl => ?_)
          refine lv_goto (tgt := 4) hx hb dX0_linkedFromAny_32 (by decide) ?_
          exact zih4 (e + 1) (x4 ||| (lkd s e pg)) (by omega) (by omega) (by rw [frM, hx4]; first | rw [if_pos zc18] | rw [if_neg zc18, or_0]) _ _ zw1 _ (lv_sub hl [2, 3, 1, 0] rfl)
  exact zlp4 _ 0 (nI 0) (Nat.lt_succ_self _) (by omega) (by rfl) _ _ hw _ (lv_sub hl [2, 3, 1, 0] rfl)

set_option maxHeartbeats 4000000 in
set_option maxRecDepth 100000 in
theorem c_X0_steps {l : Launch} {G : vG} {tC : Nat} {ad : Nat → Nat} {N : Nat} {E : Nat → va_E} {i pg cm hd : Nat} {lst md sd : Int32} {cs : Nat → Int32} {s : Nat → Int32} {k o : Nat} (hN0 : i + 3 ≤ N) (hE0 : E i = .inr (2, [.ref (ad (i + 1)), .ref (ad (i + 2)), .int (nI pg), .int (nI cm), .int lst, .int md, .int sd, .int (nI hd)])) (hE1 : E (i + 1) = eI G 500 cs) (hag : agr cs s pg) (hp : pg ≤ 10) (hk : k < pg) (ho : o < pg) : MI l yX0_steps wsX0_steps ({ frames := 5, cells := 0, slots := 0, locals := 115 } : Room) G tC ad N E [.ref (ad i), .int (nI k), .int (nI o)] (fun r E2 => E2 = E ∧ r = frS s pg o 10 0 (bitI k)) := by
  refine MI_of RX0 rfl (by decide) rfl (Nat.le_of_ble_eq_true rfl) ?_
  intro pp_ ee_ ss_ mm_ aa_ bb_ me_ cc_ A ls C hw hl
  have hx := C.1
  have hb := C.2.1
  have hown := C.2.2.2.2.1
  have hts := C.2.2.2.2.2.1
  have hl : lv_has ls 5 [(0, .ref (ad i)), (1, .int (nI k)), (2, .int (nI o))] := hl
  refine lv_iconst (v := nI 1) hx hb dX0_steps_0 rfl ?_
  refine lv_iload_n hx hb dX0_steps_1 rfl (lv_at hl 1 rfl) ?_
  refine lv_ishl hx hb dX0_steps_2 ?_
  refine lv_istore_n (lv' := [(3, .int ((nI 1) <<< (nI k &&& 31))), (0, .ref (ad i)), (1, .int (nI k)), (2, .int (nI o))]) hx hb dX0_steps_3 rfl hl (by decide) rfl (fun ls hl => ?_)
  refine lv_iconst (v := nI 0) hx hb dX0_steps_4 rfl ?_
  refine lv_istore (lv' := [(4, .int (nI 0)), (3, .int ((nI 1) <<< (nI k &&& 31))), (0, .ref (ad i)), (1, .int (nI k)), (2, .int (nI o))]) hx hb dX0_steps_5 hl (by decide) rfl (fun ls hl => ?_)
  have zlp7 : ∀ (zn : Nat) (f : Nat) (st : Int32), 10 - f < zn → (f ≤ 10) → (frS s pg o (10 - f) f st = frS s pg o 10 0 (bitI k)) → ∀ (H9 : Heap) (L9 : List Loc), Wd G A ss_.heap H9 L9 ad E N → ∀ (ls : Array Slot), lv_has ls 5 [(0, .ref (ad i)), (1, .int (nI k)), (2, .int (nI o)), (3, .int st), (4, .int (nI f))] → W pp_ l ee_ ({ frames := 5, cells := 0, slots := 0, locals := 115 } : Room) ss_ mm_ aa_ bb_ me_ cc_ H9 L9 0 0 (QI bb_ aa_ ss_ G ad N A (fun r E2 => E2 = E ∧ r = frS s pg o 10 0 (bitI k))) (F0 mm_ 7 ls []) := by
    intro zn
    induction zn with
    | zero => intro f st zhm; exact absurd zhm (Nat.not_lt_zero _)
    | succ zn zih7 =>
      intro f st zhm7 hf hst zH_7 zL_7 zlw7 ls hl
      refine lv_iload hx hb dX0_steps_7 (lv_at hl 4 rfl) ?_
      refine lv_bipush (v := nI 10) hx hb dX0_steps_9 rfl ?_
      refine n_icmp_ge (tgt := 40) hx hb dX0_steps_11 (by decide) (by omega) (by omega) (fun zc11 => ?_) (fun zc11 => ?_)
      · refine lv_iconst (v := -1) hx hb dX0_steps_40 (by decide) ?_
        exact r_iret C zlw7 dX0_steps_41 ⟨rfl, (by rw [← hst, show 10 - f = 0 by omega]; rfl)⟩
      · refine lv_iload_n hx hb dX0_steps_14 rfl (lv_at hl 3 rfl) ?_
        refine lv_iload_n hx hb dX0_steps_15 rfl (lv_at hl 2 rfl) ?_
        refine lv_ishr hx hb dX0_steps_16 ?_
        refine lv_iconst (v := nI 1) hx hb dX0_steps_17 rfl ?_
        refine lv_iand hx hb dX0_steps_18 ?_
        refine lv_iconst (v := nI 1) hx hb dX0_steps_19 rfl ?_
        refine lv_icmp_ne (tgt := 26) hx hb dX0_steps_20 (by decide) (fun zc20 => ?_) (fun zc20 => ?_)
        · refine lv_iload_n hx hb dX0_steps_26 rfl (lv_at hl 3 rfl) ?_
          refine lv_aload_n hx hb dX0_steps_27 rfl (lv_at hl 0 rfl) ?_
          refine lv_iload_n hx hb dX0_steps_28 rfl (lv_at hl 3 rfl) ?_
          refine r_sI C zlw7 hl.1 [.ref (ad i), .int st] 2 rfl (c_X0_linkedFromAny (l := l) (G := G) (tC := tC) (ad := ad) (N := N) (E := E) (i := i) (pg := pg) (cm := cm) (hd := hd) (lst := lst) (md := md) (sd := sd) (cs := cs) (s := s) (st := st) (by omega) hE0 hE1 (by first | assumption | omega) (by first | assumption | omega)) gX0_steps_X0_linkedFromAny rfl ⟨rfl, rfl⟩ (by decide +kernel) ⟨Nat.le_of_ble_eq_true rfl, Nat.le_of_ble_eq_true rfl⟩ (rest := [.int st]) rfl (Nat.le_of_ble_eq_true rfl) dX0_steps_29 ⟨Nat.zero_le _, Nat.zero_le _⟩ (fun zr1 zE1 zH1 zL1 zp1 zw1 => ?_)
          obtain ⟨ze1, zq1⟩ := zp1
          rw [ze1] at zw1
          clear ze1
          rw [zq1]
          refine lv_ior hx hb dX0_steps_32 ?_
          refine lv_istore_n (lv' := [(3, .int (st ||| (frM s pg st (nI 0) pg))), (0, .ref (ad i)), (1, .int (nI k)), (2, .int (nI o)), (4, .int (nI f))]) hx hb dX0_steps_33 rfl hl (by decide) rfl (fun ls hl => ?_)
          refine lv_iinc (v := nI (f + 1)) (lv' := [(4, .int (nI (f + 1))), (3, .int (st ||| (frM s pg st (nI 0) pg))), (0, .ref (ad i)), (1, .int (nI k)), (2, .int (nI o))]) hx hb dX0_steps_34 hl (k := 4) rfl (by rw [show Int32.ofInt 1 = nI 1 from rfl, nI_add]) (by decide) rfl (fun ls hl => ?_)
          refine lv_goto (tgt := 7) hx hb dX0_steps_37 (by decide) ?_
          exact zih7 (f + 1) (st ||| (frM s pg st (nI 0) pg)) (by omega) (by omega) (by rw [← hst, show 10 - f = (10 - (f + 1)) + 1 by omega, frS, if_neg zc20, frM_or]) _ _ zw1 _ (lv_sub hl [2, 3, 4, 1, 0] rfl)
        · refine lv_iload hx hb dX0_steps_23 (lv_at hl 4 rfl) ?_
          exact r_iret C zlw7 dX0_steps_25 ⟨rfl, (by rw [← hst, show 10 - f = (10 - (f + 1)) + 1 by omega, frS, if_pos zc20])⟩
  exact zlp7 _ 0 ((nI 1) <<< (nI k &&& 31)) (Nat.lt_succ_self _) (by omega) (by rfl) _ _ hw _ (lv_sub hl [2, 3, 4, 1, 0] rfl)

set_option maxHeartbeats 4000000 in
set_option maxRecDepth 100000 in
theorem c_J9_floorMod_7cf53 {l : Launch} {G : vG} {tC : Nat} {ad : Nat → Nat} {N : Nat} {E : Nat → va_E} {a b : Nat} (ha : a < 16) (hb9 : b < 17) : MI l yJ9_floorMod_7cf53 wsJ9_floorMod_7cf53 ({ frames := 0, cells := 0, slots := 0, locals := 0 } : Room) G tC ad N E [.int (nI a - nI b), .int (nI 16)] (fun r E2 => E2 = E ∧ r = nI ((a + 16 - b) % 16)) := by
  refine MI_ofF RJ9 rfl (by decide +kernel) rfl (Nat.le_of_ble_eq_true rfl) ?_
  intro pp_ ee_ ss_ mm_ aa_ bb_ me_ cc_ A ls C hw hl
  have hx := C.1
  have hb := C.2.1
  have hown := C.2.2.2.2.1
  have hts := C.2.2.2.2.2.1
  have hl : lv_has ls 3 [(0, .int (nI a - nI b)), (1, .int (nI 16))] := hl
  refine lv_iload_n hx hb dJ9_floorMod_7cf53_0 rfl (lv_at hl 0 rfl) ?_
  refine lv_iload_n hx hb dJ9_floorMod_7cf53_1 rfl (lv_at hl 1 rfl) ?_
  refine lv_irem hx hb dJ9_floorMod_7cf53_2 (by decide) ?_
  refine lv_istore_n (lv' := [(2, .int ((nI a - nI b) - (nI a - nI b) / (nI 16) * (nI 16))), (0, .int (nI a - nI b)), (1, .int (nI 16))]) hx hb dJ9_floorMod_7cf53_3 rfl hl (by decide) rfl (fun ls hl => ?_)
  refine lv_iload_n hx hb dJ9_floorMod_7cf53_4 rfl (lv_at hl 1 rfl) ?_
  refine lv_iload_n hx hb dJ9_floorMod_7cf53_5 rfl (lv_at hl 2 rfl) ?_
  refine lv_ixor hx hb dJ9_floorMod_7cf53_6 ?_
  refine lv_if_ge (tgt := 18) hx hb dJ9_floorMod_7cf53_7 (by decide) (fun zc7 => ?_) (fun zc7 => ?_)
  · refine lv_iload_n hx hb dJ9_floorMod_7cf53_18 rfl (lv_at hl 0 rfl) ?_
    exact r_iret C hw dJ9_floorMod_7cf53_19 ⟨rfl, (by exact (fm_ok a ha b hb9).1 zc7)⟩
  · refine lv_iload_n hx hb dJ9_floorMod_7cf53_10 rfl (lv_at hl 0 rfl) ?_
    refine lv_if_eq (tgt := 18) hx hb dJ9_floorMod_7cf53_11 (by decide) (fun zc11 => ?_) (fun zc11 => ?_)
    · refine lv_iload_n hx hb dJ9_floorMod_7cf53_18 rfl (lv_at hl 0 rfl) ?_
      exact r_iret C hw dJ9_floorMod_7cf53_19 ⟨rfl, (by exact (fm_ok a ha b hb9).2.1 zc11)⟩
    · refine lv_iload_n hx hb dJ9_floorMod_7cf53_14 rfl (lv_at hl 0 rfl) ?_
      refine lv_iload_n hx hb dJ9_floorMod_7cf53_15 rfl (lv_at hl 2 rfl) ?_
      refine lv_iadd hx hb dJ9_floorMod_7cf53_16 ?_
      exact r_iret C hw dJ9_floorMod_7cf53_17 ⟨rfl, (by exact (fm_ok a ha b hb9).2.2 zc7 zc11)⟩

set_option maxHeartbeats 4000000 in
set_option maxRecDepth 100000 in
theorem c_J9_floorMod_7cf53_p {l : Launch} {G : vG} {tC : Nat} {ad : Nat → Nat} {N : Nat} {E : Nat → va_E} {a b : Nat} (ha : a < 2147483648) (hb0 : 0 < b) (hb9 : b < 2147483648) : MI l yJ9_floorMod_7cf53 wsJ9_floorMod_7cf53 ({ frames := 0, cells := 0, slots := 0, locals := 0 } : Room) G tC ad N E [.int (nI a), .int (nI b)] (fun r E2 => E2 = E ∧ r = nI (a % b)) := by
  refine MI_ofF RJ9 rfl (by decide +kernel) rfl (Nat.le_of_ble_eq_true rfl) ?_
  intro pp_ ee_ ss_ mm_ aa_ bb_ me_ cc_ A ls C hw hl
  have hx := C.1
  have hb := C.2.1
  have hown := C.2.2.2.2.1
  have hts := C.2.2.2.2.2.1
  have hl : lv_has ls 3 [(0, .int (nI a)), (1, .int (nI b))] := hl
  refine lv_iload_n hx hb dJ9_floorMod_7cf53_0 rfl (lv_at hl 0 rfl) ?_
  refine lv_iload_n hx hb dJ9_floorMod_7cf53_1 rfl (lv_at hl 1 rfl) ?_
  refine lv_irem hx hb dJ9_floorMod_7cf53_2 (fun zq => by have z1 := (nI_eq (a := b) (b := 0) (by omega) (by omega)).mp zq; omega) ?_
  refine r_nat (a % b) (pk_rem ha hb0 hb9) ?_
  refine lv_istore_n (lv' := [(2, .int (nI (a % b))), (0, .int (nI a)), (1, .int (nI b))]) hx hb dJ9_floorMod_7cf53_3 rfl hl (by decide) rfl (fun ls hl => ?_)
  refine lv_iload_n hx hb dJ9_floorMod_7cf53_4 rfl (lv_at hl 1 rfl) ?_
  refine lv_iload_n hx hb dJ9_floorMod_7cf53_5 rfl (lv_at hl 2 rfl) ?_
  refine lv_ixor hx hb dJ9_floorMod_7cf53_6 ?_
  refine r_nat (a ^^^ b) (xor_nI _ _) ?_
  have zb6 : a ^^^ b < 2147483648 := Nat.xor_lt_two_pow (n := 31) ha hb9
  refine n_if_ge (tgt := 18) hx hb dJ9_floorMod_7cf53_7 (by decide) (by omega) (fun zc7 => ?_) (fun zc7 => ?_)
  · refine lv_iload_n hx hb dJ9_floorMod_7cf53_18 rfl (lv_at hl 0 rfl) ?_
    exact r_iret C hw dJ9_floorMod_7cf53_19 ⟨rfl, (by rfl)⟩
  · exact zc7.elim

set_option maxHeartbeats 4000000 in
set_option maxRecDepth 100000 in
theorem c_X4_urgency {l : Launch} {G : vG} {tC : Nat} {ad : Nat → Nat} {N : Nat} {E : Nat → va_E} {z rp : Nat} {tm : Int32} {wt en : Nat → Int32} {k : Nat} (hN0 : z + 6 ≤ N) (hE0 : E z = .inr (1, [.ref (ad (z + 1)), .ref (ad (z + 2)), .ref (ad (z + 3)), .ref (ad (z + 4)), .ref (ad (z + 5)), .int (nI rp), .int tm])) (hE1 : E (z + 2) = eI G 10 wt) (hE2 : E (z + 4) = eI G 10 en) (hk : k < 10) : MI l yX4_urgency wsX4_urgency ({ frames := 0, cells := 0, slots := 0, locals := 0 } : Room) G tC ad N E [.ref (ad z), .int (nI k)] (fun r E2 => E2 = E ∧ r = wt k * (tm - en k + nI 1)) := by
  refine MI_of RX4 rfl (by decide) rfl (Nat.le_of_ble_eq_true rfl) ?_
  intro pp_ ee_ ss_ mm_ aa_ bb_ me_ cc_ A ls C hw hl
  have hx := C.1
  have hb := C.2.1
  have hown := C.2.2.2.2.1
  have hts := C.2.2.2.2.2.1
  have hl : lv_has ls 2 [(0, .ref (ad z)), (1, .int (nI k))] := hl
  have hinX4 : ∀ w ∈ u_ws RX4 TX4 7, w ∈ wsX4_urgency := by decide +kernel
  refine lv_aload_n hx hb dX4_urgency_0 rfl (lv_at hl 0 rfl) ?_
  refine r_get C hw RX4 TX4 7 1 hinX4 (i := z) (by omega) hE0 rfl 1 (by decide) (by decide +kernel) rfl (v := .ref (ad (z + 2))) rfl dX4_urgency_1 ?_
  refine lv_iload_n hx hb dX4_urgency_4 rfl (lv_at hl 1 rfl) ?_
  refine r_iaN C hw (i := (z + 2)) (by omega) hE1 (j := k) (by omega) (by omega) dX4_urgency_5 ?_
  refine lv_aload_n hx hb dX4_urgency_6 rfl (lv_at hl 0 rfl) ?_
  refine r_get C hw RX4 TX4 7 1 hinX4 (i := z) (by omega) hE0 rfl 6 (by decide) (by decide +kernel) rfl (v := .int tm) rfl dX4_urgency_7 ?_
  refine lv_aload_n hx hb dX4_urgency_10 rfl (lv_at hl 0 rfl) ?_
  refine r_get C hw RX4 TX4 7 1 hinX4 (i := z) (by omega) hE0 rfl 3 (by decide) (by decide +kernel) rfl (v := .ref (ad (z + 4))) rfl dX4_urgency_11 ?_
  refine lv_iload_n hx hb dX4_urgency_14 rfl (lv_at hl 1 rfl) ?_
  refine r_iaN C hw (i := (z + 4)) (by omega) hE2 (j := k) (by omega) (by omega) dX4_urgency_15 ?_
  refine lv_isub hx hb dX4_urgency_16 ?_
  refine lv_iconst (v := nI 1) hx hb dX4_urgency_17 rfl ?_
  refine lv_iadd hx hb dX4_urgency_18 ?_
  refine lv_imul hx hb dX4_urgency_19 ?_
  exact r_iret C hw dX4_urgency_20 ⟨rfl, (by rfl)⟩

set_option maxHeartbeats 4000000 in
set_option maxRecDepth 100000 in
theorem c_X4_cost {l : Launch} {G : vG} {tC : Nat} {ad : Nat → Nat} {N : Nat} {E : Nat → va_E} {z rp : Nat} {tm : Int32} {ln og : Nat → Int32} {k : Nat} (hN0 : z + 6 ≤ N) (hE0 : E z = .inr (1, [.ref (ad (z + 1)), .ref (ad (z + 2)), .ref (ad (z + 3)), .ref (ad (z + 4)), .ref (ad (z + 5)), .int (nI rp), .int tm])) (hE1 : E (z + 1) = eI G 10 ln) (hE2 : E (z + 3) = eI G 10 og) (hk : k < 10) : MI l yX4_cost wsX4_cost ({ frames := 0, cells := 0, slots := 0, locals := 0 } : Room) G tC ad N E [.ref (ad z), .int (nI k)] (fun r E2 => E2 = E ∧ r = (og k + nI 1) * ln k) := by
  refine MI_of RX4 rfl (by decide) rfl (Nat.le_of_ble_eq_true rfl) ?_
  intro pp_ ee_ ss_ mm_ aa_ bb_ me_ cc_ A ls C hw hl
  have hx := C.1
  have hb := C.2.1
  have hown := C.2.2.2.2.1
  have hts := C.2.2.2.2.2.1
  have hl : lv_has ls 2 [(0, .ref (ad z)), (1, .int (nI k))] := hl
  have hinX4 : ∀ w ∈ u_ws RX4 TX4 7, w ∈ wsX4_cost := by decide +kernel
  refine lv_aload_n hx hb dX4_cost_0 rfl (lv_at hl 0 rfl) ?_
  refine r_get C hw RX4 TX4 7 1 hinX4 (i := z) (by omega) hE0 rfl 2 (by decide) (by decide +kernel) rfl (v := .ref (ad (z + 3))) rfl dX4_cost_1 ?_
  refine lv_iload_n hx hb dX4_cost_4 rfl (lv_at hl 1 rfl) ?_
  refine r_iaN C hw (i := (z + 3)) (by omega) hE2 (j := k) (by omega) (by omega) dX4_cost_5 ?_
  refine lv_iconst (v := nI 1) hx hb dX4_cost_6 rfl ?_
  refine lv_iadd hx hb dX4_cost_7 ?_
  refine lv_aload_n hx hb dX4_cost_8 rfl (lv_at hl 0 rfl) ?_
  refine r_get C hw RX4 TX4 7 1 hinX4 (i := z) (by omega) hE0 rfl 0 (by decide) (by decide +kernel) rfl (v := .ref (ad (z + 1))) rfl dX4_cost_9 ?_
  refine lv_iload_n hx hb dX4_cost_12 rfl (lv_at hl 1 rfl) ?_
  refine r_iaN C hw (i := (z + 1)) (by omega) hE1 (j := k) (by omega) (by omega) dX4_cost_13 ?_
  refine lv_imul hx hb dX4_cost_14 ?_
  exact r_iret C hw dX4_cost_15 ⟨rfl, (by rfl)⟩

set_option maxHeartbeats 4000000 in
set_option maxRecDepth 100000 in
theorem c_X4_goesAhead {l : Launch} {G : vG} {tC : Nat} {ad : Nat → Nat} {N : Nat} {E : Nat → va_E} {z rp : Nat} {tm : Int32} {ln wt og en l9 w9 : Nat → Int32} {rho k o : Nat} (hN0 : z + 6 ≤ N) (hE0 : E z = .inr (1, [.ref (ad (z + 1)), .ref (ad (z + 2)), .ref (ad (z + 3)), .ref (ad (z + 4)), .ref (ad (z + 5)), .int (nI rp), .int tm])) (hE1 : E (z + 1) = eI G 10 ln) (hE2 : E (z + 2) = eI G 10 wt) (hE3 : E (z + 3) = eI G 10 og) (hE4 : E (z + 4) = eI G 10 en) (he2 : eq2 ln wt l9 w9 rp) (hrp : rp ≤ 10) (hk : k < rp) (ho : o < rp) (hr : rho ≤ 3) : MI l yX4_goesAhead wsX4_goesAhead ({ frames := 1, cells := 0, slots := 0, locals := 21 } : Room) G tC ad N E [.ref (ad z), .int (nI rho), .int (nI k), .int (nI o)] (fun r E2 => E2 = E ∧ r = if btr l9 w9 og en tm rho k o then 1 else 0) := by
  refine MI_of RX4 rfl (by decide) rfl (Nat.le_of_ble_eq_true rfl) ?_
  intro pp_ ee_ ss_ mm_ aa_ bb_ me_ cc_ A ls C hw hl
  have hx := C.1
  have hb := C.2.1
  have hown := C.2.2.2.2.1
  have hts := C.2.2.2.2.2.1
  have hl : lv_has ls 4 [(0, .ref (ad z)), (1, .int (nI rho)), (2, .int (nI k)), (3, .int (nI o))] := hl
  have hinX4 : ∀ w ∈ u_ws RX4 TX4 7, w ∈ wsX4_goesAhead := by decide +kernel
  refine lv_iload_n hx hb dX4_goesAhead_0 rfl (lv_at hl 1 rfl) ?_
  by_cases zc1_1 : rho = 1
  · refine lv_lookup (tgt := 28) hx hb dX4_goesAhead_1 (off := 27) (by decide) (by rw [zc1_1]; decide) (by decide) ?_
    refine lv_aload_n hx hb dX4_goesAhead_28 rfl (lv_at hl 0 rfl) ?_
    refine lv_iload_n hx hb dX4_goesAhead_29 rfl (lv_at hl 2 rfl) ?_
    refine r_vI C hw hl.1 (i := z) (by omega) hE0 (T := TX4) (n := 7) rfl [.int (nI k)] 1 rfl (c_X4_urgency (l := l) (G := G) (tC := tC) (ad := ad) (N := N) (E := E) (z := z) (rp := rp) (tm := tm) (wt := wt) (en := en) (k := k) (by omega) hE0 hE2 hE4 (by first | assumption | omega)) gX4_goesAhead_X4_urgency rfl ⟨rfl, rfl⟩ (by decide +kernel) ⟨Nat.le_of_ble_eq_true rfl, Nat.le_of_ble_eq_true rfl⟩ (rest := []) rfl (Nat.le_of_ble_eq_true rfl) dX4_goesAhead_30 ⟨Nat.zero_le _, Nat.zero_le _⟩ (fun zr1 zE1 zH1 zL1 zp1 zw1 => ?_)
    obtain ⟨ze1, zq1⟩ := zp1
    rw [ze1] at zw1
    clear ze1
    rw [zq1]
    refine lv_aload_n hx hb dX4_goesAhead_33 rfl (lv_at hl 0 rfl) ?_
    refine lv_iload_n hx hb dX4_goesAhead_34 rfl (lv_at hl 3 rfl) ?_
    refine r_vI C zw1 hl.1 (i := z) (by omega) hE0 (T := TX4) (n := 7) rfl [.int (nI o)] 1 rfl (c_X4_urgency (l := l) (G := G) (tC := tC) (ad := ad) (N := N) (E := E) (z := z) (rp := rp) (tm := tm) (wt := wt) (en := en) (k := o) (by omega) hE0 hE2 hE4 (by first | assumption | omega)) gX4_goesAhead_X4_urgency rfl ⟨rfl, rfl⟩ (by decide +kernel) ⟨Nat.le_of_ble_eq_true rfl, Nat.le_of_ble_eq_true rfl⟩ (rest := [.int (wt k * (tm - en k + nI 1))]) rfl (Nat.le_of_ble_eq_true rfl) dX4_goesAhead_35 ⟨Nat.zero_le _, Nat.zero_le _⟩ (fun zr2 zE2 zH2 zL2 zp2 zw2 => ?_)
    obtain ⟨ze2, zq2⟩ := zp2
    rw [ze2] at zw2
    clear ze2
    rw [zq2]
    obtain ⟨zl1, zl2⟩ := he2 k hk
    obtain ⟨zl3, zl4⟩ := he2 o ho
    refine lv_icmp_le (tgt := 45) hx hb dX4_goesAhead_38 (by decide) (fun zc38 => ?_) (fun zc38 => ?_)
    · refine lv_iconst (v := nI 0) hx hb dX4_goesAhead_45 rfl ?_
      exact r_zret C zw2 dX4_goesAhead_46 (Or.inl rfl) ⟨rfl, (by rw [zl2, zl4] at zc38; rw [if_neg (fun zq => zq.elim (fun z => Int32.not_lt.mpr zc38 z.2) (fun z => z.elim (fun z => absurd z.1 (by omega)) (fun z => z.1 zc1_1)))]; rfl)⟩
    · refine lv_iconst (v := nI 1) hx hb dX4_goesAhead_41 rfl ?_
      refine lv_goto (tgt := 46) hx hb dX4_goesAhead_42 (by decide) ?_
      exact r_zret C zw2 dX4_goesAhead_46 (Or.inr rfl) ⟨rfl, (by rw [zl2, zl4] at zc38; rw [if_pos (Or.inl ⟨zc1_1, Int32.not_le.mp zc38⟩)]; rfl)⟩
  by_cases zc1_2 : rho = 2
  · refine lv_lookup (tgt := 47) hx hb dX4_goesAhead_1 (off := 46) (by decide) (by rw [zc1_2]; decide) (by decide) ?_
    refine lv_aload_n hx hb dX4_goesAhead_47 rfl (lv_at hl 0 rfl) ?_
    refine lv_iload_n hx hb dX4_goesAhead_48 rfl (lv_at hl 2 rfl) ?_
    refine r_vI C hw hl.1 (i := z) (by omega) hE0 (T := TX4) (n := 7) rfl [.int (nI k)] 1 rfl (c_X4_cost (l := l) (G := G) (tC := tC) (ad := ad) (N := N) (E := E) (z := z) (rp := rp) (tm := tm) (ln := ln) (og := og) (k := k) (by omega) hE0 hE1 hE3 (by first | assumption | omega)) gX4_goesAhead_X4_cost rfl ⟨rfl, rfl⟩ (by decide +kernel) ⟨Nat.le_of_ble_eq_true rfl, Nat.le_of_ble_eq_true rfl⟩ (rest := []) rfl (Nat.le_of_ble_eq_true rfl) dX4_goesAhead_49 ⟨Nat.zero_le _, Nat.zero_le _⟩ (fun zr3 zE3 zH3 zL3 zp3 zw3 => ?_)
    obtain ⟨ze3, zq3⟩ := zp3
    rw [ze3] at zw3
    clear ze3
    rw [zq3]
    refine lv_aload_n hx hb dX4_goesAhead_52 rfl (lv_at hl 0 rfl) ?_
    refine r_get C zw3 RX4 TX4 7 1 hinX4 (i := z) (by omega) hE0 rfl 1 (by decide) (by decide +kernel) rfl (v := .ref (ad (z + 2))) rfl dX4_goesAhead_53 ?_
    refine lv_iload_n hx hb dX4_goesAhead_56 rfl (lv_at hl 3 rfl) ?_
    refine r_iaN C zw3 (i := (z + 2)) (by omega) hE2 (j := o) (by omega) (by omega) dX4_goesAhead_57 ?_
    refine lv_imul hx hb dX4_goesAhead_58 ?_
    refine lv_aload_n hx hb dX4_goesAhead_59 rfl (lv_at hl 0 rfl) ?_
    refine lv_iload_n hx hb dX4_goesAhead_60 rfl (lv_at hl 3 rfl) ?_
    refine r_vI C zw3 hl.1 (i := z) (by omega) hE0 (T := TX4) (n := 7) rfl [.int (nI o)] 1 rfl (c_X4_cost (l := l) (G := G) (tC := tC) (ad := ad) (N := N) (E := E) (z := z) (rp := rp) (tm := tm) (ln := ln) (og := og) (k := o) (by omega) hE0 hE1 hE3 (by first | assumption | omega)) gX4_goesAhead_X4_cost rfl ⟨rfl, rfl⟩ (by decide +kernel) ⟨Nat.le_of_ble_eq_true rfl, Nat.le_of_ble_eq_true rfl⟩ (rest := [.int (((og k + nI 1) * ln k) * (wt o))]) rfl (Nat.le_of_ble_eq_true rfl) dX4_goesAhead_61 ⟨Nat.zero_le _, Nat.zero_le _⟩ (fun zr4 zE4 zH4 zL4 zp4 zw4 => ?_)
    obtain ⟨ze4, zq4⟩ := zp4
    rw [ze4] at zw4
    clear ze4
    rw [zq4]
    refine lv_aload_n hx hb dX4_goesAhead_64 rfl (lv_at hl 0 rfl) ?_
    refine r_get C zw4 RX4 TX4 7 1 hinX4 (i := z) (by omega) hE0 rfl 1 (by decide) (by decide +kernel) rfl (v := .ref (ad (z + 2))) rfl dX4_goesAhead_65 ?_
    refine lv_iload_n hx hb dX4_goesAhead_68 rfl (lv_at hl 2 rfl) ?_
    refine r_iaN C zw4 (i := (z + 2)) (by omega) hE2 (j := k) (by omega) (by omega) dX4_goesAhead_69 ?_
    refine lv_imul hx hb dX4_goesAhead_70 ?_
    obtain ⟨zl1, zl2⟩ := he2 k hk
    obtain ⟨zl3, zl4⟩ := he2 o ho
    refine lv_icmp_ge (tgt := 78) hx hb dX4_goesAhead_71 (by decide) (fun zc71 => ?_) (fun zc71 => ?_)
    · refine lv_iconst (v := nI 0) hx hb dX4_goesAhead_78 rfl ?_
      exact r_zret C zw4 dX4_goesAhead_79 (Or.inl rfl) ⟨rfl, (by rw [zl1, zl2, zl3, zl4] at zc71; rw [if_neg (fun zq => zq.elim (fun z => zc1_1 z.1) (fun z => z.elim (fun z => Int32.not_lt.mpr zc71 z.2) (fun z => z.2.1 zc1_2)))]; rfl)⟩
    · refine lv_iconst (v := nI 1) hx hb dX4_goesAhead_74 rfl ?_
      refine lv_goto (tgt := 79) hx hb dX4_goesAhead_75 (by decide) ?_
      exact r_zret C zw4 dX4_goesAhead_79 (Or.inr rfl) ⟨rfl, (by rw [zl1, zl2, zl3, zl4] at zc71; rw [if_pos (Or.inr (Or.inl ⟨zc1_2, Int32.not_le.mp zc71⟩))]; rfl)⟩
  have zc1_d : Op.lookupswitch.offset [(1, 27), (2, 46)] (79) (nI rho).toInt = 79 := by
    rw [lv_osw (k := nI 1) (fun zq => zc1_1 ((nI_eq (by omega) (by omega)).mp zq)) (by decide), lv_osw (k := nI 2) (fun zq => zc1_2 ((nI_eq (by omega) (by omega)).mp zq)) (by decide)]; rfl
  refine lv_lookup (tgt := 80) hx hb dX4_goesAhead_1 (off := 79) (by decide) zc1_d (by decide) ?_
  refine lv_aload_n hx hb dX4_goesAhead_80 rfl (lv_at hl 0 rfl) ?_
  refine lv_iload_n hx hb dX4_goesAhead_81 rfl (lv_at hl 2 rfl) ?_
  refine r_vI C hw hl.1 (i := z) (by omega) hE0 (T := TX4) (n := 7) rfl [.int (nI k)] 1 rfl (c_X4_cost (l := l) (G := G) (tC := tC) (ad := ad) (N := N) (E := E) (z := z) (rp := rp) (tm := tm) (ln := ln) (og := og) (k := k) (by omega) hE0 hE1 hE3 (by first | assumption | omega)) gX4_goesAhead_X4_cost rfl ⟨rfl, rfl⟩ (by decide +kernel) ⟨Nat.le_of_ble_eq_true rfl, Nat.le_of_ble_eq_true rfl⟩ (rest := []) rfl (Nat.le_of_ble_eq_true rfl) dX4_goesAhead_82 ⟨Nat.zero_le _, Nat.zero_le _⟩ (fun zr5 zE5 zH5 zL5 zp5 zw5 => ?_)
  obtain ⟨ze5, zq5⟩ := zp5
  rw [ze5] at zw5
  clear ze5
  rw [zq5]
  refine lv_aload_n hx hb dX4_goesAhead_85 rfl (lv_at hl 0 rfl) ?_
  refine lv_iload_n hx hb dX4_goesAhead_86 rfl (lv_at hl 3 rfl) ?_
  refine r_vI C zw5 hl.1 (i := z) (by omega) hE0 (T := TX4) (n := 7) rfl [.int (nI o)] 1 rfl (c_X4_cost (l := l) (G := G) (tC := tC) (ad := ad) (N := N) (E := E) (z := z) (rp := rp) (tm := tm) (ln := ln) (og := og) (k := o) (by omega) hE0 hE1 hE3 (by first | assumption | omega)) gX4_goesAhead_X4_cost rfl ⟨rfl, rfl⟩ (by decide +kernel) ⟨Nat.le_of_ble_eq_true rfl, Nat.le_of_ble_eq_true rfl⟩ (rest := [.int ((og k + nI 1) * ln k)]) rfl (Nat.le_of_ble_eq_true rfl) dX4_goesAhead_87 ⟨Nat.zero_le _, Nat.zero_le _⟩ (fun zr6 zE6 zH6 zL6 zp6 zw6 => ?_)
  obtain ⟨ze6, zq6⟩ := zp6
  rw [ze6] at zw6
  clear ze6
  rw [zq6]
  obtain ⟨zl1, zl2⟩ := he2 k hk
  obtain ⟨zl3, zl4⟩ := he2 o ho
  refine lv_icmp_ge (tgt := 97) hx hb dX4_goesAhead_90 (by decide) (fun zc90 => ?_) (fun zc90 => ?_)
  · refine lv_iconst (v := nI 0) hx hb dX4_goesAhead_97 rfl ?_
    exact r_zret C zw6 dX4_goesAhead_98 (Or.inl rfl) ⟨rfl, (by rw [zl1, zl3] at zc90; rw [if_neg (fun zq => zq.elim (fun z => zc1_1 z.1) (fun z => z.elim (fun z => zc1_2 z.1) (fun z => Int32.not_lt.mpr zc90 z.2.2)))]; rfl)⟩
  · refine lv_iconst (v := nI 1) hx hb dX4_goesAhead_93 rfl ?_
    refine lv_goto (tgt := 98) hx hb dX4_goesAhead_94 (by decide) ?_
    exact r_zret C zw6 dX4_goesAhead_98 (Or.inr rfl) ⟨rfl, (by rw [zl1, zl3] at zc90; rw [if_pos (Or.inr (Or.inr ⟨zc1_1, zc1_2, Int32.not_le.mp zc90⟩))]; rfl)⟩

set_option maxHeartbeats 4000000 in
set_option maxRecDepth 100000 in
theorem c_X4_foremost {l : Launch} {G : vG} {tC : Nat} {ad : Nat → Nat} {N : Nat} {E : Nat → va_E} {z rp : Nat} {tm : Int32} {ln wt og en l9 w9 : Nat → Int32} {rho : Nat} (hN0 : z + 6 ≤ N) (hE0 : E z = .inr (1, [.ref (ad (z + 1)), .ref (ad (z + 2)), .ref (ad (z + 3)), .ref (ad (z + 4)), .ref (ad (z + 5)), .int (nI rp), .int tm])) (hE1 : E (z + 1) = eI G 10 ln) (hE2 : E (z + 2) = eI G 10 wt) (hE3 : E (z + 3) = eI G 10 og) (hE4 : E (z + 4) = eI G 10 en) (he2 : eq2 ln wt l9 w9 rp) (hrp : rp ≤ 10) (hr : rho ≤ 3) (h1 : 0 < rp) : MI l yX4_foremost wsX4_foremost ({ frames := 2, cells := 0, slots := 0, locals := 44 } : Room) G tC ad N E [.ref (ad z), .int (nI rho)] (fun r E2 => E2 = E ∧ r = nI (fore l9 w9 og en tm rho (rp - 1))) := by
  refine MI_of RX4 rfl (by decide) rfl (Nat.le_of_ble_eq_true rfl) ?_
  intro pp_ ee_ ss_ mm_ aa_ bb_ me_ cc_ A ls C hw hl
  have hx := C.1
  have hb := C.2.1
  have hown := C.2.2.2.2.1
  have hts := C.2.2.2.2.2.1
  have hl : lv_has ls 4 [(0, .ref (ad z)), (1, .int (nI rho))] := hl
  have hinX4 : ∀ w ∈ u_ws RX4 TX4 7, w ∈ wsX4_foremost := by decide +kernel
  refine lv_iconst (v := nI 0) hx hb dX4_foremost_0 rfl ?_
  refine lv_istore_n (lv' := [(2, .int (nI 0)), (0, .ref (ad z)), (1, .int (nI rho))]) hx hb dX4_foremost_1 rfl hl (by decide) rfl (fun ls hl => ?_)
  refine lv_iconst (v := nI 1) hx hb dX4_foremost_2 rfl ?_
  refine lv_istore_n (lv' := [(3, .int (nI 1)), (2, .int (nI 0)), (0, .ref (ad z)), (1, .int (nI rho))]) hx hb dX4_foremost_3 rfl hl (by decide) rfl (fun ls hl => ?_)
  have zlp4 : ∀ (zn : Nat) (k f : Nat), rp - k < zn → (1 ≤ k) → (k ≤ rp) → (f = fore l9 w9 og en tm rho (k - 1)) → (f < k) → ∀ (H9 : Heap) (L9 : List Loc), Wd G A ss_.heap H9 L9 ad E N → ∀ (ls : Array Slot), lv_has ls 4 [(0, .ref (ad z)), (1, .int (nI rho)), (2, .int (nI f)), (3, .int (nI k))] → W pp_ l ee_ ({ frames := 2, cells := 0, slots := 0, locals := 44 } : Room) ss_ mm_ aa_ bb_ me_ cc_ H9 L9 0 0 (QI bb_ aa_ ss_ G ad N A (fun r E2 => E2 = E ∧ r = nI (fore l9 w9 og en tm rho (rp - 1)))) (F0 mm_ 4 ls []) := by
    intro zn
    induction zn with
    | zero => intro k f zhm; exact absurd zhm (Nat.not_lt_zero _)
    | succ zn zih4 =>
      intro k f zhm4 hk1 hk2 hf hfl zH_4 zL_4 zlw4 ls hl
      refine lv_iload_n hx hb dX4_foremost_4 rfl (lv_at hl 3 rfl) ?_
      refine lv_aload_n hx hb dX4_foremost_5 rfl (lv_at hl 0 rfl) ?_
      refine r_get C zlw4 RX4 TX4 7 1 hinX4 (i := z) (by omega) hE0 rfl 5 (by decide) (by decide +kernel) rfl (v := .int (nI rp)) rfl dX4_foremost_6 ?_
      refine n_icmp_ge (tgt := 30) hx hb dX4_foremost_9 (by decide) (by omega) (by omega) (fun zc9 => ?_) (fun zc9 => ?_)
      · refine lv_iload_n hx hb dX4_foremost_30 rfl (lv_at hl 2 rfl) ?_
        exact r_iret C zlw4 dX4_foremost_31 ⟨rfl, (by rw [hf, show k = rp by omega])⟩
      · refine lv_aload_n hx hb dX4_foremost_12 rfl (lv_at hl 0 rfl) ?_
        refine lv_iload_n hx hb dX4_foremost_13 rfl (lv_at hl 1 rfl) ?_
        refine lv_iload_n hx hb dX4_foremost_14 rfl (lv_at hl 3 rfl) ?_
        refine lv_iload_n hx hb dX4_foremost_15 rfl (lv_at hl 2 rfl) ?_
        refine r_vI C zlw4 hl.1 (i := z) (by omega) hE0 (T := TX4) (n := 7) rfl [.int (nI rho), .int (nI k), .int (nI f)] 3 rfl (c_X4_goesAhead (l := l) (G := G) (tC := tC) (ad := ad) (N := N) (E := E) (z := z) (rp := rp) (tm := tm) (ln := ln) (wt := wt) (og := og) (en := en) (l9 := l9) (w9 := w9) (rho := rho) (k := k) (o := f) (by omega) hE0 hE1 hE2 hE3 hE4 (by first | assumption | omega) (by first | assumption | omega) (by first | assumption | omega) (by first | assumption | omega) (by first | assumption | omega)) gX4_foremost_X4_goesAhead rfl ⟨rfl, rfl⟩ (by decide +kernel) ⟨Nat.le_of_ble_eq_true rfl, Nat.le_of_ble_eq_true rfl⟩ (rest := []) rfl (Nat.le_of_ble_eq_true rfl) dX4_foremost_16 ⟨Nat.zero_le _, Nat.zero_le _⟩ (fun zr1 zE1 zH1 zL1 zp1 zw1 => ?_)
        obtain ⟨ze1, zq1⟩ := zp1
        rw [ze1] at zw1
        clear ze1
        rw [zq1]
        refine b_if_eq (tgt := 24) hx hb dX4_foremost_19 (by decide) (fun zc19 => ?_) (fun zc19 => ?_)
        · refine lv_iinc (v := nI (k + 1)) (lv' := [(3, .int (nI (k + 1))), (0, .ref (ad z)), (1, .int (nI rho)), (2, .int (nI f))]) hx hb dX4_foremost_24 hl (k := 3) rfl (by rw [show Int32.ofInt 1 = nI 1 from rfl, nI_add]) (by decide) rfl (fun ls hl => ?_)
          refine lv_goto (tgt := 4) hx hb dX4_foremost_27 (by decide) ?_
          exact zih4 (k + 1) f (by omega) (by omega) (by omega) (by rw [show k + 1 - 1 = (k - 1) + 1 by omega, fore, show k - 1 + 1 = k by omega, ← hf]; first | rw [if_pos zc19] | rw [if_neg zc19]) (by omega) _ _ zw1 _ (lv_sub hl [1, 2, 3, 0] rfl)
        · refine lv_iload_n hx hb dX4_foremost_22 rfl (lv_at hl 3 rfl) ?_
          refine lv_istore_n (lv' := [(2, .int (nI k)), (0, .ref (ad z)), (1, .int (nI rho)), (3, .int (nI k))]) hx hb dX4_foremost_23 rfl hl (by decide) rfl (fun ls hl => ?_)
          refine lv_iinc (v := nI (k + 1)) (lv' := [(3, .int (nI (k + 1))), (2, .int (nI k)), (0, .ref (ad z)), (1, .int (nI rho))]) hx hb dX4_foremost_24 hl (k := 3) rfl (by rw [show Int32.ofInt 1 = nI 1 from rfl, nI_add]) (by decide) rfl (fun ls hl => ?_)
          refine lv_goto (tgt := 4) hx hb dX4_foremost_27 (by decide) ?_
          exact zih4 (k + 1) k (by omega) (by omega) (by omega) (by rw [show k + 1 - 1 = (k - 1) + 1 by omega, fore, show k - 1 + 1 = k by omega, ← hf]; first | rw [if_pos zc19] | rw [if_neg zc19]) (by omega) _ _ zw1 _ (lv_sub hl [2, 3, 1, 0] rfl)
  exact zlp4 _ 1 0 (Nat.lt_succ_self _) (by omega) (by omega) (by rfl) (by omega) _ _ hw _ (lv_sub hl [2, 3, 1, 0] rfl)

set_option maxHeartbeats 4000000 in
set_option maxRecDepth 100000 in
theorem c_X4_waitEnds {l : Launch} {G : vG} {tC : Nat} {ad : Nat → Nat} {N : Nat} {E : Nat → va_E} {z rp : Nat} {tm : Int32} {en wa : Nat → Int32} {k : Nat} (hN0 : z + 6 ≤ N) (hE0 : E z = .inr (1, [.ref (ad (z + 1)), .ref (ad (z + 2)), .ref (ad (z + 3)), .ref (ad (z + 4)), .ref (ad (z + 5)), .int (nI rp), .int tm])) (hE1 : E (z + 4) = eI G 10 en) (hE2 : E (z + 5) = eI G 10 wa) (hk : k < 10) : MV l yX4_waitEnds wsX4_waitEnds ({ frames := 1, cells := 0, slots := 0, locals := 30 } : Room) G tC ad N E [.ref (ad z), .int (nI k)] (fun E2 => E2 (z + 5) = eI G 10 (upd wa k (mxI (wa k) (tm - en k))) ∧ (∀ j, j ≠ (z + 5) → E2 j = E j)) := by
  refine MV_of RX4 rfl (by decide) rfl (Nat.le_of_ble_eq_true rfl) ?_
  intro pp_ ee_ ss_ mm_ aa_ bb_ me_ cc_ A ls C hw hl
  have hx := C.1
  have hb := C.2.1
  have hown := C.2.2.2.2.1
  have hts := C.2.2.2.2.2.1
  have hl : lv_has ls 2 [(0, .ref (ad z)), (1, .int (nI k))] := hl
  have hinX4 : ∀ w ∈ u_ws RX4 TX4 7, w ∈ wsX4_waitEnds := by decide +kernel
  refine lv_aload_n hx hb dX4_waitEnds_0 rfl (lv_at hl 0 rfl) ?_
  refine r_get C hw RX4 TX4 7 1 hinX4 (i := z) (by omega) hE0 rfl 4 (by decide) (by decide +kernel) rfl (v := .ref (ad (z + 5))) rfl dX4_waitEnds_1 ?_
  refine lv_iload_n hx hb dX4_waitEnds_4 rfl (lv_at hl 1 rfl) ?_
  refine lv_aload_n hx hb dX4_waitEnds_5 rfl (lv_at hl 0 rfl) ?_
  refine r_get C hw RX4 TX4 7 1 hinX4 (i := z) (by omega) hE0 rfl 4 (by decide) (by decide +kernel) rfl (v := .ref (ad (z + 5))) rfl dX4_waitEnds_6 ?_
  refine lv_iload_n hx hb dX4_waitEnds_9 rfl (lv_at hl 1 rfl) ?_
  refine r_iaN C hw (i := (z + 5)) (by omega) hE2 (j := k) (by omega) (by omega) dX4_waitEnds_10 ?_
  refine lv_aload_n hx hb dX4_waitEnds_11 rfl (lv_at hl 0 rfl) ?_
  refine r_get C hw RX4 TX4 7 1 hinX4 (i := z) (by omega) hE0 rfl 6 (by decide) (by decide +kernel) rfl (v := .int tm) rfl dX4_waitEnds_12 ?_
  refine lv_aload_n hx hb dX4_waitEnds_15 rfl (lv_at hl 0 rfl) ?_
  refine r_get C hw RX4 TX4 7 1 hinX4 (i := z) (by omega) hE0 rfl 3 (by decide) (by decide +kernel) rfl (v := .ref (ad (z + 4))) rfl dX4_waitEnds_16 ?_
  refine lv_iload_n hx hb dX4_waitEnds_19 rfl (lv_at hl 1 rfl) ?_
  refine r_iaN C hw (i := (z + 4)) (by omega) hE1 (j := k) (by omega) (by omega) dX4_waitEnds_20 ?_
  refine lv_isub hx hb dX4_waitEnds_21 ?_
  refine va_mmax hx hb (by rw [C.2.2.2.1]; exact hl.1.symm) hown (hts (.methodLink RX4 76 Lib.Math.max.name) (by decide +kernel)) (hts (.static Lib.Math.max.name) (by decide +kernel)) (hts (.initialized "java/lang/Math") (by decide +kernel)) (hts (.code Lib.Math.max.name Lib.Math.max.code 2 (some .int)) (by decide +kernel)) (Nat.le_of_ble_eq_true rfl) (Nat.le_of_ble_eq_true rfl) (Nat.zero_le _) (Nat.zero_le _) dX4_waitEnds_22 ?_
  refine r_iasN C hw (i := (z + 5)) (by omega) hE2 (j := k) (by omega) (by omega) dX4_waitEnds_25 (fun zE1 zH1 zL1 zg1 zf1 zw1 => ?_)
  have zh1_0 : zE1 (z + 5) = eI G 10 (upd wa k (if wa k < tm - (en k) then tm - (en k) else wa k)) := zg1
  have zk1_0 : zE1 z = .inr (1, [.ref (ad (z + 1)), .ref (ad (z + 2)), .ref (ad (z + 3)), .ref (ad (z + 4)), .ref (ad (z + 5)), .int (nI rp), .int tm]) := (zf1 _ (by omega)).trans hE0
  have zk1_1 : zE1 (z + 4) = eI G 10 en := (zf1 _ (by omega)).trans hE1
  have zfr1 : ∀ j, j ≠ (z + 5) → zE1 j = E j := fun j zm0 => zf1 j zm0
  exact r_vret C zw1 dX4_waitEnds_26 ⟨zh1_0, (fun j zm0 => zfr1 j zm0)⟩

set_option maxHeartbeats 4000000 in
set_option maxRecDepth 100000 in
theorem c_X4_waitOf {l : Launch} {G : vG} {tC : Nat} {ad : Nat → Nat} {N : Nat} {E : Nat → va_E} {z rp : Nat} {tm : Int32} {wa : Nat → Int32} {k : Nat} (hN0 : z + 6 ≤ N) (hE0 : E z = .inr (1, [.ref (ad (z + 1)), .ref (ad (z + 2)), .ref (ad (z + 3)), .ref (ad (z + 4)), .ref (ad (z + 5)), .int (nI rp), .int tm])) (hE1 : E (z + 5) = eI G 10 wa) (hk : k < rp) (hrp : rp ≤ 10) : MI l yX4_waitOf wsX4_waitOf ({ frames := 1, cells := 0, slots := 0, locals := 22 } : Room) G tC ad N E [.ref (ad z), .int (nI k)] (fun r E2 => E2 = E ∧ r = wa k) := by
  refine MI_of RX4 rfl (by decide) rfl (Nat.le_of_ble_eq_true rfl) ?_
  intro pp_ ee_ ss_ mm_ aa_ bb_ me_ cc_ A ls C hw hl
  have hx := C.1
  have hb := C.2.1
  have hown := C.2.2.2.2.1
  have hts := C.2.2.2.2.2.1
  have hl : lv_has ls 2 [(0, .ref (ad z)), (1, .int (nI k))] := hl
  have hinX4 : ∀ w ∈ u_ws RX4 TX4 7, w ∈ wsX4_waitOf := by decide +kernel
  refine lv_iload_n hx hb dX4_waitOf_0 rfl (lv_at hl 1 rfl) ?_
  refine lv_iconst (v := nI 0) hx hb dX4_waitOf_1 rfl ?_
  refine lv_aload_n hx hb dX4_waitOf_2 rfl (lv_at hl 0 rfl) ?_
  refine r_get C hw RX4 TX4 7 1 hinX4 (i := z) (by omega) hE0 rfl 5 (by decide) (by decide +kernel) rfl (v := .int (nI rp)) rfl dX4_waitOf_3 ?_
  refine lv_iconst (v := nI 1) hx hb dX4_waitOf_6 rfl ?_
  refine lv_isub hx hb dX4_waitOf_7 ?_
  refine r_nat (rp - 1) (pk_sub (by omega)) ?_
  refine r_nI C hw hl.1 [.int (nI k), .int (nI 0), .int (nI (rp - 1))] 3 rfl (c_X7_isWithin (l := l) (G := G) (tC := tC) (ad := ad) (N := N) (E := E) (x := nI k) (a := nI 0) (b := nI (rp - 1))   ) C.2.2.2.2.2.2.1.2.2.2.1 gX4_waitOf_X7_isWithin_n66 rfl ⟨rfl, rfl⟩ (by decide +kernel) (by decide +kernel) (by decide +kernel) ⟨Nat.le_of_ble_eq_true rfl, Nat.le_of_ble_eq_true rfl⟩ (rest := []) rfl (Nat.le_of_ble_eq_true rfl) dX4_waitOf_8 ⟨Nat.zero_le _, Nat.zero_le _⟩ (fun zr1 zE1 zH1 zL1 zp1 zw1 => ?_)
  obtain ⟨ze1, zq1⟩ := zp1
  rw [ze1] at zw1
  clear ze1
  rw [zq1]
  refine b_if_eq (tgt := 23) hx hb dX4_waitOf_11 (by decide) (fun zc11 => ?_) (fun zc11 => ?_)
  · exact absurd (in_nI (by omega) (by omega)) zc11
  · refine lv_aload_n hx hb dX4_waitOf_14 rfl (lv_at hl 0 rfl) ?_
    refine r_get C zw1 RX4 TX4 7 1 hinX4 (i := z) (by omega) hE0 rfl 4 (by decide) (by decide +kernel) rfl (v := .ref (ad (z + 5))) rfl dX4_waitOf_15 ?_
    refine lv_iload_n hx hb dX4_waitOf_18 rfl (lv_at hl 1 rfl) ?_
    refine r_iaN C zw1 (i := (z + 5)) (by omega) hE1 (j := k) (by omega) (by omega) dX4_waitOf_19 ?_
    refine lv_goto (tgt := 24) hx hb dX4_waitOf_20 (by decide) ?_
    exact r_iret C zw1 dX4_waitOf_24 ⟨rfl, (by rfl)⟩

set_option maxHeartbeats 4000000 in
set_option maxRecDepth 100000 in
theorem c_X4_run_y {l : Launch} {G : vG} {tC : Nat} {ad : Nat → Nat} {N : Nat} {E : Nat → va_E} {z rp : Nat} {tm : Int32} {ln wt og en wa l9 w9 : Nat → Int32} {rho n : Nat} (hN0 : z + 6 ≤ N) (hE0 : E z = .inr (1, [.ref (ad (z + 1)), .ref (ad (z + 2)), .ref (ad (z + 3)), .ref (ad (z + 4)), .ref (ad (z + 5)), .int (nI rp), .int tm])) (hE1 : E (z + 1) = eI G 10 ln) (hE2 : E (z + 2) = eI G 10 wt) (hE3 : E (z + 3) = eI G 10 og) (hE4 : E (z + 4) = eI G 10 en) (hE5 : E (z + 5) = eI G 10 wa) (he2 : eq2 ln wt l9 w9 rp) (hrp : rp ≤ 10) (hr : rho ≤ 3) (hn : n ≤ 60) (h1 : 0 < rp) (hn1 : 1 ≤ n) : MI l yX4_run wsX4_run ({ frames := 3, cells := 0, slots := 0, locals := 67 } : Room) G tC ad N E [.ref (ad z), .int (nI rho), .int (nI n)] (fun r E2 => ∃ tm2 : Int32, ∃ og2 : Nat → Int32, ∃ en2 : Nat → Int32, E2 z = .inr (1, [.ref (ad (z + 1)), .ref (ad (z + 2)), .ref (ad (z + 3)), .ref (ad (z + 4)), .ref (ad (z + 5)), .int (nI rp), .int tm2]) ∧ E2 (z + 3) = eI G 10 og2 ∧ E2 (z + 4) = eI G 10 en2 ∧ E2 (z + 5) = eI G 10 (waitF l9 w9 rho rp n) ∧ (∀ j, j ≠ z → j ≠ (z + 3) → j ≠ (z + 4) → j ≠ (z + 5) → E2 j = E j) ∧ r = nI (sentK l9 w9 rho rp (n - 1))) := by
  refine MI_of RX4 rfl (by decide) rfl (Nat.le_of_ble_eq_true rfl) ?_
  intro pp_ ee_ ss_ mm_ aa_ bb_ me_ cc_ A ls C hw hl
  have hx := C.1
  have hb := C.2.1
  have hown := C.2.2.2.2.1
  have hts := C.2.2.2.2.2.1
  have hl : lv_has ls 5 [(0, .ref (ad z)), (1, .int (nI rho)), (2, .int (nI n))] := hl
  have hinX4 : ∀ w ∈ u_ws RX4 TX4 7, w ∈ wsX4_run := by decide +kernel
  refine lv_aload_n hx hb dX4_run_0 rfl (lv_at hl 0 rfl) ?_
  refine r_get C hw RX4 TX4 7 1 hinX4 (i := z) (by omega) hE0 rfl 2 (by decide) (by decide +kernel) rfl (v := .ref (ad (z + 3))) rfl dX4_run_1 ?_
  refine lv_iconst (v := nI 0) hx hb dX4_run_4 rfl ?_
  refine r_sV C hw hl.1 [.ref (ad (z + 3)), .int (nI 0)] 2 rfl (c_J7_fill_53178 (l := l) (G := G) (tC := tC) (ad := ad) (N := N) (E := E) (q := (z + 3)) (n := 10) (f := og) (v := nI 0) (by omega) hE3 (by first | assumption | omega)) gX4_run_J7_fill_53178 rfl ⟨rfl, rfl⟩ (by decide +kernel) ⟨Nat.le_of_ble_eq_true rfl, Nat.le_of_ble_eq_true rfl⟩ (rest := []) rfl (Nat.le_of_ble_eq_true rfl) dX4_run_5 ⟨Nat.zero_le _, Nat.zero_le _⟩ (fun zE1 zH1 zL1 zp1 zw1 => ?_)
  obtain ⟨zg1_0, zf1⟩ := zp1
  have zh1_0 : zE1 (z + 3) = eI G 10 (fillF og 0 10 (nI 0)) := zg1_0
  have zk1_0 : zE1 z = .inr (1, [.ref (ad (z + 1)), .ref (ad (z + 2)), .ref (ad (z + 3)), .ref (ad (z + 4)), .ref (ad (z + 5)), .int (nI rp), .int tm]) := (zf1 _ (by omega)).trans hE0
  have zk1_1 : zE1 (z + 1) = eI G 10 ln := (zf1 _ (by omega)).trans hE1
  have zk1_2 : zE1 (z + 2) = eI G 10 wt := (zf1 _ (by omega)).trans hE2
  have zk1_3 : zE1 (z + 4) = eI G 10 en := (zf1 _ (by omega)).trans hE4
  have zk1_4 : zE1 (z + 5) = eI G 10 wa := (zf1 _ (by omega)).trans hE5
  have zfr1 : ∀ j, j ≠ (z + 3) → zE1 j = E j := fun j zm0 => zf1 j zm0
  refine lv_aload_n hx hb dX4_run_8 rfl (lv_at hl 0 rfl) ?_
  refine r_get C zw1 RX4 TX4 7 1 hinX4 (i := z) (by omega) zk1_0 rfl 3 (by decide) (by decide +kernel) rfl (v := .ref (ad (z + 4))) rfl dX4_run_9 ?_
  refine lv_iconst (v := nI 0) hx hb dX4_run_12 rfl ?_
  refine r_sV C zw1 hl.1 [.ref (ad (z + 4)), .int (nI 0)] 2 rfl (c_J7_fill_53178 (l := l) (G := G) (tC := tC) (ad := ad) (N := N) (E := zE1) (q := (z + 4)) (n := 10) (f := en) (v := nI 0) (by omega) zk1_3 (by first | assumption | omega)) gX4_run_J7_fill_53178 rfl ⟨rfl, rfl⟩ (by decide +kernel) ⟨Nat.le_of_ble_eq_true rfl, Nat.le_of_ble_eq_true rfl⟩ (rest := []) rfl (Nat.le_of_ble_eq_true rfl) dX4_run_13 ⟨Nat.zero_le _, Nat.zero_le _⟩ (fun zE2 zH2 zL2 zp2 zw2 => ?_)
  obtain ⟨zg2_0, zf2⟩ := zp2
  have zh2_0 : zE2 (z + 4) = eI G 10 (fillF en 0 10 (nI 0)) := zg2_0
  have zk2_0 : zE2 z = .inr (1, [.ref (ad (z + 1)), .ref (ad (z + 2)), .ref (ad (z + 3)), .ref (ad (z + 4)), .ref (ad (z + 5)), .int (nI rp), .int tm]) := (zf2 _ (by omega)).trans zk1_0
  have zk2_1 : zE2 (z + 1) = eI G 10 ln := (zf2 _ (by omega)).trans zk1_1
  have zk2_2 : zE2 (z + 2) = eI G 10 wt := (zf2 _ (by omega)).trans zk1_2
  have zk2_3 : zE2 (z + 5) = eI G 10 wa := (zf2 _ (by omega)).trans zk1_4
  have zk2_4 : zE2 (z + 3) = eI G 10 (fillF og 0 10 (nI 0)) := (zf2 _ (by omega)).trans zh1_0
  have zfr2 : ∀ j, j ≠ (z + 3) → j ≠ (z + 4) → zE2 j = E j := fun j zm0 zm1 => (zf2 j zm1).trans (zfr1 j zm0)
  refine lv_aload_n hx hb dX4_run_16 rfl (lv_at hl 0 rfl) ?_
  refine r_get C zw2 RX4 TX4 7 1 hinX4 (i := z) (by omega) zk2_0 rfl 4 (by decide) (by decide +kernel) rfl (v := .ref (ad (z + 5))) rfl dX4_run_17 ?_
  refine lv_iconst (v := nI 0) hx hb dX4_run_20 rfl ?_
  refine r_sV C zw2 hl.1 [.ref (ad (z + 5)), .int (nI 0)] 2 rfl (c_J7_fill_53178 (l := l) (G := G) (tC := tC) (ad := ad) (N := N) (E := zE2) (q := (z + 5)) (n := 10) (f := wa) (v := nI 0) (by omega) zk2_3 (by first | assumption | omega)) gX4_run_J7_fill_53178 rfl ⟨rfl, rfl⟩ (by decide +kernel) ⟨Nat.le_of_ble_eq_true rfl, Nat.le_of_ble_eq_true rfl⟩ (rest := []) rfl (Nat.le_of_ble_eq_true rfl) dX4_run_21 ⟨Nat.zero_le _, Nat.zero_le _⟩ (fun zE3 zH3 zL3 zp3 zw3 => ?_)
  obtain ⟨zg3_0, zf3⟩ := zp3
  have zh3_0 : zE3 (z + 5) = eI G 10 (fillF wa 0 10 (nI 0)) := zg3_0
  have zk3_0 : zE3 z = .inr (1, [.ref (ad (z + 1)), .ref (ad (z + 2)), .ref (ad (z + 3)), .ref (ad (z + 4)), .ref (ad (z + 5)), .int (nI rp), .int tm]) := (zf3 _ (by omega)).trans zk2_0
  have zk3_1 : zE3 (z + 1) = eI G 10 ln := (zf3 _ (by omega)).trans zk2_1
  have zk3_2 : zE3 (z + 2) = eI G 10 wt := (zf3 _ (by omega)).trans zk2_2
  have zk3_3 : zE3 (z + 3) = eI G 10 (fillF og 0 10 (nI 0)) := (zf3 _ (by omega)).trans zk2_4
  have zk3_4 : zE3 (z + 4) = eI G 10 (fillF en 0 10 (nI 0)) := (zf3 _ (by omega)).trans zh2_0
  have zfr3 : ∀ j, j ≠ (z + 3) → j ≠ (z + 4) → j ≠ (z + 5) → zE3 j = E j := fun j zm0 zm1 zm2 => (zf3 j zm2).trans (zfr2 j zm0 zm1)
  refine r_congI zw3 (i := (z + 3)) (by omega) zk3_3 (f2 := fun _ => nI 0) (fun j hj => by rw [fillF, if_pos ⟨Nat.zero_le _, hj⟩]) (fun zE4 zg4 zf4 zw4 => ?_)
  have zh4_0 : zE4 (z + 3) = eI G 10 (fun _ => nI 0) := zg4
  have zk4_0 : zE4 z = .inr (1, [.ref (ad (z + 1)), .ref (ad (z + 2)), .ref (ad (z + 3)), .ref (ad (z + 4)), .ref (ad (z + 5)), .int (nI rp), .int tm]) := (zf4 _ (by omega)).trans zk3_0
  have zk4_1 : zE4 (z + 1) = eI G 10 ln := (zf4 _ (by omega)).trans zk3_1
  have zk4_2 : zE4 (z + 2) = eI G 10 wt := (zf4 _ (by omega)).trans zk3_2
  have zk4_3 : zE4 (z + 4) = eI G 10 (fillF en 0 10 (nI 0)) := (zf4 _ (by omega)).trans zk3_4
  have zk4_4 : zE4 (z + 5) = eI G 10 (fillF wa 0 10 (nI 0)) := (zf4 _ (by omega)).trans zh3_0
  have zfr4 : ∀ j, j ≠ (z + 3) → j ≠ (z + 4) → j ≠ (z + 5) → zE4 j = E j := fun j zm0 zm1 zm2 => (zf4 j zm0).trans (zfr3 j zm0 zm1 zm2)
  refine r_congI zw4 (i := (z + 4)) (by omega) zk4_3 (f2 := fun _ => nI 0) (fun j hj => by rw [fillF, if_pos ⟨Nat.zero_le _, hj⟩]) (fun zE5 zg5 zf5 zw5 => ?_)
  have zh5_0 : zE5 (z + 4) = eI G 10 (fun _ => nI 0) := zg5
  have zk5_0 : zE5 z = .inr (1, [.ref (ad (z + 1)), .ref (ad (z + 2)), .ref (ad (z + 3)), .ref (ad (z + 4)), .ref (ad (z + 5)), .int (nI rp), .int tm]) := (zf5 _ (by omega)).trans zk4_0
  have zk5_1 : zE5 (z + 1) = eI G 10 ln := (zf5 _ (by omega)).trans zk4_1
  have zk5_2 : zE5 (z + 2) = eI G 10 wt := (zf5 _ (by omega)).trans zk4_2
  have zk5_3 : zE5 (z + 5) = eI G 10 (fillF wa 0 10 (nI 0)) := (zf5 _ (by omega)).trans zk4_4
  have zk5_4 : zE5 (z + 3) = eI G 10 (fun _ => nI 0) := (zf5 _ (by omega)).trans zh4_0
  have zfr5 : ∀ j, j ≠ (z + 3) → j ≠ (z + 4) → j ≠ (z + 5) → zE5 j = E j := fun j zm0 zm1 zm2 => (zf5 j zm1).trans (zfr4 j zm0 zm1 zm2)
  refine r_congI zw5 (i := (z + 5)) (by omega) zk5_3 (f2 := fun _ => nI 0) (fun j hj => by rw [fillF, if_pos ⟨Nat.zero_le _, hj⟩]) (fun zE6 zg6 zf6 zw6 => ?_)
  have zh6_0 : zE6 (z + 5) = eI G 10 (fun _ => nI 0) := zg6
  have zk6_0 : zE6 z = .inr (1, [.ref (ad (z + 1)), .ref (ad (z + 2)), .ref (ad (z + 3)), .ref (ad (z + 4)), .ref (ad (z + 5)), .int (nI rp), .int tm]) := (zf6 _ (by omega)).trans zk5_0
  have zk6_1 : zE6 (z + 1) = eI G 10 ln := (zf6 _ (by omega)).trans zk5_1
  have zk6_2 : zE6 (z + 2) = eI G 10 wt := (zf6 _ (by omega)).trans zk5_2
  have zk6_3 : zE6 (z + 3) = eI G 10 (fun _ => nI 0) := (zf6 _ (by omega)).trans zk5_4
  have zk6_4 : zE6 (z + 4) = eI G 10 (fun _ => nI 0) := (zf6 _ (by omega)).trans zh5_0
  have zfr6 : ∀ j, j ≠ (z + 3) → j ≠ (z + 4) → j ≠ (z + 5) → zE6 j = E j := fun j zm0 zm1 zm2 => (zf6 j zm2).trans (zfr5 j zm0 zm1 zm2)
  refine lv_aload_n hx hb dX4_run_24 rfl (lv_at hl 0 rfl) ?_
  refine lv_iconst (v := nI 0) hx hb dX4_run_25 rfl ?_
  refine r_put C zw6 RX4 TX4 7 1 hinX4 tyX4 tyX4_ok nmX4 (i := z) (by omega) zk6_0 rfl 6 (by decide) (by decide +kernel) rfl rfl (v := .int (nI 0)) rfl rfl (Nat.le_of_ble_eq_true rfl) dX4_run_26 (fun zE7 zH7 zL7 zg7 zf7 zw7 => ?_)
  have zh7_0 : zE7 z = .inr (1, [.ref (ad (z + 1)), .ref (ad (z + 2)), .ref (ad (z + 3)), .ref (ad (z + 4)), .ref (ad (z + 5)), .int (nI rp), .int (nI 0)]) := zg7
  have zk7_0 : zE7 (z + 1) = eI G 10 ln := (zf7 _ (by omega)).trans zk6_1
  have zk7_1 : zE7 (z + 2) = eI G 10 wt := (zf7 _ (by omega)).trans zk6_2
  have zk7_2 : zE7 (z + 3) = eI G 10 (fun _ => nI 0) := (zf7 _ (by omega)).trans zk6_3
  have zk7_3 : zE7 (z + 4) = eI G 10 (fun _ => nI 0) := (zf7 _ (by omega)).trans zk6_4
  have zk7_4 : zE7 (z + 5) = eI G 10 (fun _ => nI 0) := (zf7 _ (by omega)).trans zh6_0
  have zfr7 : ∀ j, j ≠ (z + 3) → j ≠ (z + 4) → j ≠ (z + 5) → j ≠ z → zE7 j = E j := fun j zm0 zm1 zm2 zm3 => (zf7 j zm3).trans (zfr6 j zm0 zm1 zm2)
  refine lv_iconst (v := -1) hx hb dX4_run_29 (by decide) ?_
  refine lv_istore_n (lv' := [(3, .int (-1)), (0, .ref (ad z)), (1, .int (nI rho)), (2, .int (nI n))]) hx hb dX4_run_30 rfl hl (by decide) rfl (fun ls hl => ?_)
  refine lv_iconst (v := nI 0) hx hb dX4_run_31 rfl ?_
  refine lv_istore (lv' := [(4, .int (nI 0)), (3, .int (-1)), (0, .ref (ad z)), (1, .int (nI rho)), (2, .int (nI n))]) hx hb dX4_run_32 hl (by decide) rfl (fun ls hl => ?_)
  have zlp34 : ∀ (zn : Nat) (i : Nat) (t0 x3 : Int32) (g0 g1 g2 : Nat → Int32), n - i < zn → (i ≤ n) → (x3 = lastK l9 w9 rho rp i) → ((t0, g0, g1, g2) = rs l9 w9 rho rp i) → ∀ (E9 : Nat → va_E) (H9 : Heap) (L9 : List Loc), E9 (z + 1) = eI G 10 ln → E9 (z + 2) = eI G 10 wt → E9 (z + 3) = eI G 10 g0 → E9 (z + 4) = eI G 10 g1 → E9 (z + 5) = eI G 10 g2 → E9 z = .inr (1, [.ref (ad (z + 1)), .ref (ad (z + 2)), .ref (ad (z + 3)), .ref (ad (z + 4)), .ref (ad (z + 5)), .int (nI rp), .int t0]) → (∀ j, j ≠ (z + 3) → j ≠ (z + 4) → j ≠ (z + 5) → j ≠ z → E9 j = E j) → Wd G A ss_.heap H9 L9 ad E9 N → ∀ (ls : Array Slot), lv_has ls 5 [(0, .ref (ad z)), (1, .int (nI rho)), (2, .int (nI n)), (3, .int x3), (4, .int (nI i))] → W pp_ l ee_ ({ frames := 3, cells := 0, slots := 0, locals := 67 } : Room) ss_ mm_ aa_ bb_ me_ cc_ H9 L9 0 0 (QI bb_ aa_ ss_ G ad N A (fun r E2 => ∃ tm2 : Int32, ∃ og2 : Nat → Int32, ∃ en2 : Nat → Int32, E2 z = .inr (1, [.ref (ad (z + 1)), .ref (ad (z + 2)), .ref (ad (z + 3)), .ref (ad (z + 4)), .ref (ad (z + 5)), .int (nI rp), .int tm2]) ∧ E2 (z + 3) = eI G 10 og2 ∧ E2 (z + 4) = eI G 10 en2 ∧ E2 (z + 5) = eI G 10 (waitF l9 w9 rho rp n) ∧ (∀ j, j ≠ z → j ≠ (z + 3) → j ≠ (z + 4) → j ≠ (z + 5) → E2 j = E j) ∧ r = nI (sentK l9 w9 rho rp (n - 1)))) (F0 mm_ 34 ls []) := by
    intro zn
    induction zn with
    | zero => intro i t0 x3 g0 g1 g2 zhm; exact absurd zhm (Nat.not_lt_zero _)
    | succ zn zih34 =>
      intro i t0 x3 g0 g1 g2 zhm34 hi hx3 hT zE_34 zH_34 zL_34 zl34_0 zl34_1 zl34_2 zl34_3 zl34_4 zl34_5 zlf34  zlw34 ls hl
      refine lv_iload hx hb dX4_run_34 (lv_at hl 4 rfl) ?_
      refine lv_iload_n hx hb dX4_run_36 rfl (lv_at hl 2 rfl) ?_
      refine n_icmp_ge (tgt := 113) hx hb dX4_run_37 (by decide) (by omega) (by omega) (fun zc37 => ?_) (fun zc37 => ?_)
      · refine lv_iconst (v := nI 0) hx hb dX4_run_113 rfl ?_
        refine lv_istore (lv' := [(4, .int (nI 0)), (0, .ref (ad z)), (1, .int (nI rho)), (2, .int (nI n)), (3, .int x3)]) hx hb dX4_run_114 hl (by decide) rfl (fun ls hl => ?_)
        have zlp116 : ∀ (zn : Nat) (k : Nat) (g3 : Nat → Int32), rp - k < zn → (k ≤ rp) → (g3 = fwF t0 g1 g2 k) → ∀ (E9 : Nat → va_E) (H9 : Heap) (L9 : List Loc), E9 (z + 1) = eI G 10 ln → E9 (z + 2) = eI G 10 wt → E9 (z + 3) = eI G 10 g0 → E9 (z + 4) = eI G 10 g1 → E9 (z + 5) = eI G 10 g3 → E9 z = .inr (1, [.ref (ad (z + 1)), .ref (ad (z + 2)), .ref (ad (z + 3)), .ref (ad (z + 4)), .ref (ad (z + 5)), .int (nI rp), .int t0]) → (∀ j, j ≠ (z + 3) → j ≠ (z + 4) → j ≠ (z + 5) → j ≠ z → E9 j = E j) → Wd G A ss_.heap H9 L9 ad E9 N → ∀ (ls : Array Slot), lv_has ls 5 [(0, .ref (ad z)), (3, .int x3), (4, .int (nI k))] → W pp_ l ee_ ({ frames := 3, cells := 0, slots := 0, locals := 67 } : Room) ss_ mm_ aa_ bb_ me_ cc_ H9 L9 0 0 (QI bb_ aa_ ss_ G ad N A (fun r E2 => ∃ tm2 : Int32, ∃ og2 : Nat → Int32, ∃ en2 : Nat → Int32, E2 z = .inr (1, [.ref (ad (z + 1)), .ref (ad (z + 2)), .ref (ad (z + 3)), .ref (ad (z + 4)), .ref (ad (z + 5)), .int (nI rp), .int tm2]) ∧ E2 (z + 3) = eI G 10 og2 ∧ E2 (z + 4) = eI G 10 en2 ∧ E2 (z + 5) = eI G 10 (waitF l9 w9 rho rp n) ∧ (∀ j, j ≠ z → j ≠ (z + 3) → j ≠ (z + 4) → j ≠ (z + 5) → E2 j = E j) ∧ r = nI (sentK l9 w9 rho rp (n - 1)))) (F0 mm_ 116 ls []) := by
          intro zn
          induction zn with
          | zero => intro k g3 zhm; exact absurd zhm (Nat.not_lt_zero _)
          | succ zn zih116 =>
            intro k g3 zhm116 hk h3 zE_116 zH_116 zL_116 zl116_0 zl116_1 zl116_2 zl116_3 zl116_4 zl116_5 zlf116  zlw116 ls hl
            refine lv_iload hx hb dX4_run_116 (lv_at hl 2 rfl) ?_
            refine lv_aload_n hx hb dX4_run_118 rfl (lv_at hl 0 rfl) ?_
            refine r_get C zlw116 RX4 TX4 7 1 hinX4 (i := z) (by omega) zl116_5 rfl 5 (by decide) (by decide +kernel) rfl (v := .int (nI rp)) rfl dX4_run_119 ?_
            refine n_icmp_ge (tgt := 137) hx hb dX4_run_122 (by decide) (by omega) (by omega) (fun zc122 => ?_) (fun zc122 => ?_)
            · refine lv_iload_n hx hb dX4_run_137 rfl (lv_at hl 1 rfl) ?_
              exact r_iret C zlw116 dX4_run_138 ⟨t0, g0, g1, zl116_5, zl116_2, zl116_3, (zl116_4.trans (by rw [h3, show k = rp by omega, waitF]; have zn : n = i := (by omega); rw [zn, ← hT])), (fun j zm0 zm1 zm2 zm3 => zlf116 j zm1 zm2 zm3 zm0), (by rw [hx3, lastK, if_neg (by omega), show i = n by omega])⟩
            · refine lv_aload_n hx hb dX4_run_125 rfl (lv_at hl 0 rfl) ?_
              refine lv_iload hx hb dX4_run_126 (lv_at hl 2 rfl) ?_
              refine r_vV C zlw116 hl.1 (i := z) (by omega) zl116_5 (T := TX4) (n := 7) rfl [.int (nI k)] 1 rfl (c_X4_waitEnds (l := l) (G := G) (tC := tC) (ad := ad) (N := N) (E := zE_116) (z := z) (rp := rp) (tm := t0) (en := g1) (wa := g3) (k := k) (by omega) zl116_5 zl116_3 zl116_4 (by first | assumption | omega)) gX4_run_X4_waitEnds rfl ⟨rfl, rfl⟩ (by decide +kernel) ⟨Nat.le_of_ble_eq_true rfl, Nat.le_of_ble_eq_true rfl⟩ (rest := []) rfl (Nat.le_of_ble_eq_true rfl) dX4_run_128 ⟨Nat.zero_le _, Nat.zero_le _⟩ (fun zE8 zH8 zL8 zp8 zw8 => ?_)
              obtain ⟨zg8_0, zf8⟩ := zp8
              have zh8_0 : zE8 (z + 5) = eI G 10 (upd g3 k (mxI (g3 k) (t0 - g1 k))) := zg8_0
              have zk8_0 : zE8 (z + 1) = eI G 10 ln := (zf8 _ (by omega)).trans zl116_0
              have zk8_1 : zE8 (z + 2) = eI G 10 wt := (zf8 _ (by omega)).trans zl116_1
              have zk8_2 : zE8 (z + 3) = eI G 10 g0 := (zf8 _ (by omega)).trans zl116_2
              have zk8_3 : zE8 (z + 4) = eI G 10 g1 := (zf8 _ (by omega)).trans zl116_3
              have zk8_4 : zE8 z = .inr (1, [.ref (ad (z + 1)), .ref (ad (z + 2)), .ref (ad (z + 3)), .ref (ad (z + 4)), .ref (ad (z + 5)), .int (nI rp), .int t0]) := (zf8 _ (by omega)).trans zl116_5
              have zfr8 : ∀ j, j ≠ (z + 3) → j ≠ (z + 4) → j ≠ (z + 5) → j ≠ z → zE8 j = E j := fun j zm0 zm1 zm2 zm3 => (zf8 j zm2).trans (zlf116 j zm0 zm1 zm2 zm3)
              refine lv_iinc (v := nI (k + 1)) (lv' := [(4, .int (nI (k + 1))), (0, .ref (ad z)), (3, .int x3)]) hx hb dX4_run_131 hl (k := 2) rfl (by rw [show Int32.ofInt 1 = nI 1 from rfl, nI_add]) (by decide) rfl (fun ls hl => ?_)
              refine lv_goto (tgt := 116) hx hb dX4_run_134 (by decide) ?_
              exact zih116 (k + 1) (upd g3 k (mxI (g3 k) (t0 - g1 k))) (by omega) (by omega) (by rw [h3]; exact fwF_s _ _ _ _) _ _ _ zk8_0 zk8_1 zk8_2 zk8_3 zh8_0 zk8_4 (fun j zm0 zm1 zm2 zm3 => zfr8 j zm0 zm1 zm2 zm3) zw8 _ (lv_sub hl [1, 2, 0] rfl)
        exact zlp116 _ 0 g2 (Nat.lt_succ_self _) (by omega) (by exact (fwF_0 _ _ _).symm) _ _ _ zl34_0 zl34_1 zl34_2 zl34_3 zl34_4 zl34_5 (fun j zm0 zm1 zm2 zm3 => zlf34 j zm0 zm1 zm2 zm3) zlw34 _ (lv_sub hl [1, 4, 0] rfl)
      · refine lv_aload_n hx hb dX4_run_40 rfl (lv_at hl 0 rfl) ?_
        refine r_get C zlw34 RX4 TX4 7 1 hinX4 (i := z) (by omega) zl34_5 rfl 5 (by decide) (by decide +kernel) rfl (v := .int (nI rp)) rfl dX4_run_41 ?_
        refine n_if_le (tgt := 113) hx hb dX4_run_44 (by decide) (by omega) (fun zc44 => ?_) (fun zc44 => ?_)
        · exact absurd zc44 (by omega)
        · refine lv_iload_n hx hb dX4_run_47 rfl (lv_at hl 1 rfl) ?_
          refine n_if_ne (tgt := 61) hx hb dX4_run_48 (by decide) (by omega) (fun zc48 => ?_) (fun zc48 => ?_)
          · refine lv_aload_n hx hb dX4_run_61 rfl (lv_at hl 0 rfl) ?_
            refine lv_iload_n hx hb dX4_run_62 rfl (lv_at hl 1 rfl) ?_
            refine r_vI C zlw34 hl.1 (i := z) (by omega) zl34_5 (T := TX4) (n := 7) rfl [.int (nI rho)] 1 rfl (c_X4_foremost (l := l) (G := G) (tC := tC) (ad := ad) (N := N) (E := zE_34) (z := z) (rp := rp) (tm := t0) (ln := ln) (wt := wt) (og := g0) (en := g1) (l9 := l9) (w9 := w9) (rho := rho) (by omega) zl34_5 zl34_0 zl34_1 zl34_2 zl34_3 (by first | assumption | omega) (by first | assumption | omega) (by first | assumption | omega) (by first | assumption | omega)) gX4_run_X4_foremost rfl ⟨rfl, rfl⟩ (by decide +kernel) ⟨Nat.le_of_ble_eq_true rfl, Nat.le_of_ble_eq_true rfl⟩ (rest := []) rfl (Nat.le_of_ble_eq_true rfl) dX4_run_63 ⟨Nat.zero_le _, Nat.zero_le _⟩ (fun zr9 zE9 zH9 zL9 zp9 zw9 => ?_)
            obtain ⟨ze9, zq9⟩ := zp9
            rw [ze9] at zw9
            clear ze9
            rw [zq9]
            obtain ⟨kk, hkk⟩ : ∃ kk, kk = fore l9 w9 g0 g1 t0 rho (rp - 1) := ⟨_, rfl⟩
            have zk9 : kk = rsK l9 w9 rho rp i (t0, g0, g1, g2) := by
              unfold rsK nxt
              rw [if_neg zc48]; exact hkk
            have zkl : kk < rp := by rw [zk9]; exact nxt_lt (by omega)
            refine r_nat kk (by rw [hkk]) ?_
            refine lv_istore_n (lv' := [(3, .int (nI kk)), (0, .ref (ad z)), (1, .int (nI rho)), (2, .int (nI n)), (4, .int (nI i))]) hx hb dX4_run_66 rfl hl (by decide) rfl (fun ls hl => ?_)
            refine lv_aload_n hx hb dX4_run_67 rfl (lv_at hl 1 rfl) ?_
            refine lv_dup hx hb dX4_run_68 rfl ?_
            refine r_get C zw9 RX4 TX4 7 1 hinX4 (i := z) (by omega) zl34_5 rfl 6 (by decide) (by decide +kernel) rfl (v := .int t0) rfl dX4_run_69 ?_
            refine lv_aload_n hx hb dX4_run_72 rfl (lv_at hl 1 rfl) ?_
            refine r_get C zw9 RX4 TX4 7 1 hinX4 (i := z) (by omega) zl34_5 rfl 0 (by decide) (by decide +kernel) rfl (v := .ref (ad (z + 1))) rfl dX4_run_73 ?_
            refine lv_iload_n hx hb dX4_run_76 rfl (lv_at hl 0 rfl) ?_
            refine r_iaN C zw9 (i := (z + 1)) (by omega) zl34_0 (j := kk) (by omega) (by omega) dX4_run_77 ?_
            refine lv_iadd hx hb dX4_run_78 ?_
            refine r_put C zw9 RX4 TX4 7 1 hinX4 tyX4 tyX4_ok nmX4 (i := z) (by omega) zl34_5 rfl 6 (by decide) (by decide +kernel) rfl rfl (v := .int (t0 + (ln kk))) rfl rfl (Nat.le_of_ble_eq_true rfl) dX4_run_79 (fun zE10 zH10 zL10 zg10 zf10 zw10 => ?_)
            have zh10_0 : zE10 z = .inr (1, [.ref (ad (z + 1)), .ref (ad (z + 2)), .ref (ad (z + 3)), .ref (ad (z + 4)), .ref (ad (z + 5)), .int (nI rp), .int (t0 + (ln kk))]) := zg10
            have zk10_0 : zE10 (z + 1) = eI G 10 ln := (zf10 _ (by omega)).trans zl34_0
            have zk10_1 : zE10 (z + 2) = eI G 10 wt := (zf10 _ (by omega)).trans zl34_1
            have zk10_2 : zE10 (z + 3) = eI G 10 g0 := (zf10 _ (by omega)).trans zl34_2
            have zk10_3 : zE10 (z + 4) = eI G 10 g1 := (zf10 _ (by omega)).trans zl34_3
            have zk10_4 : zE10 (z + 5) = eI G 10 g2 := (zf10 _ (by omega)).trans zl34_4
            have zfr10 : ∀ j, j ≠ (z + 3) → j ≠ (z + 4) → j ≠ (z + 5) → j ≠ z → zE10 j = E j := fun j zm0 zm1 zm2 zm3 => (zf10 j zm3).trans (zlf34 j zm0 zm1 zm2 zm3)
            refine lv_aload_n hx hb dX4_run_82 rfl (lv_at hl 1 rfl) ?_
            refine lv_iload_n hx hb dX4_run_83 rfl (lv_at hl 0 rfl) ?_
            refine r_vV C zw10 hl.1 (i := z) (by omega) zh10_0 (T := TX4) (n := 7) rfl [.int (nI kk)] 1 rfl (c_X4_waitEnds (l := l) (G := G) (tC := tC) (ad := ad) (N := N) (E := zE10) (z := z) (rp := rp) (tm := t0 + (ln kk)) (en := g1) (wa := g2) (k := kk) (by omega) zh10_0 zk10_3 zk10_4 (by first | assumption | omega)) gX4_run_X4_waitEnds rfl ⟨rfl, rfl⟩ (by decide +kernel) ⟨Nat.le_of_ble_eq_true rfl, Nat.le_of_ble_eq_true rfl⟩ (rest := []) rfl (Nat.le_of_ble_eq_true rfl) dX4_run_84 ⟨Nat.zero_le _, Nat.zero_le _⟩ (fun zE11 zH11 zL11 zp11 zw11 => ?_)
            obtain ⟨zg11_0, zf11⟩ := zp11
            have zh11_0 : zE11 (z + 5) = eI G 10 (upd g2 kk (mxI (g2 kk) ((t0 + (ln kk)) - g1 kk))) := zg11_0
            have zk11_0 : zE11 (z + 1) = eI G 10 ln := (zf11 _ (by omega)).trans zk10_0
            have zk11_1 : zE11 (z + 2) = eI G 10 wt := (zf11 _ (by omega)).trans zk10_1
            have zk11_2 : zE11 (z + 3) = eI G 10 g0 := (zf11 _ (by omega)).trans zk10_2
            have zk11_3 : zE11 (z + 4) = eI G 10 g1 := (zf11 _ (by omega)).trans zk10_3
            have zk11_4 : zE11 z = .inr (1, [.ref (ad (z + 1)), .ref (ad (z + 2)), .ref (ad (z + 3)), .ref (ad (z + 4)), .ref (ad (z + 5)), .int (nI rp), .int (t0 + (ln kk))]) := (zf11 _ (by omega)).trans zh10_0
            have zfr11 : ∀ j, j ≠ (z + 3) → j ≠ (z + 4) → j ≠ (z + 5) → j ≠ z → zE11 j = E j := fun j zm0 zm1 zm2 zm3 => (zf11 j zm2).trans (zfr10 j zm0 zm1 zm2 zm3)
            refine lv_aload_n hx hb dX4_run_87 rfl (lv_at hl 1 rfl) ?_
            refine r_get C zw11 RX4 TX4 7 1 hinX4 (i := z) (by omega) zk11_4 rfl 3 (by decide) (by decide +kernel) rfl (v := .ref (ad (z + 4))) rfl dX4_run_88 ?_
            refine lv_iload_n hx hb dX4_run_91 rfl (lv_at hl 0 rfl) ?_
            refine lv_aload_n hx hb dX4_run_92 rfl (lv_at hl 1 rfl) ?_
            refine r_get C zw11 RX4 TX4 7 1 hinX4 (i := z) (by omega) zk11_4 rfl 6 (by decide) (by decide +kernel) rfl (v := .int (t0 + (ln kk))) rfl dX4_run_93 ?_
            refine r_iasN C zw11 (i := (z + 4)) (by omega) zk11_3 (j := kk) (by omega) (by omega) dX4_run_96 (fun zE12 zH12 zL12 zg12 zf12 zw12 => ?_)
            have zh12_0 : zE12 (z + 4) = eI G 10 (upd g1 kk (t0 + (ln kk))) := zg12
            have zk12_0 : zE12 (z + 1) = eI G 10 ln := (zf12 _ (by omega)).trans zk11_0
            have zk12_1 : zE12 (z + 2) = eI G 10 wt := (zf12 _ (by omega)).trans zk11_1
            have zk12_2 : zE12 (z + 3) = eI G 10 g0 := (zf12 _ (by omega)).trans zk11_2
            have zk12_3 : zE12 z = .inr (1, [.ref (ad (z + 1)), .ref (ad (z + 2)), .ref (ad (z + 3)), .ref (ad (z + 4)), .ref (ad (z + 5)), .int (nI rp), .int (t0 + (ln kk))]) := (zf12 _ (by omega)).trans zk11_4
            have zk12_4 : zE12 (z + 5) = eI G 10 (upd g2 kk (mxI (g2 kk) ((t0 + (ln kk)) - g1 kk))) := (zf12 _ (by omega)).trans zh11_0
            have zfr12 : ∀ j, j ≠ (z + 3) → j ≠ (z + 4) → j ≠ (z + 5) → j ≠ z → zE12 j = E j := fun j zm0 zm1 zm2 zm3 => (zf12 j zm1).trans (zfr11 j zm0 zm1 zm2 zm3)
            refine lv_aload_n hx hb dX4_run_97 rfl (lv_at hl 1 rfl) ?_
            refine r_get C zw12 RX4 TX4 7 1 hinX4 (i := z) (by omega) zk12_3 rfl 2 (by decide) (by decide +kernel) rfl (v := .ref (ad (z + 3))) rfl dX4_run_98 ?_
            refine lv_iload_n hx hb dX4_run_101 rfl (lv_at hl 0 rfl) ?_
            refine lv_dup2_11 hx hb dX4_run_102 rfl rfl ?_
            refine r_iaN C zw12 (i := (z + 3)) (by omega) zk12_2 (j := kk) (by omega) (by omega) dX4_run_103 ?_
            refine lv_iconst (v := nI 1) hx hb dX4_run_104 rfl ?_
            refine lv_iadd hx hb dX4_run_105 ?_
            refine r_iasN C zw12 (i := (z + 3)) (by omega) zk12_2 (j := kk) (by omega) (by omega) dX4_run_106 (fun zE13 zH13 zL13 zg13 zf13 zw13 => ?_)
            have zh13_0 : zE13 (z + 3) = eI G 10 (upd g0 kk ((g0 kk) + (nI 1))) := zg13
            have zk13_0 : zE13 (z + 1) = eI G 10 ln := (zf13 _ (by omega)).trans zk12_0
            have zk13_1 : zE13 (z + 2) = eI G 10 wt := (zf13 _ (by omega)).trans zk12_1
            have zk13_2 : zE13 z = .inr (1, [.ref (ad (z + 1)), .ref (ad (z + 2)), .ref (ad (z + 3)), .ref (ad (z + 4)), .ref (ad (z + 5)), .int (nI rp), .int (t0 + (ln kk))]) := (zf13 _ (by omega)).trans zk12_3
            have zk13_3 : zE13 (z + 5) = eI G 10 (upd g2 kk (mxI (g2 kk) ((t0 + (ln kk)) - g1 kk))) := (zf13 _ (by omega)).trans zk12_4
            have zk13_4 : zE13 (z + 4) = eI G 10 (upd g1 kk (t0 + (ln kk))) := (zf13 _ (by omega)).trans zh12_0
            have zfr13 : ∀ j, j ≠ (z + 3) → j ≠ (z + 4) → j ≠ (z + 5) → j ≠ z → zE13 j = E j := fun j zm0 zm1 zm2 zm3 => (zf13 j zm0).trans (zfr12 j zm0 zm1 zm2 zm3)
            refine lv_iinc (v := nI (i + 1)) (lv' := [(4, .int (nI (i + 1))), (3, .int (nI kk)), (0, .ref (ad z)), (1, .int (nI rho)), (2, .int (nI n))]) hx hb dX4_run_107 hl (k := 4) rfl (by rw [show Int32.ofInt 1 = nI 1 from rfl, nI_add]) (by decide) rfl (fun ls hl => ?_)
            refine lv_goto (tgt := 34) hx hb dX4_run_110 (by decide) ?_
            exact zih34 (i + 1) (t0 + (ln kk)) (nI kk) (upd g0 kk ((g0 kk) + (nI 1))) (upd g1 kk (t0 + (ln kk))) (upd g2 kk (mxI (g2 kk) ((t0 + (ln kk)) - g1 kk))) (by omega) (by omega) (by rw [lastK, if_neg (by omega), sentK, show i + 1 - 1 = i by omega, ← hT, ← zk9]) (by rw [rs, ← hT, ← zk9, rsS, (he2 _ zkl).1]) _ _ _ zk13_0 zk13_1 zh13_0 zk13_4 zk13_3 zk13_2 (fun j zm0 zm1 zm2 zm3 => zfr13 j zm0 zm1 zm2 zm3) zw13 _ (lv_sub hl [2, 3, 4, 1, 0] rfl)
          · refine lv_iload hx hb dX4_run_51 (lv_at hl 4 rfl) ?_
            refine lv_aload_n hx hb dX4_run_53 rfl (lv_at hl 0 rfl) ?_
            refine r_get C zlw34 RX4 TX4 7 1 hinX4 (i := z) (by omega) zl34_5 rfl 5 (by decide) (by decide +kernel) rfl (v := .int (nI rp)) rfl dX4_run_54 ?_
            refine lv_irem hx hb dX4_run_57 (fun zq => by have z1 := (nI_eq (a := rp) (b := 0) (by omega) (by omega)).mp zq; omega) ?_
            refine r_nat (i % rp) (pk_rem (by omega) (by omega) (by omega)) ?_
            refine lv_goto (tgt := 66) hx hb dX4_run_58 (by decide) ?_
            obtain ⟨kk, hkk⟩ : ∃ kk, kk = i % rp := ⟨_, rfl⟩
            have zk9 : kk = rsK l9 w9 rho rp i (t0, g0, g1, g2) := by
              unfold rsK nxt
              rw [if_pos zc48]; exact hkk
            have zkl : kk < rp := by rw [zk9]; exact nxt_lt (by omega)
            refine r_nat kk (by rw [hkk]) ?_
            refine lv_istore_n (lv' := [(3, .int (nI kk)), (0, .ref (ad z)), (1, .int (nI rho)), (2, .int (nI n)), (4, .int (nI i))]) hx hb dX4_run_66 rfl hl (by decide) rfl (fun ls hl => ?_)
            refine lv_aload_n hx hb dX4_run_67 rfl (lv_at hl 1 rfl) ?_
            refine lv_dup hx hb dX4_run_68 rfl ?_
            refine r_get C zlw34 RX4 TX4 7 1 hinX4 (i := z) (by omega) zl34_5 rfl 6 (by decide) (by decide +kernel) rfl (v := .int t0) rfl dX4_run_69 ?_
            refine lv_aload_n hx hb dX4_run_72 rfl (lv_at hl 1 rfl) ?_
            refine r_get C zlw34 RX4 TX4 7 1 hinX4 (i := z) (by omega) zl34_5 rfl 0 (by decide) (by decide +kernel) rfl (v := .ref (ad (z + 1))) rfl dX4_run_73 ?_
            refine lv_iload_n hx hb dX4_run_76 rfl (lv_at hl 0 rfl) ?_
            refine r_iaN C zlw34 (i := (z + 1)) (by omega) zl34_0 (j := kk) (by omega) (by omega) dX4_run_77 ?_
            refine lv_iadd hx hb dX4_run_78 ?_
            refine r_put C zlw34 RX4 TX4 7 1 hinX4 tyX4 tyX4_ok nmX4 (i := z) (by omega) zl34_5 rfl 6 (by decide) (by decide +kernel) rfl rfl (v := .int (t0 + (ln kk))) rfl rfl (Nat.le_of_ble_eq_true rfl) dX4_run_79 (fun zE14 zH14 zL14 zg14 zf14 zw14 => ?_)
            have zh14_0 : zE14 z = .inr (1, [.ref (ad (z + 1)), .ref (ad (z + 2)), .ref (ad (z + 3)), .ref (ad (z + 4)), .ref (ad (z + 5)), .int (nI rp), .int (t0 + (ln kk))]) := zg14
            have zk14_0 : zE14 (z + 1) = eI G 10 ln := (zf14 _ (by omega)).trans zl34_0
            have zk14_1 : zE14 (z + 2) = eI G 10 wt := (zf14 _ (by omega)).trans zl34_1
            have zk14_2 : zE14 (z + 3) = eI G 10 g0 := (zf14 _ (by omega)).trans zl34_2
            have zk14_3 : zE14 (z + 4) = eI G 10 g1 := (zf14 _ (by omega)).trans zl34_3
            have zk14_4 : zE14 (z + 5) = eI G 10 g2 := (zf14 _ (by omega)).trans zl34_4
            have zfr14 : ∀ j, j ≠ (z + 3) → j ≠ (z + 4) → j ≠ (z + 5) → j ≠ z → zE14 j = E j := fun j zm0 zm1 zm2 zm3 => (zf14 j zm3).trans (zlf34 j zm0 zm1 zm2 zm3)
            refine lv_aload_n hx hb dX4_run_82 rfl (lv_at hl 1 rfl) ?_
            refine lv_iload_n hx hb dX4_run_83 rfl (lv_at hl 0 rfl) ?_
            refine r_vV C zw14 hl.1 (i := z) (by omega) zh14_0 (T := TX4) (n := 7) rfl [.int (nI kk)] 1 rfl (c_X4_waitEnds (l := l) (G := G) (tC := tC) (ad := ad) (N := N) (E := zE14) (z := z) (rp := rp) (tm := t0 + (ln kk)) (en := g1) (wa := g2) (k := kk) (by omega) zh14_0 zk14_3 zk14_4 (by first | assumption | omega)) gX4_run_X4_waitEnds rfl ⟨rfl, rfl⟩ (by decide +kernel) ⟨Nat.le_of_ble_eq_true rfl, Nat.le_of_ble_eq_true rfl⟩ (rest := []) rfl (Nat.le_of_ble_eq_true rfl) dX4_run_84 ⟨Nat.zero_le _, Nat.zero_le _⟩ (fun zE15 zH15 zL15 zp15 zw15 => ?_)
            obtain ⟨zg15_0, zf15⟩ := zp15
            have zh15_0 : zE15 (z + 5) = eI G 10 (upd g2 kk (mxI (g2 kk) ((t0 + (ln kk)) - g1 kk))) := zg15_0
            have zk15_0 : zE15 (z + 1) = eI G 10 ln := (zf15 _ (by omega)).trans zk14_0
            have zk15_1 : zE15 (z + 2) = eI G 10 wt := (zf15 _ (by omega)).trans zk14_1
            have zk15_2 : zE15 (z + 3) = eI G 10 g0 := (zf15 _ (by omega)).trans zk14_2
            have zk15_3 : zE15 (z + 4) = eI G 10 g1 := (zf15 _ (by omega)).trans zk14_3
            have zk15_4 : zE15 z = .inr (1, [.ref (ad (z + 1)), .ref (ad (z + 2)), .ref (ad (z + 3)), .ref (ad (z + 4)), .ref (ad (z + 5)), .int (nI rp), .int (t0 + (ln kk))]) := (zf15 _ (by omega)).trans zh14_0
            have zfr15 : ∀ j, j ≠ (z + 3) → j ≠ (z + 4) → j ≠ (z + 5) → j ≠ z → zE15 j = E j := fun j zm0 zm1 zm2 zm3 => (zf15 j zm2).trans (zfr14 j zm0 zm1 zm2 zm3)
            refine lv_aload_n hx hb dX4_run_87 rfl (lv_at hl 1 rfl) ?_
            refine r_get C zw15 RX4 TX4 7 1 hinX4 (i := z) (by omega) zk15_4 rfl 3 (by decide) (by decide +kernel) rfl (v := .ref (ad (z + 4))) rfl dX4_run_88 ?_
            refine lv_iload_n hx hb dX4_run_91 rfl (lv_at hl 0 rfl) ?_
            refine lv_aload_n hx hb dX4_run_92 rfl (lv_at hl 1 rfl) ?_
            refine r_get C zw15 RX4 TX4 7 1 hinX4 (i := z) (by omega) zk15_4 rfl 6 (by decide) (by decide +kernel) rfl (v := .int (t0 + (ln kk))) rfl dX4_run_93 ?_
            refine r_iasN C zw15 (i := (z + 4)) (by omega) zk15_3 (j := kk) (by omega) (by omega) dX4_run_96 (fun zE16 zH16 zL16 zg16 zf16 zw16 => ?_)
            have zh16_0 : zE16 (z + 4) = eI G 10 (upd g1 kk (t0 + (ln kk))) := zg16
            have zk16_0 : zE16 (z + 1) = eI G 10 ln := (zf16 _ (by omega)).trans zk15_0
            have zk16_1 : zE16 (z + 2) = eI G 10 wt := (zf16 _ (by omega)).trans zk15_1
            have zk16_2 : zE16 (z + 3) = eI G 10 g0 := (zf16 _ (by omega)).trans zk15_2
            have zk16_3 : zE16 z = .inr (1, [.ref (ad (z + 1)), .ref (ad (z + 2)), .ref (ad (z + 3)), .ref (ad (z + 4)), .ref (ad (z + 5)), .int (nI rp), .int (t0 + (ln kk))]) := (zf16 _ (by omega)).trans zk15_4
            have zk16_4 : zE16 (z + 5) = eI G 10 (upd g2 kk (mxI (g2 kk) ((t0 + (ln kk)) - g1 kk))) := (zf16 _ (by omega)).trans zh15_0
            have zfr16 : ∀ j, j ≠ (z + 3) → j ≠ (z + 4) → j ≠ (z + 5) → j ≠ z → zE16 j = E j := fun j zm0 zm1 zm2 zm3 => (zf16 j zm1).trans (zfr15 j zm0 zm1 zm2 zm3)
            refine lv_aload_n hx hb dX4_run_97 rfl (lv_at hl 1 rfl) ?_
            refine r_get C zw16 RX4 TX4 7 1 hinX4 (i := z) (by omega) zk16_3 rfl 2 (by decide) (by decide +kernel) rfl (v := .ref (ad (z + 3))) rfl dX4_run_98 ?_
            refine lv_iload_n hx hb dX4_run_101 rfl (lv_at hl 0 rfl) ?_
            refine lv_dup2_11 hx hb dX4_run_102 rfl rfl ?_
            refine r_iaN C zw16 (i := (z + 3)) (by omega) zk16_2 (j := kk) (by omega) (by omega) dX4_run_103 ?_
            refine lv_iconst (v := nI 1) hx hb dX4_run_104 rfl ?_
            refine lv_iadd hx hb dX4_run_105 ?_
            refine r_iasN C zw16 (i := (z + 3)) (by omega) zk16_2 (j := kk) (by omega) (by omega) dX4_run_106 (fun zE17 zH17 zL17 zg17 zf17 zw17 => ?_)
            have zh17_0 : zE17 (z + 3) = eI G 10 (upd g0 kk ((g0 kk) + (nI 1))) := zg17
            have zk17_0 : zE17 (z + 1) = eI G 10 ln := (zf17 _ (by omega)).trans zk16_0
            have zk17_1 : zE17 (z + 2) = eI G 10 wt := (zf17 _ (by omega)).trans zk16_1
            have zk17_2 : zE17 z = .inr (1, [.ref (ad (z + 1)), .ref (ad (z + 2)), .ref (ad (z + 3)), .ref (ad (z + 4)), .ref (ad (z + 5)), .int (nI rp), .int (t0 + (ln kk))]) := (zf17 _ (by omega)).trans zk16_3
            have zk17_3 : zE17 (z + 5) = eI G 10 (upd g2 kk (mxI (g2 kk) ((t0 + (ln kk)) - g1 kk))) := (zf17 _ (by omega)).trans zk16_4
            have zk17_4 : zE17 (z + 4) = eI G 10 (upd g1 kk (t0 + (ln kk))) := (zf17 _ (by omega)).trans zh16_0
            have zfr17 : ∀ j, j ≠ (z + 3) → j ≠ (z + 4) → j ≠ (z + 5) → j ≠ z → zE17 j = E j := fun j zm0 zm1 zm2 zm3 => (zf17 j zm0).trans (zfr16 j zm0 zm1 zm2 zm3)
            refine lv_iinc (v := nI (i + 1)) (lv' := [(4, .int (nI (i + 1))), (3, .int (nI kk)), (0, .ref (ad z)), (1, .int (nI rho)), (2, .int (nI n))]) hx hb dX4_run_107 hl (k := 4) rfl (by rw [show Int32.ofInt 1 = nI 1 from rfl, nI_add]) (by decide) rfl (fun ls hl => ?_)
            refine lv_goto (tgt := 34) hx hb dX4_run_110 (by decide) ?_
            exact zih34 (i + 1) (t0 + (ln kk)) (nI kk) (upd g0 kk ((g0 kk) + (nI 1))) (upd g1 kk (t0 + (ln kk))) (upd g2 kk (mxI (g2 kk) ((t0 + (ln kk)) - g1 kk))) (by omega) (by omega) (by rw [lastK, if_neg (by omega), sentK, show i + 1 - 1 = i by omega, ← hT, ← zk9]) (by rw [rs, ← hT, ← zk9, rsS, (he2 _ zkl).1]) _ _ _ zk17_0 zk17_1 zh17_0 zk17_4 zk17_3 zk17_2 (fun j zm0 zm1 zm2 zm3 => zfr17 j zm0 zm1 zm2 zm3) zw17 _ (lv_sub hl [2, 3, 4, 1, 0] rfl)
  exact zlp34 _ 0 (nI 0) (-1) (fun _ => nI 0) (fun _ => nI 0) (fun _ => nI 0) (Nat.lt_succ_self _) (by omega) (by rfl) (by rfl) _ _ _ zk7_0 zk7_1 zk7_2 zk7_3 zk7_4 zh7_0 (fun j zm0 zm1 zm2 zm3 => zfr7 j zm0 zm1 zm2 zm3) zw7 _ (lv_sub hl [2, 3, 4, 1, 0] rfl)

set_option maxHeartbeats 4000000 in
set_option maxRecDepth 100000 in
theorem c_X4_run_0 {l : Launch} {G : vG} {tC : Nat} {ad : Nat → Nat} {N : Nat} {E : Nat → va_E} {z rp : Nat} {tm : Int32} {ln wt og en wa l9 w9 : Nat → Int32} {rho n : Nat} (hN0 : z + 6 ≤ N) (hE0 : E z = .inr (1, [.ref (ad (z + 1)), .ref (ad (z + 2)), .ref (ad (z + 3)), .ref (ad (z + 4)), .ref (ad (z + 5)), .int (nI rp), .int tm])) (hE1 : E (z + 1) = eI G 10 ln) (hE2 : E (z + 2) = eI G 10 wt) (hE3 : E (z + 3) = eI G 10 og) (hE4 : E (z + 4) = eI G 10 en) (hE5 : E (z + 5) = eI G 10 wa) (he2 : eq2 ln wt l9 w9 rp) (hrp : rp ≤ 10) (hr : rho ≤ 3) (hn : n ≤ 60) (h1 : rp = 0) : MI l yX4_run wsX4_run ({ frames := 3, cells := 0, slots := 0, locals := 67 } : Room) G tC ad N E [.ref (ad z), .int (nI rho), .int (nI n)] (fun r E2 => ∃ tm2 : Int32, ∃ og2 : Nat → Int32, ∃ en2 : Nat → Int32, ∃ wa2 : Nat → Int32, E2 z = .inr (1, [.ref (ad (z + 1)), .ref (ad (z + 2)), .ref (ad (z + 3)), .ref (ad (z + 4)), .ref (ad (z + 5)), .int (nI rp), .int tm2]) ∧ E2 (z + 3) = eI G 10 og2 ∧ E2 (z + 4) = eI G 10 en2 ∧ E2 (z + 5) = eI G 10 wa2 ∧ (∀ j, j ≠ z → j ≠ (z + 3) → j ≠ (z + 4) → j ≠ (z + 5) → E2 j = E j) ∧ r = -1) := by
  refine MI_of RX4 rfl (by decide) rfl (Nat.le_of_ble_eq_true rfl) ?_
  intro pp_ ee_ ss_ mm_ aa_ bb_ me_ cc_ A ls C hw hl
  have hx := C.1
  have hb := C.2.1
  have hown := C.2.2.2.2.1
  have hts := C.2.2.2.2.2.1
  have hl : lv_has ls 5 [(0, .ref (ad z)), (1, .int (nI rho)), (2, .int (nI n))] := hl
  have hinX4 : ∀ w ∈ u_ws RX4 TX4 7, w ∈ wsX4_run := by decide +kernel
  refine lv_aload_n hx hb dX4_run_0 rfl (lv_at hl 0 rfl) ?_
  refine r_get C hw RX4 TX4 7 1 hinX4 (i := z) (by omega) hE0 rfl 2 (by decide) (by decide +kernel) rfl (v := .ref (ad (z + 3))) rfl dX4_run_1 ?_
  refine lv_iconst (v := nI 0) hx hb dX4_run_4 rfl ?_
  refine r_sV C hw hl.1 [.ref (ad (z + 3)), .int (nI 0)] 2 rfl (c_J7_fill_53178 (l := l) (G := G) (tC := tC) (ad := ad) (N := N) (E := E) (q := (z + 3)) (n := 10) (f := og) (v := nI 0) (by omega) hE3 (by first | assumption | omega)) gX4_run_J7_fill_53178 rfl ⟨rfl, rfl⟩ (by decide +kernel) ⟨Nat.le_of_ble_eq_true rfl, Nat.le_of_ble_eq_true rfl⟩ (rest := []) rfl (Nat.le_of_ble_eq_true rfl) dX4_run_5 ⟨Nat.zero_le _, Nat.zero_le _⟩ (fun zE1 zH1 zL1 zp1 zw1 => ?_)
  obtain ⟨zg1_0, zf1⟩ := zp1
  have zh1_0 : zE1 (z + 3) = eI G 10 (fillF og 0 10 (nI 0)) := zg1_0
  have zk1_0 : zE1 z = .inr (1, [.ref (ad (z + 1)), .ref (ad (z + 2)), .ref (ad (z + 3)), .ref (ad (z + 4)), .ref (ad (z + 5)), .int (nI rp), .int tm]) := (zf1 _ (by omega)).trans hE0
  have zk1_1 : zE1 (z + 1) = eI G 10 ln := (zf1 _ (by omega)).trans hE1
  have zk1_2 : zE1 (z + 2) = eI G 10 wt := (zf1 _ (by omega)).trans hE2
  have zk1_3 : zE1 (z + 4) = eI G 10 en := (zf1 _ (by omega)).trans hE4
  have zk1_4 : zE1 (z + 5) = eI G 10 wa := (zf1 _ (by omega)).trans hE5
  have zfr1 : ∀ j, j ≠ (z + 3) → zE1 j = E j := fun j zm0 => zf1 j zm0
  refine lv_aload_n hx hb dX4_run_8 rfl (lv_at hl 0 rfl) ?_
  refine r_get C zw1 RX4 TX4 7 1 hinX4 (i := z) (by omega) zk1_0 rfl 3 (by decide) (by decide +kernel) rfl (v := .ref (ad (z + 4))) rfl dX4_run_9 ?_
  refine lv_iconst (v := nI 0) hx hb dX4_run_12 rfl ?_
  refine r_sV C zw1 hl.1 [.ref (ad (z + 4)), .int (nI 0)] 2 rfl (c_J7_fill_53178 (l := l) (G := G) (tC := tC) (ad := ad) (N := N) (E := zE1) (q := (z + 4)) (n := 10) (f := en) (v := nI 0) (by omega) zk1_3 (by first | assumption | omega)) gX4_run_J7_fill_53178 rfl ⟨rfl, rfl⟩ (by decide +kernel) ⟨Nat.le_of_ble_eq_true rfl, Nat.le_of_ble_eq_true rfl⟩ (rest := []) rfl (Nat.le_of_ble_eq_true rfl) dX4_run_13 ⟨Nat.zero_le _, Nat.zero_le _⟩ (fun zE2 zH2 zL2 zp2 zw2 => ?_)
  obtain ⟨zg2_0, zf2⟩ := zp2
  have zh2_0 : zE2 (z + 4) = eI G 10 (fillF en 0 10 (nI 0)) := zg2_0
  have zk2_0 : zE2 z = .inr (1, [.ref (ad (z + 1)), .ref (ad (z + 2)), .ref (ad (z + 3)), .ref (ad (z + 4)), .ref (ad (z + 5)), .int (nI rp), .int tm]) := (zf2 _ (by omega)).trans zk1_0
  have zk2_1 : zE2 (z + 1) = eI G 10 ln := (zf2 _ (by omega)).trans zk1_1
  have zk2_2 : zE2 (z + 2) = eI G 10 wt := (zf2 _ (by omega)).trans zk1_2
  have zk2_3 : zE2 (z + 5) = eI G 10 wa := (zf2 _ (by omega)).trans zk1_4
  have zk2_4 : zE2 (z + 3) = eI G 10 (fillF og 0 10 (nI 0)) := (zf2 _ (by omega)).trans zh1_0
  have zfr2 : ∀ j, j ≠ (z + 3) → j ≠ (z + 4) → zE2 j = E j := fun j zm0 zm1 => (zf2 j zm1).trans (zfr1 j zm0)
  refine lv_aload_n hx hb dX4_run_16 rfl (lv_at hl 0 rfl) ?_
  refine r_get C zw2 RX4 TX4 7 1 hinX4 (i := z) (by omega) zk2_0 rfl 4 (by decide) (by decide +kernel) rfl (v := .ref (ad (z + 5))) rfl dX4_run_17 ?_
  refine lv_iconst (v := nI 0) hx hb dX4_run_20 rfl ?_
  refine r_sV C zw2 hl.1 [.ref (ad (z + 5)), .int (nI 0)] 2 rfl (c_J7_fill_53178 (l := l) (G := G) (tC := tC) (ad := ad) (N := N) (E := zE2) (q := (z + 5)) (n := 10) (f := wa) (v := nI 0) (by omega) zk2_3 (by first | assumption | omega)) gX4_run_J7_fill_53178 rfl ⟨rfl, rfl⟩ (by decide +kernel) ⟨Nat.le_of_ble_eq_true rfl, Nat.le_of_ble_eq_true rfl⟩ (rest := []) rfl (Nat.le_of_ble_eq_true rfl) dX4_run_21 ⟨Nat.zero_le _, Nat.zero_le _⟩ (fun zE3 zH3 zL3 zp3 zw3 => ?_)
  obtain ⟨zg3_0, zf3⟩ := zp3
  have zh3_0 : zE3 (z + 5) = eI G 10 (fillF wa 0 10 (nI 0)) := zg3_0
  have zk3_0 : zE3 z = .inr (1, [.ref (ad (z + 1)), .ref (ad (z + 2)), .ref (ad (z + 3)), .ref (ad (z + 4)), .ref (ad (z + 5)), .int (nI rp), .int tm]) := (zf3 _ (by omega)).trans zk2_0
  have zk3_1 : zE3 (z + 1) = eI G 10 ln := (zf3 _ (by omega)).trans zk2_1
  have zk3_2 : zE3 (z + 2) = eI G 10 wt := (zf3 _ (by omega)).trans zk2_2
  have zk3_3 : zE3 (z + 3) = eI G 10 (fillF og 0 10 (nI 0)) := (zf3 _ (by omega)).trans zk2_4
  have zk3_4 : zE3 (z + 4) = eI G 10 (fillF en 0 10 (nI 0)) := (zf3 _ (by omega)).trans zh2_0
  have zfr3 : ∀ j, j ≠ (z + 3) → j ≠ (z + 4) → j ≠ (z + 5) → zE3 j = E j := fun j zm0 zm1 zm2 => (zf3 j zm2).trans (zfr2 j zm0 zm1)
  refine r_congI zw3 (i := (z + 3)) (by omega) zk3_3 (f2 := fun _ => nI 0) (fun j hj => by rw [fillF, if_pos ⟨Nat.zero_le _, hj⟩]) (fun zE4 zg4 zf4 zw4 => ?_)
  have zh4_0 : zE4 (z + 3) = eI G 10 (fun _ => nI 0) := zg4
  have zk4_0 : zE4 z = .inr (1, [.ref (ad (z + 1)), .ref (ad (z + 2)), .ref (ad (z + 3)), .ref (ad (z + 4)), .ref (ad (z + 5)), .int (nI rp), .int tm]) := (zf4 _ (by omega)).trans zk3_0
  have zk4_1 : zE4 (z + 1) = eI G 10 ln := (zf4 _ (by omega)).trans zk3_1
  have zk4_2 : zE4 (z + 2) = eI G 10 wt := (zf4 _ (by omega)).trans zk3_2
  have zk4_3 : zE4 (z + 4) = eI G 10 (fillF en 0 10 (nI 0)) := (zf4 _ (by omega)).trans zk3_4
  have zk4_4 : zE4 (z + 5) = eI G 10 (fillF wa 0 10 (nI 0)) := (zf4 _ (by omega)).trans zh3_0
  have zfr4 : ∀ j, j ≠ (z + 3) → j ≠ (z + 4) → j ≠ (z + 5) → zE4 j = E j := fun j zm0 zm1 zm2 => (zf4 j zm0).trans (zfr3 j zm0 zm1 zm2)
  refine r_congI zw4 (i := (z + 4)) (by omega) zk4_3 (f2 := fun _ => nI 0) (fun j hj => by rw [fillF, if_pos ⟨Nat.zero_le _, hj⟩]) (fun zE5 zg5 zf5 zw5 => ?_)
  have zh5_0 : zE5 (z + 4) = eI G 10 (fun _ => nI 0) := zg5
  have zk5_0 : zE5 z = .inr (1, [.ref (ad (z + 1)), .ref (ad (z + 2)), .ref (ad (z + 3)), .ref (ad (z + 4)), .ref (ad (z + 5)), .int (nI rp), .int tm]) := (zf5 _ (by omega)).trans zk4_0
  have zk5_1 : zE5 (z + 1) = eI G 10 ln := (zf5 _ (by omega)).trans zk4_1
  have zk5_2 : zE5 (z + 2) = eI G 10 wt := (zf5 _ (by omega)).trans zk4_2
  have zk5_3 : zE5 (z + 5) = eI G 10 (fillF wa 0 10 (nI 0)) := (zf5 _ (by omega)).trans zk4_4
  have zk5_4 : zE5 (z + 3) = eI G 10 (fun _ => nI 0) := (zf5 _ (by omega)).trans zh4_0
  have zfr5 : ∀ j, j ≠ (z + 3) → j ≠ (z + 4) → j ≠ (z + 5) → zE5 j = E j := fun j zm0 zm1 zm2 => (zf5 j zm1).trans (zfr4 j zm0 zm1 zm2)
  refine r_congI zw5 (i := (z + 5)) (by omega) zk5_3 (f2 := fun _ => nI 0) (fun j hj => by rw [fillF, if_pos ⟨Nat.zero_le _, hj⟩]) (fun zE6 zg6 zf6 zw6 => ?_)
  have zh6_0 : zE6 (z + 5) = eI G 10 (fun _ => nI 0) := zg6
  have zk6_0 : zE6 z = .inr (1, [.ref (ad (z + 1)), .ref (ad (z + 2)), .ref (ad (z + 3)), .ref (ad (z + 4)), .ref (ad (z + 5)), .int (nI rp), .int tm]) := (zf6 _ (by omega)).trans zk5_0
  have zk6_1 : zE6 (z + 1) = eI G 10 ln := (zf6 _ (by omega)).trans zk5_1
  have zk6_2 : zE6 (z + 2) = eI G 10 wt := (zf6 _ (by omega)).trans zk5_2
  have zk6_3 : zE6 (z + 3) = eI G 10 (fun _ => nI 0) := (zf6 _ (by omega)).trans zk5_4
  have zk6_4 : zE6 (z + 4) = eI G 10 (fun _ => nI 0) := (zf6 _ (by omega)).trans zh5_0
  have zfr6 : ∀ j, j ≠ (z + 3) → j ≠ (z + 4) → j ≠ (z + 5) → zE6 j = E j := fun j zm0 zm1 zm2 => (zf6 j zm2).trans (zfr5 j zm0 zm1 zm2)
  refine lv_aload_n hx hb dX4_run_24 rfl (lv_at hl 0 rfl) ?_
  refine lv_iconst (v := nI 0) hx hb dX4_run_25 rfl ?_
  refine r_put C zw6 RX4 TX4 7 1 hinX4 tyX4 tyX4_ok nmX4 (i := z) (by omega) zk6_0 rfl 6 (by decide) (by decide +kernel) rfl rfl (v := .int (nI 0)) rfl rfl (Nat.le_of_ble_eq_true rfl) dX4_run_26 (fun zE7 zH7 zL7 zg7 zf7 zw7 => ?_)
  have zh7_0 : zE7 z = .inr (1, [.ref (ad (z + 1)), .ref (ad (z + 2)), .ref (ad (z + 3)), .ref (ad (z + 4)), .ref (ad (z + 5)), .int (nI rp), .int (nI 0)]) := zg7
  have zk7_0 : zE7 (z + 1) = eI G 10 ln := (zf7 _ (by omega)).trans zk6_1
  have zk7_1 : zE7 (z + 2) = eI G 10 wt := (zf7 _ (by omega)).trans zk6_2
  have zk7_2 : zE7 (z + 3) = eI G 10 (fun _ => nI 0) := (zf7 _ (by omega)).trans zk6_3
  have zk7_3 : zE7 (z + 4) = eI G 10 (fun _ => nI 0) := (zf7 _ (by omega)).trans zk6_4
  have zk7_4 : zE7 (z + 5) = eI G 10 (fun _ => nI 0) := (zf7 _ (by omega)).trans zh6_0
  have zfr7 : ∀ j, j ≠ (z + 3) → j ≠ (z + 4) → j ≠ (z + 5) → j ≠ z → zE7 j = E j := fun j zm0 zm1 zm2 zm3 => (zf7 j zm3).trans (zfr6 j zm0 zm1 zm2)
  refine lv_iconst (v := -1) hx hb dX4_run_29 (by decide) ?_
  refine lv_istore_n (lv' := [(3, .int (-1)), (0, .ref (ad z)), (1, .int (nI rho)), (2, .int (nI n))]) hx hb dX4_run_30 rfl hl (by decide) rfl (fun ls hl => ?_)
  refine lv_iconst (v := nI 0) hx hb dX4_run_31 rfl ?_
  refine lv_istore (lv' := [(4, .int (nI 0)), (3, .int (-1)), (0, .ref (ad z)), (1, .int (nI rho)), (2, .int (nI n))]) hx hb dX4_run_32 hl (by decide) rfl (fun ls hl => ?_)
  have zlp34 : ∀ (zn : Nat) (i : Nat) (t0 x3 : Int32) (g0 g1 g2 : Nat → Int32), n - i < zn → (i ≤ n) → (x3 = lastK l9 w9 rho rp i) → ((t0, g0, g1, g2) = rs l9 w9 rho rp i) → (lastK l9 w9 rho rp i = -1) → ∀ (E9 : Nat → va_E) (H9 : Heap) (L9 : List Loc), E9 (z + 1) = eI G 10 ln → E9 (z + 2) = eI G 10 wt → E9 (z + 3) = eI G 10 g0 → E9 (z + 4) = eI G 10 g1 → E9 (z + 5) = eI G 10 g2 → E9 z = .inr (1, [.ref (ad (z + 1)), .ref (ad (z + 2)), .ref (ad (z + 3)), .ref (ad (z + 4)), .ref (ad (z + 5)), .int (nI rp), .int t0]) → (∀ j, j ≠ (z + 3) → j ≠ (z + 4) → j ≠ (z + 5) → j ≠ z → E9 j = E j) → Wd G A ss_.heap H9 L9 ad E9 N → ∀ (ls : Array Slot), lv_has ls 5 [(0, .ref (ad z)), (1, .int (nI rho)), (2, .int (nI n)), (3, .int x3), (4, .int (nI i))] → W pp_ l ee_ ({ frames := 3, cells := 0, slots := 0, locals := 67 } : Room) ss_ mm_ aa_ bb_ me_ cc_ H9 L9 0 0 (QI bb_ aa_ ss_ G ad N A (fun r E2 => ∃ tm2 : Int32, ∃ og2 : Nat → Int32, ∃ en2 : Nat → Int32, ∃ wa2 : Nat → Int32, E2 z = .inr (1, [.ref (ad (z + 1)), .ref (ad (z + 2)), .ref (ad (z + 3)), .ref (ad (z + 4)), .ref (ad (z + 5)), .int (nI rp), .int tm2]) ∧ E2 (z + 3) = eI G 10 og2 ∧ E2 (z + 4) = eI G 10 en2 ∧ E2 (z + 5) = eI G 10 wa2 ∧ (∀ j, j ≠ z → j ≠ (z + 3) → j ≠ (z + 4) → j ≠ (z + 5) → E2 j = E j) ∧ r = -1)) (F0 mm_ 34 ls []) := by
    intro zn
    induction zn with
    | zero => intro i t0 x3 g0 g1 g2 zhm; exact absurd zhm (Nat.not_lt_zero _)
    | succ zn zih34 =>
      intro i t0 x3 g0 g1 g2 zhm34 hi hx3 hT hx0 zE_34 zH_34 zL_34 zl34_0 zl34_1 zl34_2 zl34_3 zl34_4 zl34_5 zlf34  zlw34 ls hl
      refine lv_iload hx hb dX4_run_34 (lv_at hl 4 rfl) ?_
      refine lv_iload_n hx hb dX4_run_36 rfl (lv_at hl 2 rfl) ?_
      refine n_icmp_ge (tgt := 113) hx hb dX4_run_37 (by decide) (by omega) (by omega) (fun zc37 => ?_) (fun zc37 => ?_)
      · refine lv_iconst (v := nI 0) hx hb dX4_run_113 rfl ?_
        refine lv_istore (lv' := [(4, .int (nI 0)), (0, .ref (ad z)), (1, .int (nI rho)), (2, .int (nI n)), (3, .int x3)]) hx hb dX4_run_114 hl (by decide) rfl (fun ls hl => ?_)
        have zlp116 : ∀ (zn : Nat) (k : Nat) (g3 : Nat → Int32), rp - k < zn → (k ≤ rp) → (g3 = fwF t0 g1 g2 k) → ∀ (E9 : Nat → va_E) (H9 : Heap) (L9 : List Loc), E9 (z + 1) = eI G 10 ln → E9 (z + 2) = eI G 10 wt → E9 (z + 3) = eI G 10 g0 → E9 (z + 4) = eI G 10 g1 → E9 (z + 5) = eI G 10 g3 → E9 z = .inr (1, [.ref (ad (z + 1)), .ref (ad (z + 2)), .ref (ad (z + 3)), .ref (ad (z + 4)), .ref (ad (z + 5)), .int (nI rp), .int t0]) → (∀ j, j ≠ (z + 3) → j ≠ (z + 4) → j ≠ (z + 5) → j ≠ z → E9 j = E j) → Wd G A ss_.heap H9 L9 ad E9 N → ∀ (ls : Array Slot), lv_has ls 5 [(0, .ref (ad z)), (3, .int x3), (4, .int (nI k))] → W pp_ l ee_ ({ frames := 3, cells := 0, slots := 0, locals := 67 } : Room) ss_ mm_ aa_ bb_ me_ cc_ H9 L9 0 0 (QI bb_ aa_ ss_ G ad N A (fun r E2 => ∃ tm2 : Int32, ∃ og2 : Nat → Int32, ∃ en2 : Nat → Int32, ∃ wa2 : Nat → Int32, E2 z = .inr (1, [.ref (ad (z + 1)), .ref (ad (z + 2)), .ref (ad (z + 3)), .ref (ad (z + 4)), .ref (ad (z + 5)), .int (nI rp), .int tm2]) ∧ E2 (z + 3) = eI G 10 og2 ∧ E2 (z + 4) = eI G 10 en2 ∧ E2 (z + 5) = eI G 10 wa2 ∧ (∀ j, j ≠ z → j ≠ (z + 3) → j ≠ (z + 4) → j ≠ (z + 5) → E2 j = E j) ∧ r = -1)) (F0 mm_ 116 ls []) := by
          intro zn
          induction zn with
          | zero => intro k g3 zhm; exact absurd zhm (Nat.not_lt_zero _)
          | succ zn zih116 =>
            intro k g3 zhm116 hk h3 zE_116 zH_116 zL_116 zl116_0 zl116_1 zl116_2 zl116_3 zl116_4 zl116_5 zlf116  zlw116 ls hl
            refine lv_iload hx hb dX4_run_116 (lv_at hl 2 rfl) ?_
            refine lv_aload_n hx hb dX4_run_118 rfl (lv_at hl 0 rfl) ?_
            refine r_get C zlw116 RX4 TX4 7 1 hinX4 (i := z) (by omega) zl116_5 rfl 5 (by decide) (by decide +kernel) rfl (v := .int (nI rp)) rfl dX4_run_119 ?_
            refine n_icmp_ge (tgt := 137) hx hb dX4_run_122 (by decide) (by omega) (by omega) (fun zc122 => ?_) (fun zc122 => ?_)
            · refine lv_iload_n hx hb dX4_run_137 rfl (lv_at hl 1 rfl) ?_
              exact r_iret C zlw116 dX4_run_138 ⟨t0, g0, g1, g3, zl116_5, zl116_2, zl116_3, zl116_4, (fun j zm0 zm1 zm2 zm3 => zlf116 j zm1 zm2 zm3 zm0), (by rw [hx3]; exact hx0)⟩
            · refine lv_aload_n hx hb dX4_run_125 rfl (lv_at hl 0 rfl) ?_
              refine lv_iload hx hb dX4_run_126 (lv_at hl 2 rfl) ?_
              refine r_vV C zlw116 hl.1 (i := z) (by omega) zl116_5 (T := TX4) (n := 7) rfl [.int (nI k)] 1 rfl (c_X4_waitEnds (l := l) (G := G) (tC := tC) (ad := ad) (N := N) (E := zE_116) (z := z) (rp := rp) (tm := t0) (en := g1) (wa := g3) (k := k) (by omega) zl116_5 zl116_3 zl116_4 (by first | assumption | omega)) gX4_run_X4_waitEnds rfl ⟨rfl, rfl⟩ (by decide +kernel) ⟨Nat.le_of_ble_eq_true rfl, Nat.le_of_ble_eq_true rfl⟩ (rest := []) rfl (Nat.le_of_ble_eq_true rfl) dX4_run_128 ⟨Nat.zero_le _, Nat.zero_le _⟩ (fun zE8 zH8 zL8 zp8 zw8 => ?_)
              obtain ⟨zg8_0, zf8⟩ := zp8
              have zh8_0 : zE8 (z + 5) = eI G 10 (upd g3 k (mxI (g3 k) (t0 - g1 k))) := zg8_0
              have zk8_0 : zE8 (z + 1) = eI G 10 ln := (zf8 _ (by omega)).trans zl116_0
              have zk8_1 : zE8 (z + 2) = eI G 10 wt := (zf8 _ (by omega)).trans zl116_1
              have zk8_2 : zE8 (z + 3) = eI G 10 g0 := (zf8 _ (by omega)).trans zl116_2
              have zk8_3 : zE8 (z + 4) = eI G 10 g1 := (zf8 _ (by omega)).trans zl116_3
              have zk8_4 : zE8 z = .inr (1, [.ref (ad (z + 1)), .ref (ad (z + 2)), .ref (ad (z + 3)), .ref (ad (z + 4)), .ref (ad (z + 5)), .int (nI rp), .int t0]) := (zf8 _ (by omega)).trans zl116_5
              have zfr8 : ∀ j, j ≠ (z + 3) → j ≠ (z + 4) → j ≠ (z + 5) → j ≠ z → zE8 j = E j := fun j zm0 zm1 zm2 zm3 => (zf8 j zm2).trans (zlf116 j zm0 zm1 zm2 zm3)
              refine lv_iinc (v := nI (k + 1)) (lv' := [(4, .int (nI (k + 1))), (0, .ref (ad z)), (3, .int x3)]) hx hb dX4_run_131 hl (k := 2) rfl (by rw [show Int32.ofInt 1 = nI 1 from rfl, nI_add]) (by decide) rfl (fun ls hl => ?_)
              refine lv_goto (tgt := 116) hx hb dX4_run_134 (by decide) ?_
              exact zih116 (k + 1) (upd g3 k (mxI (g3 k) (t0 - g1 k))) (by omega) (by omega) (by rw [h3]; exact fwF_s _ _ _ _) _ _ _ zk8_0 zk8_1 zk8_2 zk8_3 zh8_0 zk8_4 (fun j zm0 zm1 zm2 zm3 => zfr8 j zm0 zm1 zm2 zm3) zw8 _ (lv_sub hl [1, 2, 0] rfl)
        exact zlp116 _ 0 g2 (Nat.lt_succ_self _) (by omega) (by exact (fwF_0 _ _ _).symm) _ _ _ zl34_0 zl34_1 zl34_2 zl34_3 zl34_4 zl34_5 (fun j zm0 zm1 zm2 zm3 => zlf34 j zm0 zm1 zm2 zm3) zlw34 _ (lv_sub hl [1, 4, 0] rfl)
      · refine lv_aload_n hx hb dX4_run_40 rfl (lv_at hl 0 rfl) ?_
        refine r_get C zlw34 RX4 TX4 7 1 hinX4 (i := z) (by omega) zl34_5 rfl 5 (by decide) (by decide +kernel) rfl (v := .int (nI rp)) rfl dX4_run_41 ?_
        refine n_if_le (tgt := 113) hx hb dX4_run_44 (by decide) (by omega) (fun zc44 => ?_) (fun zc44 => ?_)
        · refine lv_iconst (v := nI 0) hx hb dX4_run_113 rfl ?_
          refine lv_istore (lv' := [(4, .int (nI 0)), (0, .ref (ad z)), (1, .int (nI rho)), (2, .int (nI n)), (3, .int x3)]) hx hb dX4_run_114 hl (by decide) rfl (fun ls hl => ?_)
          have zlp116 : ∀ (zn : Nat) (k : Nat) (g3 : Nat → Int32), rp - k < zn → (k ≤ rp) → (g3 = fwF t0 g1 g2 k) → ∀ (E9 : Nat → va_E) (H9 : Heap) (L9 : List Loc), E9 (z + 1) = eI G 10 ln → E9 (z + 2) = eI G 10 wt → E9 (z + 3) = eI G 10 g0 → E9 (z + 4) = eI G 10 g1 → E9 (z + 5) = eI G 10 g3 → E9 z = .inr (1, [.ref (ad (z + 1)), .ref (ad (z + 2)), .ref (ad (z + 3)), .ref (ad (z + 4)), .ref (ad (z + 5)), .int (nI rp), .int t0]) → (∀ j, j ≠ (z + 3) → j ≠ (z + 4) → j ≠ (z + 5) → j ≠ z → E9 j = E j) → Wd G A ss_.heap H9 L9 ad E9 N → ∀ (ls : Array Slot), lv_has ls 5 [(0, .ref (ad z)), (3, .int x3), (4, .int (nI k))] → W pp_ l ee_ ({ frames := 3, cells := 0, slots := 0, locals := 67 } : Room) ss_ mm_ aa_ bb_ me_ cc_ H9 L9 0 0 (QI bb_ aa_ ss_ G ad N A (fun r E2 => ∃ tm2 : Int32, ∃ og2 : Nat → Int32, ∃ en2 : Nat → Int32, ∃ wa2 : Nat → Int32, E2 z = .inr (1, [.ref (ad (z + 1)), .ref (ad (z + 2)), .ref (ad (z + 3)), .ref (ad (z + 4)), .ref (ad (z + 5)), .int (nI rp), .int tm2]) ∧ E2 (z + 3) = eI G 10 og2 ∧ E2 (z + 4) = eI G 10 en2 ∧ E2 (z + 5) = eI G 10 wa2 ∧ (∀ j, j ≠ z → j ≠ (z + 3) → j ≠ (z + 4) → j ≠ (z + 5) → E2 j = E j) ∧ r = -1)) (F0 mm_ 116 ls []) := by
            intro zn
            induction zn with
            | zero => intro k g3 zhm; exact absurd zhm (Nat.not_lt_zero _)
            | succ zn zih116 =>
              intro k g3 zhm116 hk h3 zE_116 zH_116 zL_116 zl116_0 zl116_1 zl116_2 zl116_3 zl116_4 zl116_5 zlf116  zlw116 ls hl
              refine lv_iload hx hb dX4_run_116 (lv_at hl 2 rfl) ?_
              refine lv_aload_n hx hb dX4_run_118 rfl (lv_at hl 0 rfl) ?_
              refine r_get C zlw116 RX4 TX4 7 1 hinX4 (i := z) (by omega) zl116_5 rfl 5 (by decide) (by decide +kernel) rfl (v := .int (nI rp)) rfl dX4_run_119 ?_
              refine n_icmp_ge (tgt := 137) hx hb dX4_run_122 (by decide) (by omega) (by omega) (fun zc122 => ?_) (fun zc122 => ?_)
              · refine lv_iload_n hx hb dX4_run_137 rfl (lv_at hl 1 rfl) ?_
                exact r_iret C zlw116 dX4_run_138 ⟨t0, g0, g1, g3, zl116_5, zl116_2, zl116_3, zl116_4, (fun j zm0 zm1 zm2 zm3 => zlf116 j zm1 zm2 zm3 zm0), (by rw [hx3]; exact hx0)⟩
              · refine lv_aload_n hx hb dX4_run_125 rfl (lv_at hl 0 rfl) ?_
                refine lv_iload hx hb dX4_run_126 (lv_at hl 2 rfl) ?_
                refine r_vV C zlw116 hl.1 (i := z) (by omega) zl116_5 (T := TX4) (n := 7) rfl [.int (nI k)] 1 rfl (c_X4_waitEnds (l := l) (G := G) (tC := tC) (ad := ad) (N := N) (E := zE_116) (z := z) (rp := rp) (tm := t0) (en := g1) (wa := g3) (k := k) (by omega) zl116_5 zl116_3 zl116_4 (by first | assumption | omega)) gX4_run_X4_waitEnds rfl ⟨rfl, rfl⟩ (by decide +kernel) ⟨Nat.le_of_ble_eq_true rfl, Nat.le_of_ble_eq_true rfl⟩ (rest := []) rfl (Nat.le_of_ble_eq_true rfl) dX4_run_128 ⟨Nat.zero_le _, Nat.zero_le _⟩ (fun zE9 zH9 zL9 zp9 zw9 => ?_)
                obtain ⟨zg9_0, zf9⟩ := zp9
                have zh9_0 : zE9 (z + 5) = eI G 10 (upd g3 k (mxI (g3 k) (t0 - g1 k))) := zg9_0
                have zk9_0 : zE9 (z + 1) = eI G 10 ln := (zf9 _ (by omega)).trans zl116_0
                have zk9_1 : zE9 (z + 2) = eI G 10 wt := (zf9 _ (by omega)).trans zl116_1
                have zk9_2 : zE9 (z + 3) = eI G 10 g0 := (zf9 _ (by omega)).trans zl116_2
                have zk9_3 : zE9 (z + 4) = eI G 10 g1 := (zf9 _ (by omega)).trans zl116_3
                have zk9_4 : zE9 z = .inr (1, [.ref (ad (z + 1)), .ref (ad (z + 2)), .ref (ad (z + 3)), .ref (ad (z + 4)), .ref (ad (z + 5)), .int (nI rp), .int t0]) := (zf9 _ (by omega)).trans zl116_5
                have zfr9 : ∀ j, j ≠ (z + 3) → j ≠ (z + 4) → j ≠ (z + 5) → j ≠ z → zE9 j = E j := fun j zm0 zm1 zm2 zm3 => (zf9 j zm2).trans (zlf116 j zm0 zm1 zm2 zm3)
                refine lv_iinc (v := nI (k + 1)) (lv' := [(4, .int (nI (k + 1))), (0, .ref (ad z)), (3, .int x3)]) hx hb dX4_run_131 hl (k := 2) rfl (by rw [show Int32.ofInt 1 = nI 1 from rfl, nI_add]) (by decide) rfl (fun ls hl => ?_)
                refine lv_goto (tgt := 116) hx hb dX4_run_134 (by decide) ?_
                exact zih116 (k + 1) (upd g3 k (mxI (g3 k) (t0 - g1 k))) (by omega) (by omega) (by rw [h3]; exact fwF_s _ _ _ _) _ _ _ zk9_0 zk9_1 zk9_2 zk9_3 zh9_0 zk9_4 (fun j zm0 zm1 zm2 zm3 => zfr9 j zm0 zm1 zm2 zm3) zw9 _ (lv_sub hl [1, 2, 0] rfl)
          exact zlp116 _ 0 g2 (Nat.lt_succ_self _) (by omega) (by exact (fwF_0 _ _ _).symm) _ _ _ zl34_0 zl34_1 zl34_2 zl34_3 zl34_4 zl34_5 (fun j zm0 zm1 zm2 zm3 => zlf34 j zm0 zm1 zm2 zm3) zlw34 _ (lv_sub hl [1, 4, 0] rfl)
        · exact absurd zc44 (by omega)
  exact zlp34 _ 0 (nI 0) (-1) (fun _ => nI 0) (fun _ => nI 0) (fun _ => nI 0) (Nat.lt_succ_self _) (by omega) (by rfl) (by rfl) (by rfl) _ _ _ zk7_0 zk7_1 zk7_2 zk7_3 zk7_4 zh7_0 (fun j zm0 zm1 zm2 zm3 => zfr7 j zm0 zm1 zm2 zm3) zw7 _ (lv_sub hl [2, 3, 4, 1, 0] rfl)

set_option maxHeartbeats 4000000 in
set_option maxRecDepth 100000 in
theorem c_X4_worstWait {l : Launch} {G : vG} {tC : Nat} {ad : Nat → Nat} {N : Nat} {E : Nat → va_E} {z rp : Nat} {tm : Int32} {ln wt og en wa l9 w9 : Nat → Int32} {rho n : Nat} (hN0 : z + 6 ≤ N) (hE0 : E z = .inr (1, [.ref (ad (z + 1)), .ref (ad (z + 2)), .ref (ad (z + 3)), .ref (ad (z + 4)), .ref (ad (z + 5)), .int (nI rp), .int tm])) (hE1 : E (z + 1) = eI G 10 ln) (hE2 : E (z + 2) = eI G 10 wt) (hE3 : E (z + 3) = eI G 10 og) (hE4 : E (z + 4) = eI G 10 en) (hE5 : E (z + 5) = eI G 10 wa) (he2 : eq2 ln wt l9 w9 rp) (hrp : rp ≤ 10) (hr : rho ≤ 3) (hn : n ≤ 60) (h1 : 0 < rp) (hn1 : 1 ≤ n) : MI l yX4_worstWait wsX4_worstWait ({ frames := 4, cells := 0, slots := 0, locals := 91 } : Room) G tC ad N E [.ref (ad z), .int (nI rho), .int (nI n)] (fun r E2 => ∃ tm2 : Int32, ∃ og2 : Nat → Int32, ∃ en2 : Nat → Int32, E2 z = .inr (1, [.ref (ad (z + 1)), .ref (ad (z + 2)), .ref (ad (z + 3)), .ref (ad (z + 4)), .ref (ad (z + 5)), .int (nI rp), .int tm2]) ∧ E2 (z + 3) = eI G 10 og2 ∧ E2 (z + 4) = eI G 10 en2 ∧ E2 (z + 5) = eI G 10 (waitF l9 w9 rho rp n) ∧ (∀ j, j ≠ z → j ≠ (z + 3) → j ≠ (z + 4) → j ≠ (z + 5) → E2 j = E j) ∧ r = wstF l9 w9 rho rp n) := by
  refine MI_of RX4 rfl (by decide) rfl (Nat.le_of_ble_eq_true rfl) ?_
  intro pp_ ee_ ss_ mm_ aa_ bb_ me_ cc_ A ls C hw hl
  have hx := C.1
  have hb := C.2.1
  have hown := C.2.2.2.2.1
  have hts := C.2.2.2.2.2.1
  have hl : lv_has ls 5 [(0, .ref (ad z)), (1, .int (nI rho)), (2, .int (nI n))] := hl
  have hinX4 : ∀ w ∈ u_ws RX4 TX4 7, w ∈ wsX4_worstWait := by decide +kernel
  refine lv_aload_n hx hb dX4_worstWait_0 rfl (lv_at hl 0 rfl) ?_
  refine lv_iload_n hx hb dX4_worstWait_1 rfl (lv_at hl 1 rfl) ?_
  refine lv_iload_n hx hb dX4_worstWait_2 rfl (lv_at hl 2 rfl) ?_
  refine r_vI C hw hl.1 (i := z) (by omega) hE0 (T := TX4) (n := 7) rfl [.int (nI rho), .int (nI n)] 2 rfl (c_X4_run_y (l := l) (G := G) (tC := tC) (ad := ad) (N := N) (E := E) (z := z) (rp := rp) (tm := tm) (ln := ln) (wt := wt) (og := og) (en := en) (wa := wa) (l9 := l9) (w9 := w9) (rho := rho) (n := n) (by omega) hE0 hE1 hE2 hE3 hE4 hE5 (by first | assumption | omega) (by first | assumption | omega) (by first | assumption | omega) (by first | assumption | omega) (by first | assumption | omega) (by first | assumption | omega)) gX4_worstWait_X4_run rfl ⟨rfl, rfl⟩ (by decide +kernel) ⟨Nat.le_of_ble_eq_true rfl, Nat.le_of_ble_eq_true rfl⟩ (rest := []) rfl (Nat.le_of_ble_eq_true rfl) dX4_worstWait_3 ⟨Nat.zero_le _, Nat.zero_le _⟩ (fun zr1 zE1 zH1 zL1 zp1 zw1 => ?_)
  obtain ⟨ztm21, zog21, zen21, zg1_0, zg1_1, zg1_2, zg1_3, zf1, zq1⟩ := zp1
  have zh1_0 : zE1 z = .inr (1, [.ref (ad (z + 1)), .ref (ad (z + 2)), .ref (ad (z + 3)), .ref (ad (z + 4)), .ref (ad (z + 5)), .int (nI rp), .int ztm21]) := zg1_0
  have zh1_1 : zE1 (z + 3) = eI G 10 zog21 := zg1_1
  have zh1_2 : zE1 (z + 4) = eI G 10 zen21 := zg1_2
  have zh1_3 : zE1 (z + 5) = eI G 10 (waitF l9 w9 rho rp n) := zg1_3
  have zk1_0 : zE1 (z + 1) = eI G 10 ln := (zf1 _ (by omega) (by omega) (by omega) (by omega)).trans hE1
  have zk1_1 : zE1 (z + 2) = eI G 10 wt := (zf1 _ (by omega) (by omega) (by omega) (by omega)).trans hE2
  have zfr1 : ∀ j, j ≠ z → j ≠ (z + 3) → j ≠ (z + 4) → j ≠ (z + 5) → zE1 j = E j := fun j zm0 zm1 zm2 zm3 => zf1 j zm0 zm1 zm2 zm3
  rw [zq1]
  refine lv_pop hx hb dX4_worstWait_6 rfl ?_
  refine lv_iconst (v := nI 0) hx hb dX4_worstWait_7 rfl ?_
  refine lv_istore_n (lv' := [(3, .int (nI 0)), (0, .ref (ad z)), (1, .int (nI rho)), (2, .int (nI n))]) hx hb dX4_worstWait_8 rfl hl (by decide) rfl (fun ls hl => ?_)
  refine lv_iconst (v := nI 0) hx hb dX4_worstWait_9 rfl ?_
  refine lv_istore (lv' := [(4, .int (nI 0)), (3, .int (nI 0)), (0, .ref (ad z)), (1, .int (nI rho)), (2, .int (nI n))]) hx hb dX4_worstWait_10 hl (by decide) rfl (fun ls hl => ?_)
  have zlp12 : ∀ (zn : Nat) (k : Nat) (x : Int32), rp - k < zn → (k ≤ rp) → (x = wrst w9 (waitF l9 w9 rho rp n) k) → ∀ (E9 : Nat → va_E) (H9 : Heap) (L9 : List Loc), E9 (z + 1) = eI G 10 ln → E9 (z + 2) = eI G 10 wt → E9 z = .inr (1, [.ref (ad (z + 1)), .ref (ad (z + 2)), .ref (ad (z + 3)), .ref (ad (z + 4)), .ref (ad (z + 5)), .int (nI rp), .int ztm21]) → E9 (z + 3) = eI G 10 zog21 → E9 (z + 4) = eI G 10 zen21 → E9 (z + 5) = eI G 10 (waitF l9 w9 rho rp n) → (∀ j, j ≠ z → j ≠ (z + 3) → j ≠ (z + 4) → j ≠ (z + 5) → E9 j = E j) → Wd G A ss_.heap H9 L9 ad E9 N → ∀ (ls : Array Slot), lv_has ls 5 [(0, .ref (ad z)), (3, .int x), (4, .int (nI k))] → W pp_ l ee_ ({ frames := 4, cells := 0, slots := 0, locals := 91 } : Room) ss_ mm_ aa_ bb_ me_ cc_ H9 L9 0 0 (QI bb_ aa_ ss_ G ad N A (fun r E2 => ∃ tm2 : Int32, ∃ og2 : Nat → Int32, ∃ en2 : Nat → Int32, E2 z = .inr (1, [.ref (ad (z + 1)), .ref (ad (z + 2)), .ref (ad (z + 3)), .ref (ad (z + 4)), .ref (ad (z + 5)), .int (nI rp), .int tm2]) ∧ E2 (z + 3) = eI G 10 og2 ∧ E2 (z + 4) = eI G 10 en2 ∧ E2 (z + 5) = eI G 10 (waitF l9 w9 rho rp n) ∧ (∀ j, j ≠ z → j ≠ (z + 3) → j ≠ (z + 4) → j ≠ (z + 5) → E2 j = E j) ∧ r = wstF l9 w9 rho rp n)) (F0 mm_ 12 ls []) := by
    intro zn
    induction zn with
    | zero => intro k x zhm; exact absurd zhm (Nat.not_lt_zero _)
    | succ zn zih12 =>
      intro k x zhm12 hk hx9 zE_12 zH_12 zL_12 zl12_0 zl12_1 zl12_2 zl12_3 zl12_4 zl12_5 zlf12  zlw12 ls hl
      refine lv_iload hx hb dX4_worstWait_12 (lv_at hl 2 rfl) ?_
      refine lv_aload_n hx hb dX4_worstWait_14 rfl (lv_at hl 0 rfl) ?_
      refine r_get C zlw12 RX4 TX4 7 1 hinX4 (i := z) (by omega) zl12_2 rfl 5 (by decide) (by decide +kernel) rfl (v := .int (nI rp)) rfl dX4_worstWait_15 ?_
      refine n_icmp_ge (tgt := 47) hx hb dX4_worstWait_18 (by decide) (by omega) (by omega) (fun zc18 => ?_) (fun zc18 => ?_)
      · refine lv_iload_n hx hb dX4_worstWait_47 rfl (lv_at hl 1 rfl) ?_
        exact r_iret C zlw12 dX4_worstWait_48 ⟨ztm21, zog21, zen21, zl12_2, zl12_3, zl12_4, zl12_5, (fun j zm0 zm1 zm2 zm3 => zlf12 j zm0 zm1 zm2 zm3), (by rw [hx9, show k = rp by omega]; rfl)⟩
      · refine lv_iload_n hx hb dX4_worstWait_21 rfl (lv_at hl 1 rfl) ?_
        refine lv_aload_n hx hb dX4_worstWait_22 rfl (lv_at hl 0 rfl) ?_
        refine r_get C zlw12 RX4 TX4 7 1 hinX4 (i := z) (by omega) zl12_2 rfl 1 (by decide) (by decide +kernel) rfl (v := .ref (ad (z + 2))) rfl dX4_worstWait_23 ?_
        refine lv_iload hx hb dX4_worstWait_26 (lv_at hl 2 rfl) ?_
        refine r_iaN C zlw12 (i := (z + 2)) (by omega) zl12_1 (j := k) (by omega) (by omega) dX4_worstWait_28 ?_
        refine lv_aload_n hx hb dX4_worstWait_29 rfl (lv_at hl 0 rfl) ?_
        refine r_get C zlw12 RX4 TX4 7 1 hinX4 (i := z) (by omega) zl12_2 rfl 4 (by decide) (by decide +kernel) rfl (v := .ref (ad (z + 5))) rfl dX4_worstWait_30 ?_
        refine lv_iload hx hb dX4_worstWait_33 (lv_at hl 2 rfl) ?_
        refine r_iaN C zlw12 (i := (z + 5)) (by omega) zl12_5 (j := k) (by omega) (by omega) dX4_worstWait_35 ?_
        refine lv_imul hx hb dX4_worstWait_36 ?_
        refine va_mmax hx hb (by rw [C.2.2.2.1]; exact hl.1.symm) hown (hts (.methodLink RX4 76 Lib.Math.max.name) (by decide +kernel)) (hts (.static Lib.Math.max.name) (by decide +kernel)) (hts (.initialized "java/lang/Math") (by decide +kernel)) (hts (.code Lib.Math.max.name Lib.Math.max.code 2 (some .int)) (by decide +kernel)) (Nat.le_of_ble_eq_true rfl) (Nat.le_of_ble_eq_true rfl) (Nat.zero_le _) (Nat.zero_le _) dX4_worstWait_37 ?_
        refine lv_istore_n (lv' := [(3, .int (if x < (wt k) * ((waitF l9 w9 rho rp n) k) then (wt k) * ((waitF l9 w9 rho rp n) k) else x)), (0, .ref (ad z)), (4, .int (nI k))]) hx hb dX4_worstWait_40 rfl hl (by decide) rfl (fun ls hl => ?_)
        refine lv_iinc (v := nI (k + 1)) (lv' := [(4, .int (nI (k + 1))), (3, .int (if x < (wt k) * ((waitF l9 w9 rho rp n) k) then (wt k) * ((waitF l9 w9 rho rp n) k) else x)), (0, .ref (ad z))]) hx hb dX4_worstWait_41 hl (k := 2) rfl (by rw [show Int32.ofInt 1 = nI 1 from rfl, nI_add]) (by decide) rfl (fun ls hl => ?_)
        refine lv_goto (tgt := 12) hx hb dX4_worstWait_44 (by decide) ?_
        exact zih12 (k + 1) (if x < (wt k) * ((waitF l9 w9 rho rp n) k) then (wt k) * ((waitF l9 w9 rho rp n) k) else x) (by omega) (by omega) (by rw [wrst, ← hx9, ← (he2 k zc18).2]) _ _ _ zl12_0 zl12_1 zl12_2 zl12_3 zl12_4 zl12_5 (fun j zm0 zm1 zm2 zm3 => zlf12 j zm0 zm1 zm2 zm3) zlw12 _ (lv_sub hl [2, 1, 0] rfl)
  exact zlp12 _ 0 (nI 0) (Nat.lt_succ_self _) (by omega) (by rfl) _ _ _ zk1_0 zk1_1 zh1_0 zh1_1 zh1_2 zh1_3 (fun j zm0 zm1 zm2 zm3 => zfr1 j zm0 zm1 zm2 zm3) zw1 _ (lv_sub hl [2, 1, 0] rfl)

set_option maxHeartbeats 4000000 in
set_option maxRecDepth 100000 in
theorem c_X4_best_y {l : Launch} {G : vG} {tC : Nat} {ad : Nat → Nat} {N : Nat} {E : Nat → va_E} {z rp : Nat} {tm : Int32} {ln wt og en wa l9 w9 : Nat → Int32} {n : Nat} (hN0 : z + 6 ≤ N) (hE0 : E z = .inr (1, [.ref (ad (z + 1)), .ref (ad (z + 2)), .ref (ad (z + 3)), .ref (ad (z + 4)), .ref (ad (z + 5)), .int (nI rp), .int tm])) (hE1 : E (z + 1) = eI G 10 ln) (hE2 : E (z + 2) = eI G 10 wt) (hE3 : E (z + 3) = eI G 10 og) (hE4 : E (z + 4) = eI G 10 en) (hE5 : E (z + 5) = eI G 10 wa) (he2 : eq2 ln wt l9 w9 rp) (hrp : rp ≤ 10) (hn : n ≤ 60) (h1 : 0 < rp) (hn1 : 1 ≤ n) : MI l yX4_best wsX4_best ({ frames := 5, cells := 0, slots := 0, locals := 115 } : Room) G tC ad N E [.ref (ad z), .int (nI n)] (fun r E2 => ∃ tm2 : Int32, ∃ og2 : Nat → Int32, ∃ en2 : Nat → Int32, ∃ wa2 : Nat → Int32, E2 z = .inr (1, [.ref (ad (z + 1)), .ref (ad (z + 2)), .ref (ad (z + 3)), .ref (ad (z + 4)), .ref (ad (z + 5)), .int (nI rp), .int tm2]) ∧ E2 (z + 3) = eI G 10 og2 ∧ E2 (z + 4) = eI G 10 en2 ∧ E2 (z + 5) = eI G 10 wa2 ∧ (∀ j, j ≠ z → j ≠ (z + 3) → j ≠ (z + 4) → j ≠ (z + 5) → E2 j = E j) ∧ r = nI (bstM (fun r => wstF l9 w9 r rp n) 3 3)) := by
  refine MI_of RX4 rfl (by decide) rfl (Nat.le_of_ble_eq_true rfl) ?_
  intro pp_ ee_ ss_ mm_ aa_ bb_ me_ cc_ A ls C hw hl
  have hx := C.1
  have hb := C.2.1
  have hown := C.2.2.2.2.1
  have hts := C.2.2.2.2.2.1
  have hl : lv_has ls 6 [(0, .ref (ad z)), (1, .int (nI n))] := hl
  have hinX4 : ∀ w ∈ u_ws RX4 TX4 7, w ∈ wsX4_best := by decide +kernel
  refine lv_iconst (v := -1) hx hb dX4_best_0 (by decide) ?_
  refine lv_istore_n (lv' := [(2, .int (-1)), (0, .ref (ad z)), (1, .int (nI n))]) hx hb dX4_best_1 rfl hl (by decide) rfl (fun ls hl => ?_)
  refine lv_iconst (v := nI 0) hx hb dX4_best_2 rfl ?_
  refine lv_istore_n (lv' := [(3, .int (nI 0)), (2, .int (-1)), (0, .ref (ad z)), (1, .int (nI n))]) hx hb dX4_best_3 rfl hl (by decide) rfl (fun ls hl => ?_)
  refine lv_iconst (v := nI 0) hx hb dX4_best_4 rfl ?_
  refine lv_istore (lv' := [(4, .int (nI 0)), (3, .int (nI 0)), (2, .int (-1)), (0, .ref (ad z)), (1, .int (nI n))]) hx hb dX4_best_5 hl (by decide) rfl (fun ls hl => ?_)
  have zlp7 : ∀ (zn : Nat) (rr : Nat) (b le t0 : Int32) (g0 g1 g2 : Nat → Int32), 4 - rr < zn → (rr ≤ 4) → (rr = 0 → b = -1) → (0 < rr → b = nI (oldS (fun r => wstF l9 w9 r rp n) (rr - 1)) ∧ le = wstF l9 w9 (oldS (fun r => wstF l9 w9 r rp n) (rr - 1)) rp n) → ∀ (E9 : Nat → va_E) (H9 : Heap) (L9 : List Loc), E9 z = .inr (1, [.ref (ad (z + 1)), .ref (ad (z + 2)), .ref (ad (z + 3)), .ref (ad (z + 4)), .ref (ad (z + 5)), .int (nI rp), .int t0]) → E9 (z + 1) = eI G 10 ln → E9 (z + 2) = eI G 10 wt → E9 (z + 3) = eI G 10 g0 → E9 (z + 4) = eI G 10 g1 → E9 (z + 5) = eI G 10 g2 → (∀ j, j ≠ z → j ≠ (z + 3) → j ≠ (z + 4) → j ≠ (z + 5) → E9 j = E j) → Wd G A ss_.heap H9 L9 ad E9 N → ∀ (ls : Array Slot), lv_has ls 6 [(0, .ref (ad z)), (1, .int (nI n)), (2, .int b), (3, .int le), (4, .int (nI rr))] → W pp_ l ee_ ({ frames := 5, cells := 0, slots := 0, locals := 115 } : Room) ss_ mm_ aa_ bb_ me_ cc_ H9 L9 0 0 (QI bb_ aa_ ss_ G ad N A (fun r E2 => ∃ tm2 : Int32, ∃ og2 : Nat → Int32, ∃ en2 : Nat → Int32, ∃ wa2 : Nat → Int32, E2 z = .inr (1, [.ref (ad (z + 1)), .ref (ad (z + 2)), .ref (ad (z + 3)), .ref (ad (z + 4)), .ref (ad (z + 5)), .int (nI rp), .int tm2]) ∧ E2 (z + 3) = eI G 10 og2 ∧ E2 (z + 4) = eI G 10 en2 ∧ E2 (z + 5) = eI G 10 wa2 ∧ (∀ j, j ≠ z → j ≠ (z + 3) → j ≠ (z + 4) → j ≠ (z + 5) → E2 j = E j) ∧ r = nI (bstM (fun r => wstF l9 w9 r rp n) 3 3))) (F0 mm_ 7 ls []) := by
    intro zn
    induction zn with
    | zero => intro rr b le t0 g0 g1 g2 zhm; exact absurd zhm (Nat.not_lt_zero _)
    | succ zn zih7 =>
      intro rr b le t0 g0 g1 g2 zhm7 hr4 hb0 hb1 zE_7 zH_7 zL_7 zl7_0 zl7_1 zl7_2 zl7_3 zl7_4 zl7_5 zlf7  zlw7 ls hl
      refine lv_iload hx hb dX4_best_7 (lv_at hl 4 rfl) ?_
      refine lv_iconst (v := nI 4) hx hb dX4_best_9 rfl ?_
      refine n_icmp_ge (tgt := 52) hx hb dX4_best_10 (by decide) (by omega) (by omega) (fun zc10 => ?_) (fun zc10 => ?_)
      · refine lv_iload_n hx hb dX4_best_52 rfl (lv_at hl 2 rfl) ?_
        exact r_iret C zlw7 dX4_best_53 ⟨t0, g0, g1, g2, zl7_0, zl7_3, zl7_4, zl7_5, (fun j zm0 zm1 zm2 zm3 => zlf7 j zm0 zm1 zm2 zm3), (by rw [(hb1 (by omega)).1, show rr = 4 by omega, ← oldS_bst])⟩
      · refine lv_aload_n hx hb dX4_best_13 rfl (lv_at hl 0 rfl) ?_
        refine r_get C zlw7 RX4 TX4 7 1 hinX4 (i := z) (by omega) zl7_0 rfl 5 (by decide) (by decide +kernel) rfl (v := .int (nI rp)) rfl dX4_best_14 ?_
        refine n_if_le (tgt := 52) hx hb dX4_best_17 (by decide) (by omega) (fun zc17 => ?_) (fun zc17 => ?_)
        · exact absurd zc17 (by omega)
        · refine lv_aload_n hx hb dX4_best_20 rfl (lv_at hl 0 rfl) ?_
          refine lv_iload hx hb dX4_best_21 (lv_at hl 4 rfl) ?_
          refine lv_iload_n hx hb dX4_best_23 rfl (lv_at hl 1 rfl) ?_
          refine r_vI C zlw7 hl.1 (i := z) (by omega) zl7_0 (T := TX4) (n := 7) rfl [.int (nI rr), .int (nI n)] 2 rfl (c_X4_worstWait (l := l) (G := G) (tC := tC) (ad := ad) (N := N) (E := zE_7) (z := z) (rp := rp) (tm := t0) (ln := ln) (wt := wt) (og := g0) (en := g1) (wa := g2) (l9 := l9) (w9 := w9) (rho := rr) (n := n) (by omega) zl7_0 zl7_1 zl7_2 zl7_3 zl7_4 zl7_5 (by first | assumption | omega) (by first | assumption | omega) (by first | assumption | omega) (by first | assumption | omega) (by first | assumption | omega) (by first | assumption | omega)) gX4_best_X4_worstWait rfl ⟨rfl, rfl⟩ (by decide +kernel) ⟨Nat.le_of_ble_eq_true rfl, Nat.le_of_ble_eq_true rfl⟩ (rest := []) rfl (Nat.le_of_ble_eq_true rfl) dX4_best_24 ⟨Nat.zero_le _, Nat.zero_le _⟩ (fun zr1 zE1 zH1 zL1 zp1 zw1 => ?_)
          obtain ⟨ztm21, zog21, zen21, zg1_0, zg1_1, zg1_2, zg1_3, zf1, zq1⟩ := zp1
          have zh1_0 : zE1 z = .inr (1, [.ref (ad (z + 1)), .ref (ad (z + 2)), .ref (ad (z + 3)), .ref (ad (z + 4)), .ref (ad (z + 5)), .int (nI rp), .int ztm21]) := zg1_0
          have zh1_1 : zE1 (z + 3) = eI G 10 zog21 := zg1_1
          have zh1_2 : zE1 (z + 4) = eI G 10 zen21 := zg1_2
          have zh1_3 : zE1 (z + 5) = eI G 10 (waitF l9 w9 rr rp n) := zg1_3
          have zk1_0 : zE1 (z + 1) = eI G 10 ln := (zf1 _ (by omega) (by omega) (by omega) (by omega)).trans zl7_1
          have zk1_1 : zE1 (z + 2) = eI G 10 wt := (zf1 _ (by omega) (by omega) (by omega) (by omega)).trans zl7_2
          have zfr1 : ∀ j, j ≠ z → j ≠ (z + 3) → j ≠ (z + 4) → j ≠ (z + 5) → zE1 j = E j := fun j zm0 zm1 zm2 zm3 => (zf1 j zm0 zm1 zm2 zm3).trans (zlf7 j zm0 zm1 zm2 zm3)
          rw [zq1]
          refine lv_istore (lv' := [(5, .int (wstF l9 w9 rr rp n)), (0, .ref (ad z)), (1, .int (nI n)), (2, .int b), (3, .int le), (4, .int (nI rr))]) hx hb dX4_best_27 hl (by decide) rfl (fun ls hl => ?_)
          refine lv_iload_n hx hb dX4_best_29 rfl (lv_at hl 3 rfl) ?_
          refine lv_iconst (v := -1) hx hb dX4_best_30 (by decide) ?_
          refine lv_icmp_eq (tgt := 40) hx hb dX4_best_31 (by decide) (fun zc31 => ?_) (fun zc31 => ?_)
          · refine lv_iload hx hb dX4_best_40 (lv_at hl 5 rfl) ?_
            refine lv_istore_n (lv' := [(2, .int (nI rr)), (5, .int (wstF l9 w9 rr rp n)), (0, .ref (ad z)), (1, .int (nI n)), (3, .int le), (4, .int (nI rr))]) hx hb dX4_best_42 rfl hl (by decide) rfl (fun ls hl => ?_)
            refine lv_iload hx hb dX4_best_43 (lv_at hl 1 rfl) ?_
            refine lv_istore_n (lv' := [(3, .int (wstF l9 w9 rr rp n)), (2, .int (nI rr)), (5, .int (wstF l9 w9 rr rp n)), (0, .ref (ad z)), (1, .int (nI n)), (4, .int (nI rr))]) hx hb dX4_best_45 rfl hl (by decide) rfl (fun ls hl => ?_)
            refine lv_iinc (v := nI (rr + 1)) (lv' := [(4, .int (nI (rr + 1))), (3, .int (wstF l9 w9 rr rp n)), (2, .int (nI rr)), (5, .int (wstF l9 w9 rr rp n)), (0, .ref (ad z)), (1, .int (nI n))]) hx hb dX4_best_46 hl (k := 5) rfl (by rw [show Int32.ofInt 1 = nI 1 from rfl, nI_add]) (by decide) rfl (fun ls hl => ?_)
            refine lv_goto (tgt := 7) hx hb dX4_best_49 (by decide) ?_
            exact zih7 (rr + 1) (nI rr) (wstF l9 w9 rr rp n) ztm21 zog21 zen21 (waitF l9 w9 rr rp n) (by omega) (by omega) (by exact fun zq => absurd zq (by omega)) (by exact fun _ => bst_step hb0 hb1 (by first | exact Or.inl ⟨zc31, rfl, rfl⟩ | exact Or.inr (Or.inl ⟨zc31, zc37, rfl, rfl⟩) | exact Or.inr (Or.inr ⟨zc31, zc37, rfl, rfl⟩))) _ _ _ zh1_0 zk1_0 zk1_1 zh1_1 zh1_2 zh1_3 (fun j zm0 zm1 zm2 zm3 => zfr1 j zm0 zm1 zm2 zm3) zw1 _ (lv_sub hl [4, 5, 2, 1, 0] rfl)
          · refine lv_iload hx hb dX4_best_34 (lv_at hl 0 rfl) ?_
            refine lv_iload_n hx hb dX4_best_36 rfl (lv_at hl 4 rfl) ?_
            refine lv_icmp_ge (tgt := 46) hx hb dX4_best_37 (by decide) (fun zc37 => ?_) (fun zc37 => ?_)
            · refine lv_iinc (v := nI (rr + 1)) (lv' := [(4, .int (nI (rr + 1))), (5, .int (wstF l9 w9 rr rp n)), (0, .ref (ad z)), (1, .int (nI n)), (2, .int b), (3, .int le)]) hx hb dX4_best_46 hl (k := 5) rfl (by rw [show Int32.ofInt 1 = nI 1 from rfl, nI_add]) (by decide) rfl (fun ls hl => ?_)
              refine lv_goto (tgt := 7) hx hb dX4_best_49 (by decide) ?_
              exact zih7 (rr + 1) b le ztm21 zog21 zen21 (waitF l9 w9 rr rp n) (by omega) (by omega) (by exact fun zq => absurd zq (by omega)) (by exact fun _ => bst_step hb0 hb1 (by first | exact Or.inl ⟨zc31, rfl, rfl⟩ | exact Or.inr (Or.inl ⟨zc31, zc37, rfl, rfl⟩) | exact Or.inr (Or.inr ⟨zc31, zc37, rfl, rfl⟩))) _ _ _ zh1_0 zk1_0 zk1_1 zh1_1 zh1_2 zh1_3 (fun j zm0 zm1 zm2 zm3 => zfr1 j zm0 zm1 zm2 zm3) zw1 _ (lv_sub hl [2, 3, 4, 5, 0] rfl)
            · refine lv_iload hx hb dX4_best_40 (lv_at hl 5 rfl) ?_
              refine lv_istore_n (lv' := [(2, .int (nI rr)), (5, .int (wstF l9 w9 rr rp n)), (0, .ref (ad z)), (1, .int (nI n)), (3, .int le), (4, .int (nI rr))]) hx hb dX4_best_42 rfl hl (by decide) rfl (fun ls hl => ?_)
              refine lv_iload hx hb dX4_best_43 (lv_at hl 1 rfl) ?_
              refine lv_istore_n (lv' := [(3, .int (wstF l9 w9 rr rp n)), (2, .int (nI rr)), (5, .int (wstF l9 w9 rr rp n)), (0, .ref (ad z)), (1, .int (nI n)), (4, .int (nI rr))]) hx hb dX4_best_45 rfl hl (by decide) rfl (fun ls hl => ?_)
              refine lv_iinc (v := nI (rr + 1)) (lv' := [(4, .int (nI (rr + 1))), (3, .int (wstF l9 w9 rr rp n)), (2, .int (nI rr)), (5, .int (wstF l9 w9 rr rp n)), (0, .ref (ad z)), (1, .int (nI n))]) hx hb dX4_best_46 hl (k := 5) rfl (by rw [show Int32.ofInt 1 = nI 1 from rfl, nI_add]) (by decide) rfl (fun ls hl => ?_)
              refine lv_goto (tgt := 7) hx hb dX4_best_49 (by decide) ?_
              exact zih7 (rr + 1) (nI rr) (wstF l9 w9 rr rp n) ztm21 zog21 zen21 (waitF l9 w9 rr rp n) (by omega) (by omega) (by exact fun zq => absurd zq (by omega)) (by exact fun _ => bst_step hb0 hb1 (by first | exact Or.inl ⟨zc31, rfl, rfl⟩ | exact Or.inr (Or.inl ⟨zc31, zc37, rfl, rfl⟩) | exact Or.inr (Or.inr ⟨zc31, zc37, rfl, rfl⟩))) _ _ _ zh1_0 zk1_0 zk1_1 zh1_1 zh1_2 zh1_3 (fun j zm0 zm1 zm2 zm3 => zfr1 j zm0 zm1 zm2 zm3) zw1 _ (lv_sub hl [4, 5, 2, 1, 0] rfl)
  exact zlp7 _ 0 (-1) (nI 0) tm og en wa (Nat.lt_succ_self _) (by omega) (by exact fun _ => rfl) (by exact fun zq => absurd zq (by omega)) _ _ _ hE0 hE1 hE2 hE3 hE4 hE5 (fun j _ _ _ _ => rfl) hw _ (lv_sub hl [3, 4, 2, 1, 0] rfl)

set_option maxHeartbeats 4000000 in
set_option maxRecDepth 100000 in
theorem c_X4_best_0 {l : Launch} {G : vG} {tC : Nat} {ad : Nat → Nat} {N : Nat} {E : Nat → va_E} {z rp : Nat} {tm : Int32} {n : Nat} (hN0 : z + 6 ≤ N) (hE0 : E z = .inr (1, [.ref (ad (z + 1)), .ref (ad (z + 2)), .ref (ad (z + 3)), .ref (ad (z + 4)), .ref (ad (z + 5)), .int (nI rp), .int tm])) (h1 : rp = 0) : MI l yX4_best wsX4_best ({ frames := 5, cells := 0, slots := 0, locals := 115 } : Room) G tC ad N E [.ref (ad z), .int (nI n)] (fun r E2 => E2 = E ∧ r = -1) := by
  refine MI_of RX4 rfl (by decide) rfl (Nat.le_of_ble_eq_true rfl) ?_
  intro pp_ ee_ ss_ mm_ aa_ bb_ me_ cc_ A ls C hw hl
  have hx := C.1
  have hb := C.2.1
  have hown := C.2.2.2.2.1
  have hts := C.2.2.2.2.2.1
  have hl : lv_has ls 6 [(0, .ref (ad z)), (1, .int (nI n))] := hl
  have hinX4 : ∀ w ∈ u_ws RX4 TX4 7, w ∈ wsX4_best := by decide +kernel
  refine lv_iconst (v := -1) hx hb dX4_best_0 (by decide) ?_
  refine lv_istore_n (lv' := [(2, .int (-1)), (0, .ref (ad z)), (1, .int (nI n))]) hx hb dX4_best_1 rfl hl (by decide) rfl (fun ls hl => ?_)
  refine lv_iconst (v := nI 0) hx hb dX4_best_2 rfl ?_
  refine lv_istore_n (lv' := [(3, .int (nI 0)), (2, .int (-1)), (0, .ref (ad z)), (1, .int (nI n))]) hx hb dX4_best_3 rfl hl (by decide) rfl (fun ls hl => ?_)
  refine lv_iconst (v := nI 0) hx hb dX4_best_4 rfl ?_
  refine lv_istore (lv' := [(4, .int (nI 0)), (3, .int (nI 0)), (2, .int (-1)), (0, .ref (ad z)), (1, .int (nI n))]) hx hb dX4_best_5 hl (by decide) rfl (fun ls hl => ?_)
  have zlp7 : ∀ (zn : Nat) (rr : Nat), 4 - rr < zn → (rr ≤ 4) → ∀ (H9 : Heap) (L9 : List Loc), Wd G A ss_.heap H9 L9 ad E N → ∀ (ls : Array Slot), lv_has ls 6 [(0, .ref (ad z)), (1, .int (nI n)), (2, .int (-1)), (3, .int (nI 0)), (4, .int (nI rr))] → W pp_ l ee_ ({ frames := 5, cells := 0, slots := 0, locals := 115 } : Room) ss_ mm_ aa_ bb_ me_ cc_ H9 L9 0 0 (QI bb_ aa_ ss_ G ad N A (fun r E2 => E2 = E ∧ r = -1)) (F0 mm_ 7 ls []) := by
    intro zn
    induction zn with
    | zero => intro rr zhm; exact absurd zhm (Nat.not_lt_zero _)
    | succ zn zih7 =>
      intro rr zhm7 hr4 zH_7 zL_7 zlw7 ls hl
      refine lv_iload hx hb dX4_best_7 (lv_at hl 4 rfl) ?_
      refine lv_iconst (v := nI 4) hx hb dX4_best_9 rfl ?_
      refine n_icmp_ge (tgt := 52) hx hb dX4_best_10 (by decide) (by omega) (by omega) (fun zc10 => ?_) (fun zc10 => ?_)
      · refine lv_iload_n hx hb dX4_best_52 rfl (lv_at hl 2 rfl) ?_
        exact r_iret C zlw7 dX4_best_53 ⟨rfl, (by rfl)⟩
      · refine lv_aload_n hx hb dX4_best_13 rfl (lv_at hl 0 rfl) ?_
        refine r_get C zlw7 RX4 TX4 7 1 hinX4 (i := z) (by omega) hE0 rfl 5 (by decide) (by decide +kernel) rfl (v := .int (nI rp)) rfl dX4_best_14 ?_
        refine n_if_le (tgt := 52) hx hb dX4_best_17 (by decide) (by omega) (fun zc17 => ?_) (fun zc17 => ?_)
        · refine lv_iload_n hx hb dX4_best_52 rfl (lv_at hl 2 rfl) ?_
          exact r_iret C zlw7 dX4_best_53 ⟨rfl, (by rfl)⟩
        · exact absurd zc17 (by omega)
  exact zlp7 _ 0 (Nat.lt_succ_self _) (by omega) _ _ hw _ (lv_sub hl [3, 4, 2, 1, 0] rfl)

set_option maxHeartbeats 4000000 in
set_option maxRecDepth 100000 in
theorem c_X4_prepare {l : Launch} {G : vG} {tC : Nat} {ad : Nat → Nat} {N : Nat} {E : Nat → va_E} {i pg cm hd : Nat} {lst md sd : Int32} {cs : Nat → Int32} {s : Nat → Int32} {z rp : Nat} {tm : Int32} {ln wt og en wa l9 w9 : Nat → Int32} (hN0 : i + 3 ≤ N) (hN1 : z + 6 ≤ N) (hE0 : E i = .inr (2, [.ref (ad (i + 1)), .ref (ad (i + 2)), .int (nI pg), .int (nI cm), .int lst, .int md, .int sd, .int (nI hd)])) (hE1 : E (i + 1) = eI G 500 cs) (hE2 : E z = .inr (1, [.ref (ad (z + 1)), .ref (ad (z + 2)), .ref (ad (z + 3)), .ref (ad (z + 4)), .ref (ad (z + 5)), .int (nI rp), .int tm])) (hE3 : E (z + 1) = eI G 10 ln) (hE4 : E (z + 2) = eI G 10 wt) (hag : agr cs s pg) (hp : pg ≤ 10) (hd9 : i + 3 ≤ z ∨ z + 6 ≤ i) : MV l yX4_prepare wsX4_prepare ({ frames := 5, cells := 0, slots := 0, locals := 114 } : Room) G tC ad N E [.ref (ad z), .ref (ad i)] (fun E2 => ∃ ln2 : Nat → Int32, ∃ wt2 : Nat → Int32, E2 z = .inr (1, [.ref (ad (z + 1)), .ref (ad (z + 2)), .ref (ad (z + 3)), .ref (ad (z + 4)), .ref (ad (z + 5)), .int (nI pg), .int tm]) ∧ E2 (z + 1) = eI G 10 ln2 ∧ E2 (z + 2) = eI G 10 wt2 ∧ (∀ j, j ≠ z → j ≠ (z + 1) → j ≠ (z + 2) → E2 j = E j) ∧ eq2 ln2 wt2 (lenF s) (wtF s) pg) := by
  refine MV_of RX4 rfl (by decide) rfl (Nat.le_of_ble_eq_true rfl) ?_
  intro pp_ ee_ ss_ mm_ aa_ bb_ me_ cc_ A ls C hw hl
  have hx := C.1
  have hb := C.2.1
  have hown := C.2.2.2.2.1
  have hts := C.2.2.2.2.2.1
  have hl : lv_has ls 3 [(0, .ref (ad z)), (1, .ref (ad i))] := hl
  have hinX4 : ∀ w ∈ u_ws RX4 TX4 7, w ∈ wsX4_prepare := by decide +kernel
  have hinX5 : ∀ w ∈ u_ws RX5 TX5 8, w ∈ wsX4_prepare := by decide +kernel
  refine lv_aload_n hx hb dX4_prepare_0 rfl (lv_at hl 0 rfl) ?_
  refine lv_aload_n hx hb dX4_prepare_1 rfl (lv_at hl 1 rfl) ?_
  refine r_get C hw RX5 TX5 8 2 hinX5 (i := i) (by omega) hE0 rfl 2 (by decide) (by decide +kernel) rfl (v := .int (nI pg)) rfl dX4_prepare_2 ?_
  refine lv_bipush (v := nI 10) hx hb dX4_prepare_5 rfl ?_
  refine va_mmin hx hb (by rw [C.2.2.2.1]; exact hl.1.symm) hown (hts (.methodLink RX4 33 Lib.Math.min.name) (by decide +kernel)) (hts (.static Lib.Math.min.name) (by decide +kernel)) (hts (.initialized "java/lang/Math") (by decide +kernel)) (hts (.code Lib.Math.min.name Lib.Math.min.code 2 (some .int)) (by decide +kernel)) (Nat.le_of_ble_eq_true rfl) (Nat.le_of_ble_eq_true rfl) (Nat.zero_le _) (Nat.zero_le _) dX4_prepare_7 ?_
  refine r_nat pg (if_neg (fun zq => by have z1 := (nI_ltI (by omega) (by omega)).mp zq; omega)) ?_
  refine r_put C hw RX4 TX4 7 1 hinX4 tyX4 tyX4_ok nmX4 (i := z) (by omega) hE2 rfl 5 (by decide) (by decide +kernel) rfl rfl (v := .int (nI pg)) rfl rfl (Nat.le_of_ble_eq_true rfl) dX4_prepare_10 (fun zE1 zH1 zL1 zg1 zf1 zw1 => ?_)
  have zh1_0 : zE1 z = .inr (1, [.ref (ad (z + 1)), .ref (ad (z + 2)), .ref (ad (z + 3)), .ref (ad (z + 4)), .ref (ad (z + 5)), .int (nI pg), .int tm]) := zg1
  have zk1_0 : zE1 i = .inr (2, [.ref (ad (i + 1)), .ref (ad (i + 2)), .int (nI pg), .int (nI cm), .int lst, .int md, .int sd, .int (nI hd)]) := (zf1 _ (by omega)).trans hE0
  have zk1_1 : zE1 (i + 1) = eI G 500 cs := (zf1 _ (by omega)).trans hE1
  have zk1_2 : zE1 (z + 1) = eI G 10 ln := (zf1 _ (by omega)).trans hE3
  have zk1_3 : zE1 (z + 2) = eI G 10 wt := (zf1 _ (by omega)).trans hE4
  have zfr1 : ∀ j, j ≠ z → zE1 j = E j := fun j zm0 => zf1 j zm0
  refine lv_iconst (v := nI 0) hx hb dX4_prepare_13 rfl ?_
  refine lv_istore_n (lv' := [(2, .int (nI 0)), (0, .ref (ad z)), (1, .ref (ad i))]) hx hb dX4_prepare_14 rfl hl (by decide) rfl (fun ls hl => ?_)
  have zlp15 : ∀ (zn : Nat) (k : Nat) (f1 f2 : Nat → Int32), pg - k < zn → (k ≤ pg) → (eq2 f1 f2 (lenF s) (wtF s) k) → ∀ (E9 : Nat → va_E) (H9 : Heap) (L9 : List Loc), E9 i = .inr (2, [.ref (ad (i + 1)), .ref (ad (i + 2)), .int (nI pg), .int (nI cm), .int lst, .int md, .int sd, .int (nI hd)]) → E9 (i + 1) = eI G 500 cs → E9 (z + 1) = eI G 10 f1 → E9 (z + 2) = eI G 10 f2 → E9 z = .inr (1, [.ref (ad (z + 1)), .ref (ad (z + 2)), .ref (ad (z + 3)), .ref (ad (z + 4)), .ref (ad (z + 5)), .int (nI pg), .int tm]) → (∀ j, j ≠ z → j ≠ (z + 1) → j ≠ (z + 2) → E9 j = E j) → Wd G A ss_.heap H9 L9 ad E9 N → ∀ (ls : Array Slot), lv_has ls 3 [(0, .ref (ad z)), (1, .ref (ad i)), (2, .int (nI k))] → W pp_ l ee_ ({ frames := 5, cells := 0, slots := 0, locals := 114 } : Room) ss_ mm_ aa_ bb_ me_ cc_ H9 L9 0 0 (QV bb_ aa_ ss_ G ad N A (fun E2 => ∃ ln2 : Nat → Int32, ∃ wt2 : Nat → Int32, E2 z = .inr (1, [.ref (ad (z + 1)), .ref (ad (z + 2)), .ref (ad (z + 3)), .ref (ad (z + 4)), .ref (ad (z + 5)), .int (nI pg), .int tm]) ∧ E2 (z + 1) = eI G 10 ln2 ∧ E2 (z + 2) = eI G 10 wt2 ∧ (∀ j, j ≠ z → j ≠ (z + 1) → j ≠ (z + 2) → E2 j = E j) ∧ eq2 ln2 wt2 (lenF s) (wtF s) pg)) (F0 mm_ 15 ls []) := by
    intro zn
    induction zn with
    | zero => intro k f1 f2 zhm; exact absurd zhm (Nat.not_lt_zero _)
    | succ zn zih15 =>
      intro k f1 f2 zhm15 hk hf zE_15 zH_15 zL_15 zl15_0 zl15_1 zl15_2 zl15_3 zl15_4 zlf15  zlw15 ls hl
      refine lv_iload_n hx hb dX4_prepare_15 rfl (lv_at hl 2 rfl) ?_
      refine lv_aload_n hx hb dX4_prepare_16 rfl (lv_at hl 0 rfl) ?_
      refine r_get C zlw15 RX4 TX4 7 1 hinX4 (i := z) (by omega) zl15_4 rfl 5 (by decide) (by decide +kernel) rfl (v := .int (nI pg)) rfl dX4_prepare_17 ?_
      refine n_icmp_ge (tgt := 52) hx hb dX4_prepare_20 (by decide) (by omega) (by omega) (fun zc20 => ?_) (fun zc20 => ?_)
      · exact r_vret C zlw15 dX4_prepare_52 ⟨f1, f2, zl15_4, zl15_2, zl15_3, (fun j zm0 zm1 zm2 => zlf15 j zm0 zm1 zm2), (by rw [show pg = k by omega]; exact hf)⟩
      · refine lv_aload_n hx hb dX4_prepare_23 rfl (lv_at hl 0 rfl) ?_
        refine r_get C zlw15 RX4 TX4 7 1 hinX4 (i := z) (by omega) zl15_4 rfl 0 (by decide) (by decide +kernel) rfl (v := .ref (ad (z + 1))) rfl dX4_prepare_24 ?_
        refine lv_iload_n hx hb dX4_prepare_27 rfl (lv_at hl 2 rfl) ?_
        refine lv_aload_n hx hb dX4_prepare_28 rfl (lv_at hl 1 rfl) ?_
        refine lv_iload_n hx hb dX4_prepare_29 rfl (lv_at hl 2 rfl) ?_
        refine r_sI C zlw15 hl.1 [.ref (ad i), .int (nI k)] 2 rfl (c_X0_length (l := l) (G := G) (tC := tC) (ad := ad) (N := N) (E := zE_15) (i := i) (pg := pg) (cm := cm) (hd := hd) (lst := lst) (md := md) (sd := sd) (cs := cs) (s := s) (k := k) (by omega) zl15_0 zl15_1 (by first | assumption | omega) (by first | assumption | omega) (by first | assumption | omega)) gX4_prepare_X0_length rfl ⟨rfl, rfl⟩ (by decide +kernel) ⟨Nat.le_of_ble_eq_true rfl, Nat.le_of_ble_eq_true rfl⟩ (rest := [.int (nI k), .ref (ad (z + 1))]) rfl (Nat.le_of_ble_eq_true rfl) dX4_prepare_30 ⟨Nat.zero_le _, Nat.zero_le _⟩ (fun zr2 zE2 zH2 zL2 zp2 zw2 => ?_)
        obtain ⟨ze2, zq2⟩ := zp2
        rw [ze2] at zw2
        clear ze2
        rw [zq2]
        refine r_iasN C zw2 (i := (z + 1)) (by omega) zl15_2 (j := k) (by omega) (by omega) dX4_prepare_33 (fun zE3 zH3 zL3 zg3 zf3 zw3 => ?_)
        have zh3_0 : zE3 (z + 1) = eI G 10 (upd f1 k (nI (lenN (lkL s k) (ltF s k)))) := zg3
        have zk3_0 : zE3 i = .inr (2, [.ref (ad (i + 1)), .ref (ad (i + 2)), .int (nI pg), .int (nI cm), .int lst, .int md, .int sd, .int (nI hd)]) := (zf3 _ (by omega)).trans zl15_0
        have zk3_1 : zE3 (i + 1) = eI G 500 cs := (zf3 _ (by omega)).trans zl15_1
        have zk3_2 : zE3 (z + 2) = eI G 10 f2 := (zf3 _ (by omega)).trans zl15_3
        have zk3_3 : zE3 z = .inr (1, [.ref (ad (z + 1)), .ref (ad (z + 2)), .ref (ad (z + 3)), .ref (ad (z + 4)), .ref (ad (z + 5)), .int (nI pg), .int tm]) := (zf3 _ (by omega)).trans zl15_4
        have zfr3 : ∀ j, j ≠ z → j ≠ (z + 1) → j ≠ (z + 2) → zE3 j = E j := fun j zm0 zm1 zm2 => (zf3 j zm1).trans (zlf15 j zm0 zm1 zm2)
        refine lv_aload_n hx hb dX4_prepare_34 rfl (lv_at hl 0 rfl) ?_
        refine r_get C zw3 RX4 TX4 7 1 hinX4 (i := z) (by omega) zk3_3 rfl 1 (by decide) (by decide +kernel) rfl (v := .ref (ad (z + 2))) rfl dX4_prepare_35 ?_
        refine lv_iload_n hx hb dX4_prepare_38 rfl (lv_at hl 2 rfl) ?_
        refine lv_aload_n hx hb dX4_prepare_39 rfl (lv_at hl 1 rfl) ?_
        refine lv_iload_n hx hb dX4_prepare_40 rfl (lv_at hl 2 rfl) ?_
        refine lv_iconst (v := nI 4) hx hb dX4_prepare_41 rfl ?_
        refine r_vI C zw3 hl.1 (i := i) (by omega) zk3_0 (T := TX5) (n := 8) rfl [.int (nI k), .int (nI 4)] 2 rfl (c_X5_get_s (l := l) (G := G) (tC := tC) (ad := ad) (N := N) (E := zE3) (i := i) (pg := pg) (cm := cm) (hd := hd) (lst := lst) (md := md) (sd := sd) (cs := cs) (s := s) (k := k) (cl := 4) (by omega) zk3_0 zk3_1 (by first | assumption | omega) (by first | assumption | omega) (by first | assumption | omega) (by first | assumption | omega) (by first | assumption | omega)) gX4_prepare_X5_get rfl ⟨rfl, rfl⟩ (by decide +kernel) ⟨Nat.le_of_ble_eq_true rfl, Nat.le_of_ble_eq_true rfl⟩ (rest := [.int (nI k), .ref (ad (z + 2))]) rfl (Nat.le_of_ble_eq_true rfl) dX4_prepare_42 ⟨Nat.zero_le _, Nat.zero_le _⟩ (fun zr4 zE4 zH4 zL4 zp4 zw4 => ?_)
        obtain ⟨ze4, zq4⟩ := zp4
        rw [ze4] at zw4
        clear ze4
        rw [zq4]
        refine r_iasN C zw4 (i := (z + 2)) (by omega) zk3_2 (j := k) (by omega) (by omega) dX4_prepare_45 (fun zE5 zH5 zL5 zg5 zf5 zw5 => ?_)
        have zh5_0 : zE5 (z + 2) = eI G 10 (upd f2 k (s (8 + 50 * k + 4))) := zg5
        have zk5_0 : zE5 i = .inr (2, [.ref (ad (i + 1)), .ref (ad (i + 2)), .int (nI pg), .int (nI cm), .int lst, .int md, .int sd, .int (nI hd)]) := (zf5 _ (by omega)).trans zk3_0
        have zk5_1 : zE5 (i + 1) = eI G 500 cs := (zf5 _ (by omega)).trans zk3_1
        have zk5_2 : zE5 z = .inr (1, [.ref (ad (z + 1)), .ref (ad (z + 2)), .ref (ad (z + 3)), .ref (ad (z + 4)), .ref (ad (z + 5)), .int (nI pg), .int tm]) := (zf5 _ (by omega)).trans zk3_3
        have zk5_3 : zE5 (z + 1) = eI G 10 (upd f1 k (nI (lenN (lkL s k) (ltF s k)))) := (zf5 _ (by omega)).trans zh3_0
        have zfr5 : ∀ j, j ≠ z → j ≠ (z + 1) → j ≠ (z + 2) → zE5 j = E j := fun j zm0 zm1 zm2 => (zf5 j zm2).trans (zfr3 j zm0 zm1 zm2)
        refine lv_iinc (v := nI (k + 1)) (lv' := [(2, .int (nI (k + 1))), (0, .ref (ad z)), (1, .ref (ad i))]) hx hb dX4_prepare_46 hl (k := 2) rfl (by rw [show Int32.ofInt 1 = nI 1 from rfl, nI_add]) (by decide) rfl (fun ls hl => ?_)
        refine lv_goto (tgt := 15) hx hb dX4_prepare_49 (by decide) ?_
        exact zih15 (k + 1) (upd f1 k (nI (lenN (lkL s k) (ltF s k)))) (upd f2 k (s (8 + 50 * k + 4))) (by omega) (by omega) (by exact eq2_s hf) _ _ _ zk5_0 zk5_1 zk5_3 zh5_0 zk5_2 (fun j zm0 zm1 zm2 => zfr5 j zm0 zm1 zm2) zw5 _ (lv_sub hl [1, 2, 0] rfl)
  exact zlp15 _ 0 ln wt (Nat.lt_succ_self _) (by omega) (by intro x hx; exact absurd hx (Nat.not_lt_zero x)) _ _ _ zk1_0 zk1_1 zk1_2 zk1_3 zh1_0 (fun j zm0 zm1 zm2 => zfr1 j zm0) zw1 _ (lv_sub hl [1, 2, 0] rfl)

set_option maxHeartbeats 4000000 in
set_option maxRecDepth 100000 in
theorem c_X2_isRight {l : Launch} {G : vG} {tC : Nat} {ad : Nat → Nat} {N : Nat} {E : Nat → va_E} {i pg cm hd : Nat} {lst md sd : Int32} {cs : Nat → Int32} {s : Nat → Int32} {b em : Nat} {bp br bi bl : Nat → Int32} {ek er ei el : Nat → Nat} {e : Nat} (hN0 : i + 3 ≤ N) (hN1 : b + 5 ≤ N) (hE0 : E i = .inr (2, [.ref (ad (i + 1)), .ref (ad (i + 2)), .int (nI pg), .int (nI cm), .int lst, .int md, .int sd, .int (nI hd)])) (hE1 : E (i + 1) = eI G 500 cs) (hE2 : E b = .inr (0, [.ref (ad (b + 1)), .ref (ad (b + 2)), .ref (ad (b + 3)), .ref (ad (b + 4)), .int (nI em)])) (hE3 : E (b + 1) = eI G 20 bp) (hE4 : E (b + 2) = eI G 20 br) (hE5 : E (b + 3) = eI G 20 bi) (hE6 : E (b + 4) = eI G 20 bl) (hag : agr cs s pg) (hp : pg ≤ 10) (hbk : bkOk bp br bi bl em ek er ei el) (hem : em ≤ 20) (he : e < em) : MI l yX2_isRight wsX2_isRight ({ frames := 2, cells := 0, slots := 0, locals := 46 } : Room) G tC ad N E [.ref (ad b), .ref (ad i), .int (nI e)] (fun r E2 => E2 = E ∧ r = if ¬ badB s pg ek er ei el e = true then 1 else 0) := by
  refine MI_of RX2 rfl (by decide) rfl (Nat.le_of_ble_eq_true rfl) ?_
  intro pp_ ee_ ss_ mm_ aa_ bb_ me_ cc_ A ls C hw hl
  have hx := C.1
  have hb := C.2.1
  have hown := C.2.2.2.2.1
  have hts := C.2.2.2.2.2.1
  have hl : lv_has ls 4 [(0, .ref (ad b)), (1, .ref (ad i)), (2, .int (nI e))] := hl
  have hinX2 : ∀ w ∈ u_ws RX2 TX2 5, w ∈ wsX2_isRight := by decide +kernel
  refine lv_aload_n hx hb dX2_isRight_0 rfl (lv_at hl 1 rfl) ?_
  refine lv_aload_n hx hb dX2_isRight_1 rfl (lv_at hl 0 rfl) ?_
  refine r_get C hw RX2 TX2 5 0 hinX2 (i := b) (by omega) hE2 rfl 0 (by decide) (by decide +kernel) rfl (v := .ref (ad (b + 1))) rfl dX2_isRight_2 ?_
  refine lv_iload_n hx hb dX2_isRight_5 rfl (lv_at hl 2 rfl) ?_
  obtain ⟨⟨z1, z2⟩, ⟨z3, z4⟩, ⟨z5, z6⟩, z7⟩ := hbk e he
  refine r_iaN C hw (i := (b + 1)) (by omega) hE3 (j := e) (by omega) (by omega) dX2_isRight_6 ?_
  refine r_nat (ek e) z1 ?_
  refine r_vI C hw hl.1 (i := i) (by omega) hE0 (T := TX5) (n := 8) rfl [.int (nI (ek e))] 1 rfl (c_X5_has (l := l) (G := G) (tC := tC) (ad := ad) (N := N) (E := E) (i := i) (pg := pg) (cm := cm) (hd := hd) (lst := lst) (md := md) (sd := sd) (k := nI (ek e)) (by omega) hE0 (by first | assumption | omega)) gX2_isRight_X5_has rfl ⟨rfl, rfl⟩ (by decide +kernel) ⟨Nat.le_of_ble_eq_true rfl, Nat.le_of_ble_eq_true rfl⟩ (rest := []) rfl (Nat.le_of_ble_eq_true rfl) dX2_isRight_7 ⟨Nat.zero_le _, Nat.zero_le _⟩ (fun zr1 zE1 zH1 zL1 zp1 zw1 => ?_)
  obtain ⟨ze1, zq1⟩ := zp1
  rw [ze1] at zw1
  clear ze1
  rw [zq1]
  refine b_if_ne (tgt := 15) hx hb dX2_isRight_10 (by decide) (fun zc10 => ?_) (fun zc10 => ?_)
  · refine lv_aload_n hx hb dX2_isRight_15 rfl (lv_at hl 1 rfl) ?_
    refine lv_aload_n hx hb dX2_isRight_16 rfl (lv_at hl 0 rfl) ?_
    refine r_get C zw1 RX2 TX2 5 0 hinX2 (i := b) (by omega) hE2 rfl 0 (by decide) (by decide +kernel) rfl (v := .ref (ad (b + 1))) rfl dX2_isRight_17 ?_
    refine lv_iload_n hx hb dX2_isRight_20 rfl (lv_at hl 2 rfl) ?_
    have ze9 : ek e < pg := by have zh := zc10; unfold hasP at zh; rw [nI_toInt (by omega)] at zh; omega
    refine r_iaN C zw1 (i := (b + 1)) (by omega) hE3 (j := e) (by omega) (by omega) dX2_isRight_21 ?_
    refine r_nat (ek e) z1 ?_
    refine lv_aload_n hx hb dX2_isRight_22 rfl (lv_at hl 0 rfl) ?_
    refine r_get C zw1 RX2 TX2 5 0 hinX2 (i := b) (by omega) hE2 rfl 1 (by decide) (by decide +kernel) rfl (v := .ref (ad (b + 2))) rfl dX2_isRight_23 ?_
    refine lv_iload_n hx hb dX2_isRight_26 rfl (lv_at hl 2 rfl) ?_
    refine r_iaN C zw1 (i := (b + 2)) (by omega) hE4 (j := e) (by omega) (by omega) dX2_isRight_27 ?_
    refine r_nat (er e) z3 ?_
    refine lv_aload_n hx hb dX2_isRight_28 rfl (lv_at hl 0 rfl) ?_
    refine r_get C zw1 RX2 TX2 5 0 hinX2 (i := b) (by omega) hE2 rfl 2 (by decide) (by decide +kernel) rfl (v := .ref (ad (b + 3))) rfl dX2_isRight_29 ?_
    refine lv_iload_n hx hb dX2_isRight_32 rfl (lv_at hl 2 rfl) ?_
    refine r_iaN C zw1 (i := (b + 3)) (by omega) hE5 (j := e) (by omega) (by omega) dX2_isRight_33 ?_
    refine r_nat (ei e) z5 ?_
    refine r_vI C zw1 hl.1 (i := i) (by omega) hE0 (T := TX5) (n := 8) rfl [.int (nI (ek e)), .int (nI (er e)), .int (nI (ei e))] 3 rfl (c_X5_letterAt_s (l := l) (G := G) (tC := tC) (ad := ad) (N := N) (E := E) (i := i) (pg := pg) (cm := cm) (hd := hd) (lst := lst) (md := md) (sd := sd) (cs := cs) (s := s) (k := ek e) (row := er e) (j := ei e) (by omega) hE0 hE1 (by first | assumption | omega) (by first | assumption | omega) (by first | assumption | omega) (by first | assumption | omega) (by first | assumption | omega)) gX2_isRight_X5_letterAt rfl ⟨rfl, rfl⟩ (by decide +kernel) ⟨Nat.le_of_ble_eq_true rfl, Nat.le_of_ble_eq_true rfl⟩ (rest := []) rfl (Nat.le_of_ble_eq_true rfl) dX2_isRight_34 ⟨Nat.zero_le _, Nat.zero_le _⟩ (fun zr2 zE2 zH2 zL2 zp2 zw2 => ?_)
    obtain ⟨ze2, zq2⟩ := zp2
    rw [ze2] at zw2
    clear ze2
    rw [zq2]
    refine r_as (s (8 + 50 * ek e + (10 + 8 * er e + ei e))) (by show s _ = s _; congr 1; omega) ?_
    refine lv_istore_n (lv' := [(3, .int (s (8 + 50 * ek e + (10 + 8 * er e + ei e)))), (0, .ref (ad b)), (1, .ref (ad i)), (2, .int (nI e))]) hx hb dX2_isRight_37 rfl hl (by decide) rfl (fun ls hl => ?_)
    refine lv_iload_n hx hb dX2_isRight_38 rfl (lv_at hl 0 rfl) ?_
    refine lv_iconst (v := -1) hx hb dX2_isRight_39 (by decide) ?_
    refine lv_icmp_eq (tgt := 60) hx hb dX2_isRight_40 (by decide) (fun zc40 => ?_) (fun zc40 => ?_)
    · refine lv_iconst (v := nI 0) hx hb dX2_isRight_60 rfl ?_
      exact r_zret C zw2 dX2_isRight_61 (Or.inl rfl) ⟨rfl, (by rw [if_neg (fun zq => zq (by rw [badB, decide_eq_true_eq, bkL, if_pos ze9]; exact Or.inl zc40))]; rfl)⟩
    · refine lv_iload_n hx hb dX2_isRight_43 rfl (lv_at hl 0 rfl) ?_
      refine lv_bipush (v := nI 127) hx hb dX2_isRight_44 rfl ?_
      refine lv_iand hx hb dX2_isRight_46 ?_
      refine lv_aload_n hx hb dX2_isRight_47 rfl (lv_at hl 1 rfl) ?_
      refine r_get C zw2 RX2 TX2 5 0 hinX2 (i := b) (by omega) hE2 rfl 3 (by decide) (by decide +kernel) rfl (v := .ref (ad (b + 4))) rfl dX2_isRight_48 ?_
      refine lv_iload_n hx hb dX2_isRight_51 rfl (lv_at hl 3 rfl) ?_
      refine r_iaN C zw2 (i := (b + 4)) (by omega) hE6 (j := e) (by omega) (by omega) dX2_isRight_52 ?_
      refine r_as (nI (el e)) z7 ?_
      refine lv_icmp_ne (tgt := 60) hx hb dX2_isRight_53 (by decide) (fun zc53 => ?_) (fun zc53 => ?_)
      · refine lv_iconst (v := nI 0) hx hb dX2_isRight_60 rfl ?_
        exact r_zret C zw2 dX2_isRight_61 (Or.inl rfl) ⟨rfl, (by rw [if_neg (fun zq => zq (by rw [badB, decide_eq_true_eq, bkL, if_pos ze9]; exact Or.inr zc53))]; rfl)⟩
      · refine lv_iconst (v := nI 1) hx hb dX2_isRight_56 rfl ?_
        refine lv_goto (tgt := 61) hx hb dX2_isRight_57 (by decide) ?_
        exact r_zret C zw2 dX2_isRight_61 (Or.inr rfl) ⟨rfl, (by rw [if_pos (fun zq => by rw [badB, decide_eq_true_eq, bkL, if_pos ze9] at zq; exact zq.elim zc40 (fun z => z zc53))]; rfl)⟩
  · refine lv_iconst (v := nI 0) hx hb dX2_isRight_13 rfl ?_
    exact r_zret C zw1 dX2_isRight_14 (Or.inl rfl) ⟨rfl, (by rw [if_neg (fun zq => zq (by rw [badB, decide_eq_true_eq, bkL, if_neg (fun z => zc10 (has_nI z (by omega)))]; exact Or.inl rfl))]; rfl)⟩

set_option maxHeartbeats 4000000 in
set_option maxRecDepth 100000 in
theorem c_X2_firstWrong {l : Launch} {G : vG} {tC : Nat} {ad : Nat → Nat} {N : Nat} {E : Nat → va_E} {i pg cm hd : Nat} {lst md sd : Int32} {cs : Nat → Int32} {s : Nat → Int32} {b em : Nat} {bp br bi bl : Nat → Int32} {ek er ei el : Nat → Nat} (hN0 : i + 3 ≤ N) (hN1 : b + 5 ≤ N) (hE0 : E i = .inr (2, [.ref (ad (i + 1)), .ref (ad (i + 2)), .int (nI pg), .int (nI cm), .int lst, .int md, .int sd, .int (nI hd)])) (hE1 : E (i + 1) = eI G 500 cs) (hE2 : E b = .inr (0, [.ref (ad (b + 1)), .ref (ad (b + 2)), .ref (ad (b + 3)), .ref (ad (b + 4)), .int (nI em)])) (hE3 : E (b + 1) = eI G 20 bp) (hE4 : E (b + 2) = eI G 20 br) (hE5 : E (b + 3) = eI G 20 bi) (hE6 : E (b + 4) = eI G 20 bl) (hag : agr cs s pg) (hp : pg ≤ 10) (hbk : bkOk bp br bi bl em ek er ei el) (hem : em ≤ 20) : MI l yX2_firstWrong wsX2_firstWrong ({ frames := 3, cells := 0, slots := 0, locals := 69 } : Room) G tC ad N E [.ref (ad b), .ref (ad i)] (fun r E2 => E2 = E ∧ r = wrgI s pg em ek er ei el) := by
  refine MI_of RX2 rfl (by decide) rfl (Nat.le_of_ble_eq_true rfl) ?_
  intro pp_ ee_ ss_ mm_ aa_ bb_ me_ cc_ A ls C hw hl
  have hx := C.1
  have hb := C.2.1
  have hown := C.2.2.2.2.1
  have hts := C.2.2.2.2.2.1
  have hl : lv_has ls 3 [(0, .ref (ad b)), (1, .ref (ad i))] := hl
  have hinX2 : ∀ w ∈ u_ws RX2 TX2 5, w ∈ wsX2_firstWrong := by decide +kernel
  refine lv_iconst (v := nI 0) hx hb dX2_firstWrong_0 rfl ?_
  refine lv_istore_n (lv' := [(2, .int (nI 0)), (0, .ref (ad b)), (1, .ref (ad i))]) hx hb dX2_firstWrong_1 rfl hl (by decide) rfl (fun ls hl => ?_)
  have zlp2 : ∀ (zn : Nat) (e : Nat), em - e < zn → (e ≤ em) → (fstB (badB s pg ek er ei el) (em - e) e = fstB (badB s pg ek er ei el) em 0) → ∀ (H9 : Heap) (L9 : List Loc), Wd G A ss_.heap H9 L9 ad E N → ∀ (ls : Array Slot), lv_has ls 3 [(0, .ref (ad b)), (1, .ref (ad i)), (2, .int (nI e))] → W pp_ l ee_ ({ frames := 3, cells := 0, slots := 0, locals := 69 } : Room) ss_ mm_ aa_ bb_ me_ cc_ H9 L9 0 0 (QI bb_ aa_ ss_ G ad N A (fun r E2 => E2 = E ∧ r = wrgI s pg em ek er ei el)) (F0 mm_ 2 ls []) := by
    intro zn
    induction zn with
    | zero => intro e zhm; exact absurd zhm (Nat.not_lt_zero _)
    | succ zn zih2 =>
      intro e zhm2 he hf zH_2 zL_2 zlw2 ls hl
      refine lv_iload_n hx hb dX2_firstWrong_2 rfl (lv_at hl 2 rfl) ?_
      refine lv_aload_n hx hb dX2_firstWrong_3 rfl (lv_at hl 0 rfl) ?_
      refine r_get C zlw2 RX2 TX2 5 0 hinX2 (i := b) (by omega) hE2 rfl 4 (by decide) (by decide +kernel) rfl (v := .int (nI em)) rfl dX2_firstWrong_4 ?_
      refine n_icmp_ge (tgt := 27) hx hb dX2_firstWrong_7 (by decide) (by omega) (by omega) (fun zc7 => ?_) (fun zc7 => ?_)
      · refine lv_iconst (v := -1) hx hb dX2_firstWrong_27 (by decide) ?_
        exact r_iret C zlw2 dX2_firstWrong_28 ⟨rfl, (by rw [wrgI, ← hf, show em - e = 0 by omega, fstB, fdI, if_neg (by omega)])⟩
      · refine lv_aload_n hx hb dX2_firstWrong_10 rfl (lv_at hl 0 rfl) ?_
        refine lv_aload_n hx hb dX2_firstWrong_11 rfl (lv_at hl 1 rfl) ?_
        refine lv_iload_n hx hb dX2_firstWrong_12 rfl (lv_at hl 2 rfl) ?_
        refine r_vI C zlw2 hl.1 (i := b) (by omega) hE2 (T := TX2) (n := 5) rfl [.ref (ad i), .int (nI e)] 2 rfl (c_X2_isRight (l := l) (G := G) (tC := tC) (ad := ad) (N := N) (E := E) (i := i) (pg := pg) (cm := cm) (hd := hd) (lst := lst) (md := md) (sd := sd) (cs := cs) (s := s) (b := b) (em := em) (bp := bp) (br := br) (bi := bi) (bl := bl) (ek := ek) (er := er) (ei := ei) (el := el) (e := e) (by omega) (by omega) hE0 hE1 hE2 hE3 hE4 hE5 hE6 (by first | assumption | omega) (by first | assumption | omega) (by first | assumption | omega) (by first | assumption | omega) (by first | assumption | omega)) gX2_firstWrong_X2_isRight rfl ⟨rfl, rfl⟩ (by decide +kernel) ⟨Nat.le_of_ble_eq_true rfl, Nat.le_of_ble_eq_true rfl⟩ (rest := []) rfl (Nat.le_of_ble_eq_true rfl) dX2_firstWrong_13 ⟨Nat.zero_le _, Nat.zero_le _⟩ (fun zr1 zE1 zH1 zL1 zp1 zw1 => ?_)
        obtain ⟨ze1, zq1⟩ := zp1
        rw [ze1] at zw1
        clear ze1
        rw [zq1]
        refine b_if_ne (tgt := 21) hx hb dX2_firstWrong_16 (by decide) (fun zc16 => ?_) (fun zc16 => ?_)
        · refine lv_iinc (v := nI (e + 1)) (lv' := [(2, .int (nI (e + 1))), (0, .ref (ad b)), (1, .ref (ad i))]) hx hb dX2_firstWrong_21 hl (k := 2) rfl (by rw [show Int32.ofInt 1 = nI 1 from rfl, nI_add]) (by decide) rfl (fun ls hl => ?_)
          refine lv_goto (tgt := 2) hx hb dX2_firstWrong_24 (by decide) ?_
          exact zih2 (e + 1) (by omega) (by omega) (by rw [← hf, fstB_n (n := em) (e := e) zc7 zc16]) _ _ zw1 _ (lv_sub hl [1, 2, 0] rfl)
        · refine lv_iload_n hx hb dX2_firstWrong_19 rfl (lv_at hl 2 rfl) ?_
          exact r_iret C zw1 dX2_firstWrong_20 ⟨rfl, (by rw [wrgI, ← hf, fstB_y (n := em) (e := e) zc7 (Classical.byContradiction zc16), fdI, if_pos zc7])⟩
  exact zlp2 _ 0 (Nat.lt_succ_self _) (by omega) (by rfl) _ _ hw _ (lv_sub hl [1, 2, 0] rfl)

set_option maxHeartbeats 4000000 in
set_option maxRecDepth 100000 in
theorem c_X2_add_y {l : Launch} {G : vG} {tC : Nat} {ad : Nat → Nat} {N : Nat} {E : Nat → va_E} {b em : Nat} {bp br bi bl : Nat → Int32} {k row j lt : Nat} (hN0 : b + 5 ≤ N) (hE0 : E b = .inr (0, [.ref (ad (b + 1)), .ref (ad (b + 2)), .ref (ad (b + 3)), .ref (ad (b + 4)), .int (nI em)])) (hE1 : E (b + 1) = eI G 20 bp) (hE2 : E (b + 2) = eI G 20 br) (hE3 : E (b + 3) = eI G 20 bi) (hE4 : E (b + 4) = eI G 20 bl) (hem : em < 20) : MI l yX2_add wsX2_add ({ frames := 1, cells := 0, slots := 0, locals := 22 } : Room) G tC ad N E [.ref (ad b), .int (nI k), .int (nI row), .int (nI j), .int (nI lt)] (fun r E2 => E2 b = .inr (0, [.ref (ad (b + 1)), .ref (ad (b + 2)), .ref (ad (b + 3)), .ref (ad (b + 4)), .int (nI (em + 1))]) ∧ E2 (b + 1) = eI G 20 (upd bp em (nI k)) ∧ E2 (b + 2) = eI G 20 (upd br em (nI row)) ∧ E2 (b + 3) = eI G 20 (upd bi em (nI j)) ∧ E2 (b + 4) = eI G 20 (upd bl em (nI lt)) ∧ (∀ j, j ≠ b → j ≠ (b + 1) → j ≠ (b + 2) → j ≠ (b + 3) → j ≠ (b + 4) → E2 j = E j) ∧ r = 1) := by
  refine MI_of RX2 rfl (by decide) rfl (Nat.le_of_ble_eq_true rfl) ?_
  intro pp_ ee_ ss_ mm_ aa_ bb_ me_ cc_ A ls C hw hl
  have hx := C.1
  have hb := C.2.1
  have hown := C.2.2.2.2.1
  have hts := C.2.2.2.2.2.1
  have hl : lv_has ls 5 [(0, .ref (ad b)), (1, .int (nI k)), (2, .int (nI row)), (3, .int (nI j)), (4, .int (nI lt))] := hl
  have hinX2 : ∀ w ∈ u_ws RX2 TX2 5, w ∈ wsX2_add := by decide +kernel
  refine lv_aload_n hx hb dX2_add_0 rfl (lv_at hl 0 rfl) ?_
  refine r_get C hw RX2 TX2 5 0 hinX2 (i := b) (by omega) hE0 rfl 4 (by decide) (by decide +kernel) rfl (v := .int (nI em)) rfl dX2_add_1 ?_
  refine lv_iconst (v := nI 0) hx hb dX2_add_4 rfl ?_
  refine lv_bipush (v := nI 19) hx hb dX2_add_5 rfl ?_
  refine r_nI C hw hl.1 [.int (nI em), .int (nI 0), .int (nI 19)] 3 rfl (c_X7_isWithin (l := l) (G := G) (tC := tC) (ad := ad) (N := N) (E := E) (x := nI em) (a := nI 0) (b := nI 19)   ) C.2.2.2.2.2.2.1.2.1 gX2_add_X7_isWithin_n28 rfl ⟨rfl, rfl⟩ (by decide +kernel) (by decide +kernel) (by decide +kernel) ⟨Nat.le_of_ble_eq_true rfl, Nat.le_of_ble_eq_true rfl⟩ (rest := []) rfl (Nat.le_of_ble_eq_true rfl) dX2_add_7 ⟨Nat.zero_le _, Nat.zero_le _⟩ (fun zr1 zE1 zH1 zL1 zp1 zw1 => ?_)
  obtain ⟨ze1, zq1⟩ := zp1
  rw [ze1] at zw1
  clear ze1
  rw [zq1]
  refine b_if_ne (tgt := 15) hx hb dX2_add_10 (by decide) (fun zc10 => ?_) (fun zc10 => ?_)
  · refine lv_aload_n hx hb dX2_add_15 rfl (lv_at hl 0 rfl) ?_
    refine r_get C zw1 RX2 TX2 5 0 hinX2 (i := b) (by omega) hE0 rfl 0 (by decide) (by decide +kernel) rfl (v := .ref (ad (b + 1))) rfl dX2_add_16 ?_
    refine lv_aload_n hx hb dX2_add_19 rfl (lv_at hl 0 rfl) ?_
    refine r_get C zw1 RX2 TX2 5 0 hinX2 (i := b) (by omega) hE0 rfl 4 (by decide) (by decide +kernel) rfl (v := .int (nI em)) rfl dX2_add_20 ?_
    refine lv_iload_n hx hb dX2_add_23 rfl (lv_at hl 1 rfl) ?_
    refine r_iasN C zw1 (i := (b + 1)) (by omega) hE1 (j := em) (by omega) (by omega) dX2_add_24 (fun zE2 zH2 zL2 zg2 zf2 zw2 => ?_)
    have zh2_0 : zE2 (b + 1) = eI G 20 (upd bp em (nI k)) := zg2
    have zk2_0 : zE2 b = .inr (0, [.ref (ad (b + 1)), .ref (ad (b + 2)), .ref (ad (b + 3)), .ref (ad (b + 4)), .int (nI em)]) := (zf2 _ (by omega)).trans hE0
    have zk2_1 : zE2 (b + 2) = eI G 20 br := (zf2 _ (by omega)).trans hE2
    have zk2_2 : zE2 (b + 3) = eI G 20 bi := (zf2 _ (by omega)).trans hE3
    have zk2_3 : zE2 (b + 4) = eI G 20 bl := (zf2 _ (by omega)).trans hE4
    have zfr2 : ∀ j, j ≠ (b + 1) → zE2 j = E j := fun j zm0 => zf2 j zm0
    refine lv_aload_n hx hb dX2_add_25 rfl (lv_at hl 0 rfl) ?_
    refine r_get C zw2 RX2 TX2 5 0 hinX2 (i := b) (by omega) zk2_0 rfl 1 (by decide) (by decide +kernel) rfl (v := .ref (ad (b + 2))) rfl dX2_add_26 ?_
    refine lv_aload_n hx hb dX2_add_29 rfl (lv_at hl 0 rfl) ?_
    refine r_get C zw2 RX2 TX2 5 0 hinX2 (i := b) (by omega) zk2_0 rfl 4 (by decide) (by decide +kernel) rfl (v := .int (nI em)) rfl dX2_add_30 ?_
    refine lv_iload_n hx hb dX2_add_33 rfl (lv_at hl 2 rfl) ?_
    refine r_iasN C zw2 (i := (b + 2)) (by omega) zk2_1 (j := em) (by omega) (by omega) dX2_add_34 (fun zE3 zH3 zL3 zg3 zf3 zw3 => ?_)
    have zh3_0 : zE3 (b + 2) = eI G 20 (upd br em (nI row)) := zg3
    have zk3_0 : zE3 b = .inr (0, [.ref (ad (b + 1)), .ref (ad (b + 2)), .ref (ad (b + 3)), .ref (ad (b + 4)), .int (nI em)]) := (zf3 _ (by omega)).trans zk2_0
    have zk3_1 : zE3 (b + 3) = eI G 20 bi := (zf3 _ (by omega)).trans zk2_2
    have zk3_2 : zE3 (b + 4) = eI G 20 bl := (zf3 _ (by omega)).trans zk2_3
    have zk3_3 : zE3 (b + 1) = eI G 20 (upd bp em (nI k)) := (zf3 _ (by omega)).trans zh2_0
    have zfr3 : ∀ j, j ≠ (b + 1) → j ≠ (b + 2) → zE3 j = E j := fun j zm0 zm1 => (zf3 j zm1).trans (zfr2 j zm0)
    refine lv_aload_n hx hb dX2_add_35 rfl (lv_at hl 0 rfl) ?_
    refine r_get C zw3 RX2 TX2 5 0 hinX2 (i := b) (by omega) zk3_0 rfl 2 (by decide) (by decide +kernel) rfl (v := .ref (ad (b + 3))) rfl dX2_add_36 ?_
    refine lv_aload_n hx hb dX2_add_39 rfl (lv_at hl 0 rfl) ?_
    refine r_get C zw3 RX2 TX2 5 0 hinX2 (i := b) (by omega) zk3_0 rfl 4 (by decide) (by decide +kernel) rfl (v := .int (nI em)) rfl dX2_add_40 ?_
    refine lv_iload_n hx hb dX2_add_43 rfl (lv_at hl 3 rfl) ?_
    refine r_iasN C zw3 (i := (b + 3)) (by omega) zk3_1 (j := em) (by omega) (by omega) dX2_add_44 (fun zE4 zH4 zL4 zg4 zf4 zw4 => ?_)
    have zh4_0 : zE4 (b + 3) = eI G 20 (upd bi em (nI j)) := zg4
    have zk4_0 : zE4 b = .inr (0, [.ref (ad (b + 1)), .ref (ad (b + 2)), .ref (ad (b + 3)), .ref (ad (b + 4)), .int (nI em)]) := (zf4 _ (by omega)).trans zk3_0
    have zk4_1 : zE4 (b + 4) = eI G 20 bl := (zf4 _ (by omega)).trans zk3_2
    have zk4_2 : zE4 (b + 1) = eI G 20 (upd bp em (nI k)) := (zf4 _ (by omega)).trans zk3_3
    have zk4_3 : zE4 (b + 2) = eI G 20 (upd br em (nI row)) := (zf4 _ (by omega)).trans zh3_0
    have zfr4 : ∀ j, j ≠ (b + 1) → j ≠ (b + 2) → j ≠ (b + 3) → zE4 j = E j := fun j zm0 zm1 zm2 => (zf4 j zm2).trans (zfr3 j zm0 zm1)
    refine lv_aload_n hx hb dX2_add_45 rfl (lv_at hl 0 rfl) ?_
    refine r_get C zw4 RX2 TX2 5 0 hinX2 (i := b) (by omega) zk4_0 rfl 3 (by decide) (by decide +kernel) rfl (v := .ref (ad (b + 4))) rfl dX2_add_46 ?_
    refine lv_aload_n hx hb dX2_add_49 rfl (lv_at hl 0 rfl) ?_
    refine r_get C zw4 RX2 TX2 5 0 hinX2 (i := b) (by omega) zk4_0 rfl 4 (by decide) (by decide +kernel) rfl (v := .int (nI em)) rfl dX2_add_50 ?_
    refine lv_iload hx hb dX2_add_53 (lv_at hl 4 rfl) ?_
    refine r_iasN C zw4 (i := (b + 4)) (by omega) zk4_1 (j := em) (by omega) (by omega) dX2_add_55 (fun zE5 zH5 zL5 zg5 zf5 zw5 => ?_)
    have zh5_0 : zE5 (b + 4) = eI G 20 (upd bl em (nI lt)) := zg5
    have zk5_0 : zE5 b = .inr (0, [.ref (ad (b + 1)), .ref (ad (b + 2)), .ref (ad (b + 3)), .ref (ad (b + 4)), .int (nI em)]) := (zf5 _ (by omega)).trans zk4_0
    have zk5_1 : zE5 (b + 1) = eI G 20 (upd bp em (nI k)) := (zf5 _ (by omega)).trans zk4_2
    have zk5_2 : zE5 (b + 2) = eI G 20 (upd br em (nI row)) := (zf5 _ (by omega)).trans zk4_3
    have zk5_3 : zE5 (b + 3) = eI G 20 (upd bi em (nI j)) := (zf5 _ (by omega)).trans zh4_0
    have zfr5 : ∀ j, j ≠ (b + 1) → j ≠ (b + 2) → j ≠ (b + 3) → j ≠ (b + 4) → zE5 j = E j := fun j zm0 zm1 zm2 zm3 => (zf5 j zm3).trans (zfr4 j zm0 zm1 zm2)
    refine lv_aload_n hx hb dX2_add_56 rfl (lv_at hl 0 rfl) ?_
    refine lv_dup hx hb dX2_add_57 rfl ?_
    refine r_get C zw5 RX2 TX2 5 0 hinX2 (i := b) (by omega) zk5_0 rfl 4 (by decide) (by decide +kernel) rfl (v := .int (nI em)) rfl dX2_add_58 ?_
    refine lv_iconst (v := nI 1) hx hb dX2_add_61 rfl ?_
    refine lv_iadd hx hb dX2_add_62 ?_
    refine r_nat (em + 1) (nI_add _ _) ?_
    refine r_put C zw5 RX2 TX2 5 0 hinX2 tyX2 tyX2_ok nmX2 (i := b) (by omega) zk5_0 rfl 4 (by decide) (by decide +kernel) rfl rfl (v := .int (nI (em + 1))) rfl rfl (Nat.le_of_ble_eq_true rfl) dX2_add_63 (fun zE6 zH6 zL6 zg6 zf6 zw6 => ?_)
    have zh6_0 : zE6 b = .inr (0, [.ref (ad (b + 1)), .ref (ad (b + 2)), .ref (ad (b + 3)), .ref (ad (b + 4)), .int (nI (em + 1))]) := zg6
    have zk6_0 : zE6 (b + 1) = eI G 20 (upd bp em (nI k)) := (zf6 _ (by omega)).trans zk5_1
    have zk6_1 : zE6 (b + 2) = eI G 20 (upd br em (nI row)) := (zf6 _ (by omega)).trans zk5_2
    have zk6_2 : zE6 (b + 3) = eI G 20 (upd bi em (nI j)) := (zf6 _ (by omega)).trans zk5_3
    have zk6_3 : zE6 (b + 4) = eI G 20 (upd bl em (nI lt)) := (zf6 _ (by omega)).trans zh5_0
    have zfr6 : ∀ j, j ≠ (b + 1) → j ≠ (b + 2) → j ≠ (b + 3) → j ≠ (b + 4) → j ≠ b → zE6 j = E j := fun j zm0 zm1 zm2 zm3 zm4 => (zf6 j zm4).trans (zfr5 j zm0 zm1 zm2 zm3)
    refine lv_iconst (v := nI 1) hx hb dX2_add_66 rfl ?_
    exact r_zret C zw6 dX2_add_67 (Or.inr rfl) ⟨zh6_0, zk6_0, zk6_1, zk6_2, zk6_3, (fun j zm0 zm1 zm2 zm3 zm4 => zfr6 j zm1 zm2 zm3 zm4 zm0), (by rfl)⟩
  · exact absurd (in_nI (by omega) (by omega)) zc10

set_option maxHeartbeats 4000000 in
set_option maxRecDepth 100000 in
theorem c_X2_add_n {l : Launch} {G : vG} {tC : Nat} {ad : Nat → Nat} {N : Nat} {E : Nat → va_E} {b em : Nat} {bp br bi bl : Nat → Int32} {k row j lt : Nat} (hN0 : b + 5 ≤ N) (hE0 : E b = .inr (0, [.ref (ad (b + 1)), .ref (ad (b + 2)), .ref (ad (b + 3)), .ref (ad (b + 4)), .int (nI em)])) (hem : em = 20) : MI l yX2_add wsX2_add ({ frames := 1, cells := 0, slots := 0, locals := 22 } : Room) G tC ad N E [.ref (ad b), .int (nI k), .int (nI row), .int (nI j), .int (nI lt)] (fun r E2 => E2 = E ∧ r = 0) := by
  refine MI_of RX2 rfl (by decide) rfl (Nat.le_of_ble_eq_true rfl) ?_
  intro pp_ ee_ ss_ mm_ aa_ bb_ me_ cc_ A ls C hw hl
  have hx := C.1
  have hb := C.2.1
  have hown := C.2.2.2.2.1
  have hts := C.2.2.2.2.2.1
  have hl : lv_has ls 5 [(0, .ref (ad b)), (1, .int (nI k)), (2, .int (nI row)), (3, .int (nI j)), (4, .int (nI lt))] := hl
  have hinX2 : ∀ w ∈ u_ws RX2 TX2 5, w ∈ wsX2_add := by decide +kernel
  refine lv_aload_n hx hb dX2_add_0 rfl (lv_at hl 0 rfl) ?_
  refine r_get C hw RX2 TX2 5 0 hinX2 (i := b) (by omega) hE0 rfl 4 (by decide) (by decide +kernel) rfl (v := .int (nI em)) rfl dX2_add_1 ?_
  refine lv_iconst (v := nI 0) hx hb dX2_add_4 rfl ?_
  refine lv_bipush (v := nI 19) hx hb dX2_add_5 rfl ?_
  refine r_nI C hw hl.1 [.int (nI em), .int (nI 0), .int (nI 19)] 3 rfl (c_X7_isWithin (l := l) (G := G) (tC := tC) (ad := ad) (N := N) (E := E) (x := nI em) (a := nI 0) (b := nI 19)   ) C.2.2.2.2.2.2.1.2.1 gX2_add_X7_isWithin_n28 rfl ⟨rfl, rfl⟩ (by decide +kernel) (by decide +kernel) (by decide +kernel) ⟨Nat.le_of_ble_eq_true rfl, Nat.le_of_ble_eq_true rfl⟩ (rest := []) rfl (Nat.le_of_ble_eq_true rfl) dX2_add_7 ⟨Nat.zero_le _, Nat.zero_le _⟩ (fun zr1 zE1 zH1 zL1 zp1 zw1 => ?_)
  obtain ⟨ze1, zq1⟩ := zp1
  rw [ze1] at zw1
  clear ze1
  rw [zq1]
  refine b_if_ne (tgt := 15) hx hb dX2_add_10 (by decide) (fun zc10 => ?_) (fun zc10 => ?_)
  · exact absurd (Int32.le_iff_toInt_le.mp zc10.2) (by rw [nI_toInt (by omega), nI_toInt (by omega)]; omega)
  · refine lv_iconst (v := nI 0) hx hb dX2_add_13 rfl ?_
    exact r_zret C zw1 dX2_add_14 (Or.inl rfl) ⟨rfl, (by rfl)⟩

