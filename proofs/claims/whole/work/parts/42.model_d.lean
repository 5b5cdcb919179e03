set_option maxHeartbeats 4000000 in
set_option maxRecDepth 100000 in
theorem c_X8_isPage {l : Launch} {G : vG} {tC : Nat} {ad : Nat → Nat} {N : Nat} {E : Nat → va_E} {q co pm em : Nat} {th : Int32} {se : Int64} {pg : Nat} {s : Nat → Int32} {k : Int32} (hN0 : q + 13 ≤ N) (hE0 : E q = .inr (5, [.int th, .ref (ad (q + 1)), .long se, .ref (ad (q + 2)), .ref (ad (q + 3)), .int (nI co), .ref (ad (q + 4)), .int (nI pm), .ref (ad (q + 5)), .ref (ad (q + 6)), .ref (ad (q + 7)), .ref (ad (q + 8)), .int (nI em), .ref (ad (q + 9)), .ref (ad (q + 10)), .ref (ad (q + 11)), .ref (ad (q + 12))])) (hE1 : E (q + 1) = eI G 508 s) (hs0 : s 0 = nI pg) (hpg : pg ≤ 10) : MI l yX8_isPage wsX8_isPage ({ frames := 1, cells := 0, slots := 0, locals := 25 } : Room) G tC ad N E [.ref (ad q), .int k] (fun r E2 => E2 = E ∧ r = if hasP pg k then 1 else 0) := by
  refine MI_of RX8 rfl (by decide) rfl (Nat.le_of_ble_eq_true rfl) ?_
  intro pp_ ee_ ss_ mm_ aa_ bb_ me_ cc_ A ls C hw hl
  have hx := C.1
  have hb := C.2.1
  have hown := C.2.2.2.2.1
  have hts := C.2.2.2.2.2.1
  have hl : lv_has ls 2 [(0, .ref (ad q)), (1, .int k)] := hl
  have hinX8 : ∀ w ∈ u_ws RX8 TX8 17, w ∈ wsX8_isPage := by decide +kernel
  refine lv_iload_n hx hb dX8_isPage_0 rfl (lv_at hl 1 rfl) ?_
  refine lv_i2l (v := k.toInt64) hx hb dX8_isPage_1 rfl ?_
  refine lv_lconst (v := (nI 0).toInt64) hx hb dX8_isPage_2 (by decide) ?_
  refine lv_aload_n hx hb dX8_isPage_3 rfl (lv_at hl 0 rfl) ?_
  refine r_get C hw RX8 TX8 17 5 hinX8 (i := q) (by omega) hE0 rfl 1 (by decide) (by decide +kernel) rfl (v := .ref (ad (q + 1))) rfl dX8_isPage_4 ?_
  refine lv_iconst (v := nI 0) hx hb dX8_isPage_7 rfl ?_
  refine r_iaN C hw (i := (q + 1)) (by omega) hE1 (j := 0) (by omega) (by omega) dX8_isPage_8 ?_
  refine r_nat pg hs0 ?_
  refine lv_iconst (v := nI 1) hx hb dX8_isPage_9 rfl ?_
  refine lv_isub hx hb dX8_isPage_10 ?_
  refine lv_i2l (v := ((nI pg) - (nI 1)).toInt64) hx hb dX8_isPage_11 rfl ?_
  refine r_sI C hw hl.1 [.long k.toInt64, .long ((nI 0).toInt64), .long (((nI pg) - (nI 1)).toInt64)] 3 rfl (c_X8_in (l := l) (G := G) (tC := tC) (ad := ad) (N := N) (E := E) (x := k) (a := (nI 0)) (b := ((nI pg) - (nI 1)))   ) gX8_isPage_X8_in rfl ⟨rfl, rfl⟩ (by decide +kernel) ⟨Nat.le_of_ble_eq_true rfl, Nat.le_of_ble_eq_true rfl⟩ (rest := []) rfl (Nat.le_of_ble_eq_true rfl) dX8_isPage_12 ⟨Nat.zero_le _, Nat.zero_le _⟩ (fun zr1 zE1 zH1 zL1 zp1 zw1 => ?_)
  obtain ⟨ze1, zq1⟩ := zp1
  rw [ze1] at zw1
  clear ze1
  rw [zq1]
  exact r_zret C zw1 dX8_isPage_15 (by split <;> simp) ⟨rfl, (by simp only [has_iff (show pg < 2147483648 by omega)])⟩

set_option maxHeartbeats 4000000 in
set_option maxRecDepth 100000 in
theorem c_X8_lacks {l : Launch} {G : vG} {tC : Nat} {ad : Nat → Nat} {N : Nat} {E : Nat → va_E} {q co pm em : Nat} {th : Int32} {se : Int64} {s : Nat → Int32} {k : Nat} (hN0 : q + 13 ≤ N) (hE0 : E q = .inr (5, [.int th, .ref (ad (q + 1)), .long se, .ref (ad (q + 2)), .ref (ad (q + 3)), .int (nI co), .ref (ad (q + 4)), .int (nI pm), .ref (ad (q + 5)), .ref (ad (q + 6)), .ref (ad (q + 7)), .ref (ad (q + 8)), .int (nI em), .ref (ad (q + 9)), .ref (ad (q + 10)), .ref (ad (q + 11)), .ref (ad (q + 12))])) (hE1 : E (q + 1) = eI G 508 s) (hk : k < 10) : MI l yX8_lacks wsX8_lacks ({ frames := 2, cells := 0, slots := 0, locals := 42 } : Room) G tC ad N E [.ref (ad q), .int (nI k)] (fun r E2 => E2 = E ∧ r = nI (lacN (ltF s k))) := by
  refine MI_of RX8 rfl (by decide) rfl (Nat.le_of_ble_eq_true rfl) ?_
  intro pp_ ee_ ss_ mm_ aa_ bb_ me_ cc_ A ls C hw hl
  have hx := C.1
  have hb := C.2.1
  have hown := C.2.2.2.2.1
  have hts := C.2.2.2.2.2.1
  have hl : lv_has ls 4 [(0, .ref (ad q)), (1, .int (nI k))] := hl
  refine lv_bipush (v := nI 31) hx hb dX8_lacks_0 rfl ?_
  refine lv_istore_n (lv' := [(2, .int (nI 31)), (0, .ref (ad q)), (1, .int (nI k))]) hx hb dX8_lacks_2 rfl hl (by decide) rfl (fun ls hl => ?_)
  refine lv_iconst (v := nI 0) hx hb dX8_lacks_3 rfl ?_
  refine lv_istore_n (lv' := [(3, .int (nI 0)), (2, .int (nI 31)), (0, .ref (ad q)), (1, .int (nI k))]) hx hb dX8_lacks_4 rfl hl (by decide) rfl (fun ls hl => ?_)
  have zlp5 : ∀ (zn : Nat) (i : Nat), 40 - i < zn → (i ≤ 40) → ∀ (H9 : Heap) (L9 : List Loc), Wd G A ss_.heap H9 L9 ad E N → ∀ (ls : Array Slot), lv_has ls 4 [(0, .ref (ad q)), (1, .int (nI k)), (2, .int (nI (lacM (ltF s k) i))), (3, .int (nI i))] → W pp_ l ee_ ({ frames := 2, cells := 0, slots := 0, locals := 42 } : Room) ss_ mm_ aa_ bb_ me_ cc_ H9 L9 0 0 (QI bb_ aa_ ss_ G ad N A (fun r E2 => E2 = E ∧ r = nI (lacN (ltF s k)))) (F0 mm_ 5 ls []) := by
    intro zn
    induction zn with
    | zero => intro i zhm; exact absurd zhm (Nat.not_lt_zero _)
    | succ zn zih5 =>
      intro i zhm5 hi zH_5 zL_5 zlw5 ls hl
      refine lv_iload_n hx hb dX8_lacks_5 rfl (lv_at hl 3 rfl) ?_
      refine lv_bipush (v := nI 40) hx hb dX8_lacks_6 rfl ?_
      refine n_icmp_ge (tgt := 46) hx hb dX8_lacks_8 (by decide) (by omega) (by omega) (fun zc8 => ?_) (fun zc8 => ?_)
      · refine lv_iload_n hx hb dX8_lacks_46 rfl (lv_at hl 2 rfl) ?_
        exact r_iret C zlw5 dX8_lacks_47 ⟨rfl, (by rw [show i = 40 by omega, lacM_40])⟩
      · refine lv_iload_n hx hb dX8_lacks_11 rfl (lv_at hl 2 rfl) ?_
        refine lv_aload_n hx hb dX8_lacks_12 rfl (lv_at hl 0 rfl) ?_
        refine lv_iload_n hx hb dX8_lacks_13 rfl (lv_at hl 1 rfl) ?_
        refine lv_bipush (v := nI 10) hx hb dX8_lacks_14 rfl ?_
        refine lv_iload_n hx hb dX8_lacks_16 rfl (lv_at hl 3 rfl) ?_
        refine lv_iadd hx hb dX8_lacks_17 ?_
        refine r_nat (10 + i) (nI_add _ _) ?_
        refine r_vI C zlw5 hl.1 (i := q) (by omega) hE0 (T := TX8) (n := 17) rfl [.int (nI k), .int (nI (10 + i))] 2 rfl (c_X8_of (l := l) (G := G) (tC := tC) (ad := ad) (N := N) (E := E) (q := q) (co := co) (pm := pm) (em := em) (th := th) (se := se) (s := s) (k := k) (w := 10 + i) (by omega) hE0 hE1 (by first | assumption | omega)) gX8_lacks_X8_of rfl ⟨rfl, rfl⟩ (by decide +kernel) ⟨Nat.le_of_ble_eq_true rfl, Nat.le_of_ble_eq_true rfl⟩ (rest := [.int (nI (lacM (ltF s k) i))]) rfl (Nat.le_of_ble_eq_true rfl) dX8_lacks_18 ⟨Nat.zero_le _, Nat.zero_le _⟩ (fun zr1 zE1 zH1 zL1 zp1 zw1 => ?_)
        obtain ⟨ze1, zq1⟩ := zp1
        rw [ze1] at zw1
        clear ze1
        rw [zq1]
        refine lv_iconst (v := -1) hx hb dX8_lacks_21 (by decide) ?_
        refine lv_icmp_ne (tgt := 30) hx hb dX8_lacks_22 (by decide) (fun zc22 => ?_) (fun zc22 => ?_)
        · refine lv_iconst (v := nI 1) hx hb dX8_lacks_30 rfl ?_
          refine lv_iload_n hx hb dX8_lacks_31 rfl (lv_at hl 3 rfl) ?_
          refine lv_bipush (v := nI 8) hx hb dX8_lacks_32 rfl ?_
          refine lv_idiv hx hb dX8_lacks_34 (by decide) ?_
          refine r_nat (i / 8) (pk_div (by omega) (by omega) (by omega)) ?_
          refine lv_ishl hx hb dX8_lacks_35 ?_
          refine lv_iconst (v := -1) hx hb dX8_lacks_36 (by decide) ?_
          refine lv_ixor hx hb dX8_lacks_37 ?_
          refine lv_iand hx hb dX8_lacks_38 ?_
          refine r_nat (lacM (ltF s k) (i + 1)) (by rw [lacM, if_neg zc22]; exact andnot _ (lacM_lt _ _) _ (by omega)) ?_
          refine lv_istore_n (lv' := [(2, .int (nI (lacM (ltF s k) (i + 1)))), (0, .ref (ad q)), (1, .int (nI k)), (3, .int (nI i))]) hx hb dX8_lacks_39 rfl hl (by decide) rfl (fun ls hl => ?_)
          refine lv_iinc (v := nI (i + 1)) (lv' := [(3, .int (nI (i + 1))), (2, .int (nI (lacM (ltF s k) (i + 1)))), (0, .ref (ad q)), (1, .int (nI k))]) hx hb dX8_lacks_40 hl (k := 3) rfl (by rw [show Int32.ofInt 1 = nI 1 from rfl, nI_add]) (by decide) rfl (fun ls hl => ?_)
          refine lv_goto (tgt := 5) hx hb dX8_lacks_43 (by decide) ?_
          exact zih5 (i + 1) (by omega) (by omega) _ _ zw1 _ (lv_sub hl [2, 3, 1, 0] rfl)
        · refine lv_bipush (v := nI 31) hx hb dX8_lacks_25 rfl ?_
          refine lv_goto (tgt := 38) hx hb dX8_lacks_27 (by decide) ?_
          refine lv_iand hx hb dX8_lacks_38 ?_
          refine r_nat (lacM (ltF s k) (i + 1)) (by rw [lacM, if_pos zc22]; exact and31 _ (lacM_lt _ _)) ?_
          refine lv_istore_n (lv' := [(2, .int (nI (lacM (ltF s k) (i + 1)))), (0, .ref (ad q)), (1, .int (nI k)), (3, .int (nI i))]) hx hb dX8_lacks_39 rfl hl (by decide) rfl (fun ls hl => ?_)
          refine lv_iinc (v := nI (i + 1)) (lv' := [(3, .int (nI (i + 1))), (2, .int (nI (lacM (ltF s k) (i + 1)))), (0, .ref (ad q)), (1, .int (nI k))]) hx hb dX8_lacks_40 hl (k := 3) rfl (by rw [show Int32.ofInt 1 = nI 1 from rfl, nI_add]) (by decide) rfl (fun ls hl => ?_)
          refine lv_goto (tgt := 5) hx hb dX8_lacks_43 (by decide) ?_
          exact zih5 (i + 1) (by omega) (by omega) _ _ zw1 _ (lv_sub hl [2, 3, 1, 0] rfl)
  exact zlp5 _ 0 (Nat.lt_succ_self _) (by omega) _ _ hw _ (lv_sub hl [2, 3, 1, 0] rfl)

set_option maxHeartbeats 4000000 in
set_option maxRecDepth 100000 in
theorem c_X8_hasLinks {l : Launch} {G : vG} {tC : Nat} {ad : Nat → Nat} {N : Nat} {E : Nat → va_E} {q co pm em : Nat} {th : Int32} {se : Int64} {s : Nat → Int32} {k : Nat} (hN0 : q + 13 ≤ N) (hE0 : E q = .inr (5, [.int th, .ref (ad (q + 1)), .long se, .ref (ad (q + 2)), .ref (ad (q + 3)), .int (nI co), .ref (ad (q + 4)), .int (nI pm), .ref (ad (q + 5)), .ref (ad (q + 6)), .ref (ad (q + 7)), .ref (ad (q + 8)), .int (nI em), .ref (ad (q + 9)), .ref (ad (q + 10)), .ref (ad (q + 11)), .ref (ad (q + 12))])) (hE1 : E (q + 1) = eI G 508 s) (hk : k < 10) : MI l yX8_hasLinks wsX8_hasLinks ({ frames := 2, cells := 0, slots := 0, locals := 42 } : Room) G tC ad N E [.ref (ad q), .int (nI k)] (fun r E2 => E2 = E ∧ r = if anyL (lkL s k) 4 then 1 else 0) := by
  refine MI_of RX8 rfl (by decide) rfl (Nat.le_of_ble_eq_true rfl) ?_
  intro pp_ ee_ ss_ mm_ aa_ bb_ me_ cc_ A ls C hw hl
  have hx := C.1
  have hb := C.2.1
  have hown := C.2.2.2.2.1
  have hts := C.2.2.2.2.2.1
  have hl : lv_has ls 4 [(0, .ref (ad q)), (1, .int (nI k))] := hl
  refine lv_iconst (v := nI 0) hx hb dX8_hasLinks_0 rfl ?_
  refine r_as (if anyL (lkL s k) 0 then 1 else 0) (by rw [if_neg anyL_0]; rfl) ?_
  refine lv_istore_n (lv' := [(2, .int (if anyL (lkL s k) 0 then 1 else 0)), (0, .ref (ad q)), (1, .int (nI k))]) hx hb dX8_hasLinks_1 rfl hl (by decide) rfl (fun ls hl => ?_)
  refine lv_iconst (v := nI 0) hx hb dX8_hasLinks_2 rfl ?_
  refine lv_istore_n (lv' := [(3, .int (nI 0)), (2, .int (if anyL (lkL s k) 0 then 1 else 0)), (0, .ref (ad q)), (1, .int (nI k))]) hx hb dX8_hasLinks_3 rfl hl (by decide) rfl (fun ls hl => ?_)
  have zlp4 : ∀ (zn : Nat) (i : Nat), 4 - i < zn → (i ≤ 4) → ∀ (H9 : Heap) (L9 : List Loc), Wd G A ss_.heap H9 L9 ad E N → ∀ (ls : Array Slot), lv_has ls 4 [(0, .ref (ad q)), (1, .int (nI k)), (2, .int (if anyL (lkL s k) i then 1 else 0)), (3, .int (nI i))] → W pp_ l ee_ ({ frames := 2, cells := 0, slots := 0, locals := 42 } : Room) ss_ mm_ aa_ bb_ me_ cc_ H9 L9 0 0 (QI bb_ aa_ ss_ G ad N A (fun r E2 => E2 = E ∧ r = if anyL (lkL s k) 4 then 1 else 0)) (F0 mm_ 4 ls []) := by
    intro zn
    induction zn with
    | zero => intro i zhm; exact absurd zhm (Nat.not_lt_zero _)
    | succ zn zih4 =>
      intro i zhm4 hi zH_4 zL_4 zlw4 ls hl
      refine lv_iload_n hx hb dX8_hasLinks_4 rfl (lv_at hl 3 rfl) ?_
      refine lv_iconst (v := nI 4) hx hb dX8_hasLinks_5 rfl ?_
      refine n_icmp_ge (tgt := 38) hx hb dX8_hasLinks_6 (by decide) (by omega) (by omega) (fun zc6 => ?_) (fun zc6 => ?_)
      · refine lv_iload_n hx hb dX8_hasLinks_38 rfl (lv_at hl 2 rfl) ?_
        exact r_zret C zlw4 dX8_hasLinks_39 (by split <;> simp) ⟨rfl, (by simp only [show i = 4 by omega])⟩
      · refine lv_iload_n hx hb dX8_hasLinks_9 rfl (lv_at hl 2 rfl) ?_
        refine b_if_ne (tgt := 26) hx hb dX8_hasLinks_10 (by decide) (fun zc10 => ?_) (fun zc10 => ?_)
        · refine lv_iconst (v := nI 1) hx hb dX8_hasLinks_26 rfl ?_
          refine lv_goto (tgt := 31) hx hb dX8_hasLinks_27 (by decide) ?_
          refine r_as (if anyL (lkL s k) (i + 1) then 1 else 0) (by rw [if_pos (by first | exact anyL_y zc10 | exact anyL_x zc23)]; rfl) ?_
          refine lv_istore_n (lv' := [(2, .int (if anyL (lkL s k) (i + 1) then 1 else 0)), (0, .ref (ad q)), (1, .int (nI k)), (3, .int (nI i))]) hx hb dX8_hasLinks_31 rfl hl (by decide) rfl (fun ls hl => ?_)
          refine lv_iinc (v := nI (i + 1)) (lv' := [(3, .int (nI (i + 1))), (2, .int (if anyL (lkL s k) (i + 1) then 1 else 0)), (0, .ref (ad q)), (1, .int (nI k))]) hx hb dX8_hasLinks_32 hl (k := 3) rfl (by rw [show Int32.ofInt 1 = nI 1 from rfl, nI_add]) (by decide) rfl (fun ls hl => ?_)
          refine lv_goto (tgt := 4) hx hb dX8_hasLinks_35 (by decide) ?_
          exact zih4 (i + 1) (by omega) (by omega) _ _ zlw4 _ (lv_sub hl [2, 3, 1, 0] rfl)
        · refine lv_aload_n hx hb dX8_hasLinks_13 rfl (lv_at hl 0 rfl) ?_
          refine lv_iload_n hx hb dX8_hasLinks_14 rfl (lv_at hl 1 rfl) ?_
          refine lv_bipush (v := nI 6) hx hb dX8_hasLinks_15 rfl ?_
          refine lv_iload_n hx hb dX8_hasLinks_17 rfl (lv_at hl 3 rfl) ?_
          refine lv_iadd hx hb dX8_hasLinks_18 ?_
          refine r_nat (6 + i) (nI_add _ _) ?_
          refine r_vI C zlw4 hl.1 (i := q) (by omega) hE0 (T := TX8) (n := 17) rfl [.int (nI k), .int (nI (6 + i))] 2 rfl (c_X8_of (l := l) (G := G) (tC := tC) (ad := ad) (N := N) (E := E) (q := q) (co := co) (pm := pm) (em := em) (th := th) (se := se) (s := s) (k := k) (w := 6 + i) (by omega) hE0 hE1 (by first | assumption | omega)) gX8_hasLinks_X8_of rfl ⟨rfl, rfl⟩ (by decide +kernel) ⟨Nat.le_of_ble_eq_true rfl, Nat.le_of_ble_eq_true rfl⟩ (rest := []) rfl (Nat.le_of_ble_eq_true rfl) dX8_hasLinks_19 ⟨Nat.zero_le _, Nat.zero_le _⟩ (fun zr1 zE1 zH1 zL1 zp1 zw1 => ?_)
          obtain ⟨ze1, zq1⟩ := zp1
          rw [ze1] at zw1
          clear ze1
          rw [zq1]
          refine lv_iconst (v := -1) hx hb dX8_hasLinks_22 (by decide) ?_
          refine lv_icmp_eq (tgt := 30) hx hb dX8_hasLinks_23 (by decide) (fun zc23 => ?_) (fun zc23 => ?_)
          · refine lv_iconst (v := nI 0) hx hb dX8_hasLinks_30 rfl ?_
            refine r_as (if anyL (lkL s k) (i + 1) then 1 else 0) (by rw [if_neg (anyL_n zc10 zc23)]; rfl) ?_
            refine lv_istore_n (lv' := [(2, .int (if anyL (lkL s k) (i + 1) then 1 else 0)), (0, .ref (ad q)), (1, .int (nI k)), (3, .int (nI i))]) hx hb dX8_hasLinks_31 rfl hl (by decide) rfl (fun ls hl => ?_)
            refine lv_iinc (v := nI (i + 1)) (lv' := [(3, .int (nI (i + 1))), (2, .int (if anyL (lkL s k) (i + 1) then 1 else 0)), (0, .ref (ad q)), (1, .int (nI k))]) hx hb dX8_hasLinks_32 hl (k := 3) rfl (by rw [show Int32.ofInt 1 = nI 1 from rfl, nI_add]) (by decide) rfl (fun ls hl => ?_)
            refine lv_goto (tgt := 4) hx hb dX8_hasLinks_35 (by decide) ?_
            exact zih4 (i + 1) (by omega) (by omega) _ _ zw1 _ (lv_sub hl [2, 3, 1, 0] rfl)
          · refine lv_iconst (v := nI 1) hx hb dX8_hasLinks_26 rfl ?_
            refine lv_goto (tgt := 31) hx hb dX8_hasLinks_27 (by decide) ?_
            refine r_as (if anyL (lkL s k) (i + 1) then 1 else 0) (by rw [if_pos (by first | exact anyL_y zc10 | exact anyL_x zc23)]; rfl) ?_
            refine lv_istore_n (lv' := [(2, .int (if anyL (lkL s k) (i + 1) then 1 else 0)), (0, .ref (ad q)), (1, .int (nI k)), (3, .int (nI i))]) hx hb dX8_hasLinks_31 rfl hl (by decide) rfl (fun ls hl => ?_)
            refine lv_iinc (v := nI (i + 1)) (lv' := [(3, .int (nI (i + 1))), (2, .int (if anyL (lkL s k) (i + 1) then 1 else 0)), (0, .ref (ad q)), (1, .int (nI k))]) hx hb dX8_hasLinks_32 hl (k := 3) rfl (by rw [show Int32.ofInt 1 = nI 1 from rfl, nI_add]) (by decide) rfl (fun ls hl => ?_)
            refine lv_goto (tgt := 4) hx hb dX8_hasLinks_35 (by decide) ?_
            exact zih4 (i + 1) (by omega) (by omega) _ _ zw1 _ (lv_sub hl [2, 3, 1, 0] rfl)
  exact zlp4 _ 0 (Nat.lt_succ_self _) (by omega) _ _ hw _ (lv_sub hl [2, 3, 1, 0] rfl)

set_option maxHeartbeats 4000000 in
set_option maxRecDepth 100000 in
theorem c_X8_lengthOf {l : Launch} {G : vG} {tC : Nat} {ad : Nat → Nat} {N : Nat} {E : Nat → va_E} {q co pm em : Nat} {th : Int32} {se : Int64} {s : Nat → Int32} {k : Nat} (hN0 : q + 13 ≤ N) (hE0 : E q = .inr (5, [.int th, .ref (ad (q + 1)), .long se, .ref (ad (q + 2)), .ref (ad (q + 3)), .int (nI co), .ref (ad (q + 4)), .int (nI pm), .ref (ad (q + 5)), .ref (ad (q + 6)), .ref (ad (q + 7)), .ref (ad (q + 8)), .int (nI em), .ref (ad (q + 9)), .ref (ad (q + 10)), .ref (ad (q + 11)), .ref (ad (q + 12))])) (hE1 : E (q + 1) = eI G 508 s) (hk : k < 10) : MI l yX8_lengthOf wsX8_lengthOf ({ frames := 3, cells := 0, slots := 0, locals := 65 } : Room) G tC ad N E [.ref (ad q), .int (nI k)] (fun r E2 => E2 = E ∧ r = nI (lenN (lkL s k) (ltF s k))) := by
  refine MI_of RX8 rfl (by decide) rfl (Nat.le_of_ble_eq_true rfl) ?_
  intro pp_ ee_ ss_ mm_ aa_ bb_ me_ cc_ A ls C hw hl
  have hx := C.1
  have hb := C.2.1
  have hown := C.2.2.2.2.1
  have hts := C.2.2.2.2.2.1
  have hl : lv_has ls 4 [(0, .ref (ad q)), (1, .int (nI k))] := hl
  refine lv_aload_n hx hb dX8_lengthOf_0 rfl (lv_at hl 0 rfl) ?_
  refine lv_iload_n hx hb dX8_lengthOf_1 rfl (lv_at hl 1 rfl) ?_
  refine r_vI C hw hl.1 (i := q) (by omega) hE0 (T := TX8) (n := 17) rfl [.int (nI k)] 1 rfl (c_X8_hasLinks (l := l) (G := G) (tC := tC) (ad := ad) (N := N) (E := E) (q := q) (co := co) (pm := pm) (em := em) (th := th) (se := se) (s := s) (k := k) (by omega) hE0 hE1 (by first | assumption | omega)) gX8_lengthOf_X8_hasLinks rfl ⟨rfl, rfl⟩ (by decide +kernel) ⟨Nat.le_of_ble_eq_true rfl, Nat.le_of_ble_eq_true rfl⟩ (rest := []) rfl (Nat.le_of_ble_eq_true rfl) dX8_lengthOf_2 ⟨Nat.zero_le _, Nat.zero_le _⟩ (fun zr1 zE1 zH1 zL1 zp1 zw1 => ?_)
  obtain ⟨ze1, zq1⟩ := zp1
  rw [ze1] at zw1
  clear ze1
  rw [zq1]
  refine b_if_eq (tgt := 12) hx hb dX8_lengthOf_5 (by decide) (fun zc5 => ?_) (fun zc5 => ?_)
  · refine lv_iconst (v := nI 1) hx hb dX8_lengthOf_12 rfl ?_
    refine lv_istore_n (lv' := [(2, .int (nI 1)), (0, .ref (ad q)), (1, .int (nI k))]) hx hb dX8_lengthOf_13 rfl hl (by decide) rfl (fun ls hl => ?_)
    refine lv_iconst (v := nI 0) hx hb dX8_lengthOf_14 rfl ?_
    refine lv_istore_n (lv' := [(3, .int (nI 0)), (2, .int (nI 1)), (0, .ref (ad q)), (1, .int (nI k))]) hx hb dX8_lengthOf_15 rfl hl (by decide) rfl (fun ls hl => ?_)
    have zlp16 : ∀ (zn : Nat) (a i : Nat), 5 - i < zn → (i ≤ 5) → (a = (if anyL (lkL s k) 4 then 2 else 1) + (i - pcK (lacN (ltF s k)) i)) → ∀ (H9 : Heap) (L9 : List Loc), Wd G A ss_.heap H9 L9 ad E N → ∀ (ls : Array Slot), lv_has ls 4 [(0, .ref (ad q)), (1, .int (nI k)), (2, .int (nI a)), (3, .int (nI i))] → W pp_ l ee_ ({ frames := 3, cells := 0, slots := 0, locals := 65 } : Room) ss_ mm_ aa_ bb_ me_ cc_ H9 L9 0 0 (QI bb_ aa_ ss_ G ad N A (fun r E2 => E2 = E ∧ r = nI (lenN (lkL s k) (ltF s k)))) (F0 mm_ 16 ls []) := by
      intro zn
      induction zn with
      | zero => intro a i zhm; exact absurd zhm (Nat.not_lt_zero _)
      | succ zn zih16 =>
        intro a i zhm16 hi ha zH_16 zL_16 zlw16 ls hl
        refine lv_iload_n hx hb dX8_lengthOf_16 rfl (lv_at hl 3 rfl) ?_
        refine lv_iconst (v := nI 5) hx hb dX8_lengthOf_17 rfl ?_
        refine n_icmp_ge (tgt := 41) hx hb dX8_lengthOf_18 (by decide) (by omega) (by omega) (fun zc18 => ?_) (fun zc18 => ?_)
        · refine lv_iload_n hx hb dX8_lengthOf_41 rfl (lv_at hl 2 rfl) ?_
          exact r_iret C zlw16 dX8_lengthOf_42 ⟨rfl, (by rw [ha, show i = 5 by omega, pcK_5 _ (lacN_lt _)]; rfl)⟩
        · refine lv_iload_n hx hb dX8_lengthOf_21 rfl (lv_at hl 2 rfl) ?_
          refine lv_aload_n hx hb dX8_lengthOf_22 rfl (lv_at hl 0 rfl) ?_
          refine lv_iload_n hx hb dX8_lengthOf_23 rfl (lv_at hl 1 rfl) ?_
          refine r_vI C zlw16 hl.1 (i := q) (by omega) hE0 (T := TX8) (n := 17) rfl [.int (nI k)] 1 rfl (c_X8_lacks (l := l) (G := G) (tC := tC) (ad := ad) (N := N) (E := E) (q := q) (co := co) (pm := pm) (em := em) (th := th) (se := se) (s := s) (k := k) (by omega) hE0 hE1 (by first | assumption | omega)) gX8_lengthOf_X8_lacks rfl ⟨rfl, rfl⟩ (by decide +kernel) ⟨Nat.le_of_ble_eq_true rfl, Nat.le_of_ble_eq_true rfl⟩ (rest := [.int (nI a)]) rfl (Nat.le_of_ble_eq_true rfl) dX8_lengthOf_24 ⟨Nat.zero_le _, Nat.zero_le _⟩ (fun zr2 zE2 zH2 zL2 zp2 zw2 => ?_)
          obtain ⟨ze2, zq2⟩ := zp2
          rw [ze2] at zw2
          clear ze2
          rw [zq2]
          refine lv_iload_n hx hb dX8_lengthOf_27 rfl (lv_at hl 3 rfl) ?_
          refine lv_ishr hx hb dX8_lengthOf_28 ?_
          refine lv_iconst (v := nI 1) hx hb dX8_lengthOf_29 rfl ?_
          refine lv_iand hx hb dX8_lengthOf_30 ?_
          refine r_nat (lacN (ltF s k) / 2 ^ i % 2) (bit_nI (by have := lacN_lt (ltF s k); omega) (by omega)) ?_
          refine lv_iconst (v := nI 1) hx hb dX8_lengthOf_31 rfl ?_
          refine lv_ixor hx hb dX8_lengthOf_32 ?_
          refine r_nat (1 - lacN (ltF s k) / 2 ^ i % 2) (xor1 _ (by omega)) ?_
          refine lv_iadd hx hb dX8_lengthOf_33 ?_
          refine r_nat (a + (1 - lacN (ltF s k) / 2 ^ i % 2)) (nI_add _ _) ?_
          refine lv_istore_n (lv' := [(2, .int (nI (a + (1 - lacN (ltF s k) / 2 ^ i % 2)))), (0, .ref (ad q)), (1, .int (nI k)), (3, .int (nI i))]) hx hb dX8_lengthOf_34 rfl hl (by decide) rfl (fun ls hl => ?_)
          refine lv_iinc (v := nI (i + 1)) (lv' := [(3, .int (nI (i + 1))), (2, .int (nI (a + (1 - lacN (ltF s k) / 2 ^ i % 2)))), (0, .ref (ad q)), (1, .int (nI k))]) hx hb dX8_lengthOf_35 hl (k := 3) rfl (by rw [show Int32.ofInt 1 = nI 1 from rfl, nI_add]) (by decide) rfl (fun ls hl => ?_)
          refine lv_goto (tgt := 16) hx hb dX8_lengthOf_38 (by decide) ?_
          exact zih16 (a + (1 - lacN (ltF s k) / 2 ^ i % 2)) (i + 1) (by omega) (by omega) (by rw [ha, pcK]; have z1 := pcK_le (lacN (ltF s k)) i; omega) _ _ zw2 _ (lv_sub hl [2, 3, 1, 0] rfl)
    exact zlp16 _ 1 0 (Nat.lt_succ_self _) (by omega) (by first | (rw [if_pos zc5]; rfl) | (rw [if_neg zc5]; rfl)) _ _ zw1 _ (lv_sub hl [2, 3, 1, 0] rfl)
  · refine lv_iconst (v := nI 2) hx hb dX8_lengthOf_8 rfl ?_
    refine lv_goto (tgt := 13) hx hb dX8_lengthOf_9 (by decide) ?_
    refine lv_istore_n (lv' := [(2, .int (nI 2)), (0, .ref (ad q)), (1, .int (nI k))]) hx hb dX8_lengthOf_13 rfl hl (by decide) rfl (fun ls hl => ?_)
    refine lv_iconst (v := nI 0) hx hb dX8_lengthOf_14 rfl ?_
    refine lv_istore_n (lv' := [(3, .int (nI 0)), (2, .int (nI 2)), (0, .ref (ad q)), (1, .int (nI k))]) hx hb dX8_lengthOf_15 rfl hl (by decide) rfl (fun ls hl => ?_)
    have zlp16 : ∀ (zn : Nat) (a i : Nat), 5 - i < zn → (i ≤ 5) → (a = (if anyL (lkL s k) 4 then 2 else 1) + (i - pcK (lacN (ltF s k)) i)) → ∀ (H9 : Heap) (L9 : List Loc), Wd G A ss_.heap H9 L9 ad E N → ∀ (ls : Array Slot), lv_has ls 4 [(0, .ref (ad q)), (1, .int (nI k)), (2, .int (nI a)), (3, .int (nI i))] → W pp_ l ee_ ({ frames := 3, cells := 0, slots := 0, locals := 65 } : Room) ss_ mm_ aa_ bb_ me_ cc_ H9 L9 0 0 (QI bb_ aa_ ss_ G ad N A (fun r E2 => E2 = E ∧ r = nI (lenN (lkL s k) (ltF s k)))) (F0 mm_ 16 ls []) := by
      intro zn
      induction zn with
      | zero => intro a i zhm; exact absurd zhm (Nat.not_lt_zero _)
      | succ zn zih16 =>
        intro a i zhm16 hi ha zH_16 zL_16 zlw16 ls hl
        refine lv_iload_n hx hb dX8_lengthOf_16 rfl (lv_at hl 3 rfl) ?_
        refine lv_iconst (v := nI 5) hx hb dX8_lengthOf_17 rfl ?_
        refine n_icmp_ge (tgt := 41) hx hb dX8_lengthOf_18 (by decide) (by omega) (by omega) (fun zc18 => ?_) (fun zc18 => ?_)
        · refine lv_iload_n hx hb dX8_lengthOf_41 rfl (lv_at hl 2 rfl) ?_
          exact r_iret C zlw16 dX8_lengthOf_42 ⟨rfl, (by rw [ha, show i = 5 by omega, pcK_5 _ (lacN_lt _)]; rfl)⟩
        · refine lv_iload_n hx hb dX8_lengthOf_21 rfl (lv_at hl 2 rfl) ?_
          refine lv_aload_n hx hb dX8_lengthOf_22 rfl (lv_at hl 0 rfl) ?_
          refine lv_iload_n hx hb dX8_lengthOf_23 rfl (lv_at hl 1 rfl) ?_
          refine r_vI C zlw16 hl.1 (i := q) (by omega) hE0 (T := TX8) (n := 17) rfl [.int (nI k)] 1 rfl (c_X8_lacks (l := l) (G := G) (tC := tC) (ad := ad) (N := N) (E := E) (q := q) (co := co) (pm := pm) (em := em) (th := th) (se := se) (s := s) (k := k) (by omega) hE0 hE1 (by first | assumption | omega)) gX8_lengthOf_X8_lacks rfl ⟨rfl, rfl⟩ (by decide +kernel) ⟨Nat.le_of_ble_eq_true rfl, Nat.le_of_ble_eq_true rfl⟩ (rest := [.int (nI a)]) rfl (Nat.le_of_ble_eq_true rfl) dX8_lengthOf_24 ⟨Nat.zero_le _, Nat.zero_le _⟩ (fun zr3 zE3 zH3 zL3 zp3 zw3 => ?_)
          obtain ⟨ze3, zq3⟩ := zp3
          rw [ze3] at zw3
          clear ze3
          rw [zq3]
          refine lv_iload_n hx hb dX8_lengthOf_27 rfl (lv_at hl 3 rfl) ?_
          refine lv_ishr hx hb dX8_lengthOf_28 ?_
          refine lv_iconst (v := nI 1) hx hb dX8_lengthOf_29 rfl ?_
          refine lv_iand hx hb dX8_lengthOf_30 ?_
          refine r_nat (lacN (ltF s k) / 2 ^ i % 2) (bit_nI (by have := lacN_lt (ltF s k); omega) (by omega)) ?_
          refine lv_iconst (v := nI 1) hx hb dX8_lengthOf_31 rfl ?_
          refine lv_ixor hx hb dX8_lengthOf_32 ?_
          refine r_nat (1 - lacN (ltF s k) / 2 ^ i % 2) (xor1 _ (by omega)) ?_
          refine lv_iadd hx hb dX8_lengthOf_33 ?_
          refine r_nat (a + (1 - lacN (ltF s k) / 2 ^ i % 2)) (nI_add _ _) ?_
          refine lv_istore_n (lv' := [(2, .int (nI (a + (1 - lacN (ltF s k) / 2 ^ i % 2)))), (0, .ref (ad q)), (1, .int (nI k)), (3, .int (nI i))]) hx hb dX8_lengthOf_34 rfl hl (by decide) rfl (fun ls hl => ?_)
          refine lv_iinc (v := nI (i + 1)) (lv' := [(3, .int (nI (i + 1))), (2, .int (nI (a + (1 - lacN (ltF s k) / 2 ^ i % 2)))), (0, .ref (ad q)), (1, .int (nI k))]) hx hb dX8_lengthOf_35 hl (k := 3) rfl (by rw [show Int32.ofInt 1 = nI 1 from rfl, nI_add]) (by decide) rfl (fun ls hl => ?_)
          refine lv_goto (tgt := 16) hx hb dX8_lengthOf_38 (by decide) ?_
          exact zih16 (a + (1 - lacN (ltF s k) / 2 ^ i % 2)) (i + 1) (by omega) (by omega) (by rw [ha, pcK]; have z1 := pcK_le (lacN (ltF s k)) i; omega) _ _ zw3 _ (lv_sub hl [2, 3, 1, 0] rfl)
    exact zlp16 _ 2 0 (Nat.lt_succ_self _) (by omega) (by first | (rw [if_pos zc5]; rfl) | (rw [if_neg zc5]; rfl)) _ _ zw1 _ (lv_sub hl [2, 3, 1, 0] rfl)

set_option maxHeartbeats 4000000 in
set_option maxRecDepth 100000 in
theorem c_X8_sure {l : Launch} {G : vG} {tC : Nat} {ad : Nat → Nat} {N : Nat} {E : Nat → va_E} {q co pm em : Nat} {th : Int32} {se : Int64} {s : Nat → Int32} {k : Nat} (hN0 : q + 13 ≤ N) (hE0 : E q = .inr (5, [.int th, .ref (ad (q + 1)), .long se, .ref (ad (q + 2)), .ref (ad (q + 3)), .int (nI co), .ref (ad (q + 4)), .int (nI pm), .ref (ad (q + 5)), .ref (ad (q + 6)), .ref (ad (q + 7)), .ref (ad (q + 8)), .int (nI em), .ref (ad (q + 9)), .ref (ad (q + 10)), .ref (ad (q + 11)), .ref (ad (q + 12))])) (hE1 : E (q + 1) = eI G 508 s) (hk : k < 10) : MI l yX8_sure wsX8_sure ({ frames := 2, cells := 0, slots := 0, locals := 42 } : Room) G tC ad N E [.ref (ad q), .int (nI k)] (fun r E2 => E2 = E ∧ r = nI (surN (ltF s k) 40)) := by
  refine MI_of RX8 rfl (by decide) rfl (Nat.le_of_ble_eq_true rfl) ?_
  intro pp_ ee_ ss_ mm_ aa_ bb_ me_ cc_ A ls C hw hl
  have hx := C.1
  have hb := C.2.1
  have hown := C.2.2.2.2.1
  have hts := C.2.2.2.2.2.1
  have hl : lv_has ls 4 [(0, .ref (ad q)), (1, .int (nI k))] := hl
  refine lv_iconst (v := nI 0) hx hb dX8_sure_0 rfl ?_
  refine lv_istore_n (lv' := [(2, .int (nI 0)), (0, .ref (ad q)), (1, .int (nI k))]) hx hb dX8_sure_1 rfl hl (by decide) rfl (fun ls hl => ?_)
  refine lv_iconst (v := nI 0) hx hb dX8_sure_2 rfl ?_
  refine lv_istore_n (lv' := [(3, .int (nI 0)), (2, .int (nI 0)), (0, .ref (ad q)), (1, .int (nI k))]) hx hb dX8_sure_3 rfl hl (by decide) rfl (fun ls hl => ?_)
  have zlp4 : ∀ (zn : Nat) (i : Nat), 40 - i < zn → (i ≤ 40) → ∀ (H9 : Heap) (L9 : List Loc), Wd G A ss_.heap H9 L9 ad E N → ∀ (ls : Array Slot), lv_has ls 4 [(0, .ref (ad q)), (1, .int (nI k)), (2, .int (nI (surN (ltF s k) i))), (3, .int (nI i))] → W pp_ l ee_ ({ frames := 2, cells := 0, slots := 0, locals := 42 } : Room) ss_ mm_ aa_ bb_ me_ cc_ H9 L9 0 0 (QI bb_ aa_ ss_ G ad N A (fun r E2 => E2 = E ∧ r = nI (surN (ltF s k) 40))) (F0 mm_ 4 ls []) := by
    intro zn
    induction zn with
    | zero => intro i zhm; exact absurd zhm (Nat.not_lt_zero _)
    | succ zn zih4 =>
      intro i zhm4 hi zH_4 zL_4 zlw4 ls hl
      refine lv_iload_n hx hb dX8_sure_4 rfl (lv_at hl 3 rfl) ?_
      refine lv_bipush (v := nI 40) hx hb dX8_sure_5 rfl ?_
      refine n_icmp_ge (tgt := 44) hx hb dX8_sure_7 (by decide) (by omega) (by omega) (fun zc7 => ?_) (fun zc7 => ?_)
      · refine lv_iload_n hx hb dX8_sure_44 rfl (lv_at hl 2 rfl) ?_
        exact r_iret C zlw4 dX8_sure_45 ⟨rfl, (by rw [show i = 40 by omega])⟩
      · refine lv_iload_n hx hb dX8_sure_10 rfl (lv_at hl 2 rfl) ?_
        refine lv_aload_n hx hb dX8_sure_11 rfl (lv_at hl 0 rfl) ?_
        refine lv_iload_n hx hb dX8_sure_12 rfl (lv_at hl 1 rfl) ?_
        refine lv_bipush (v := nI 10) hx hb dX8_sure_13 rfl ?_
        refine lv_iload_n hx hb dX8_sure_15 rfl (lv_at hl 3 rfl) ?_
        refine lv_iadd hx hb dX8_sure_16 ?_
        refine r_nat (10 + i) (nI_add _ _) ?_
        refine r_vI C zlw4 hl.1 (i := q) (by omega) hE0 (T := TX8) (n := 17) rfl [.int (nI k), .int (nI (10 + i))] 2 rfl (c_X8_of (l := l) (G := G) (tC := tC) (ad := ad) (N := N) (E := E) (q := q) (co := co) (pm := pm) (em := em) (th := th) (se := se) (s := s) (k := k) (w := 10 + i) (by omega) hE0 hE1 (by first | assumption | omega)) gX8_sure_X8_of rfl ⟨rfl, rfl⟩ (by decide +kernel) ⟨Nat.le_of_ble_eq_true rfl, Nat.le_of_ble_eq_true rfl⟩ (rest := [.int (nI (surN (ltF s k) i))]) rfl (Nat.le_of_ble_eq_true rfl) dX8_sure_17 ⟨Nat.zero_le _, Nat.zero_le _⟩ (fun zr1 zE1 zH1 zL1 zp1 zw1 => ?_)
        obtain ⟨ze1, zq1⟩ := zp1
        rw [ze1] at zw1
        clear ze1
        rw [zq1]
        refine lv_i2l (v := (s (8 + 50 * k + (10 + i))).toInt64) hx hb dX8_sure_20 rfl ?_
        refine lv_lconst (v := (nI 0).toInt64) hx hb dX8_sure_21 (by decide) ?_
        refine lv_ldc2 (v := 127) hx hb hown (hts (.constantLong RX8 163 (127)) (by decide +kernel)) dX8_sure_22 ?_
        refine r_asL (nI 127).toInt64 (by decide) ?_
        refine r_sI C zw1 hl.1 [.long ((s (8 + 50 * k + (10 + i))).toInt64), .long ((nI 0).toInt64), .long ((nI 127).toInt64)] 3 rfl (c_X8_in (l := l) (G := G) (tC := tC) (ad := ad) (N := N) (E := E) (x := (s (8 + 50 * k + (10 + i)))) (a := (nI 0)) (b := (nI 127))   ) gX8_sure_X8_in rfl ⟨rfl, rfl⟩ (by decide +kernel) ⟨Nat.le_of_ble_eq_true rfl, Nat.le_of_ble_eq_true rfl⟩ (rest := [.int (nI (surN (ltF s k) i))]) rfl (Nat.le_of_ble_eq_true rfl) dX8_sure_25 ⟨Nat.zero_le _, Nat.zero_le _⟩ (fun zr2 zE2 zH2 zL2 zp2 zw2 => ?_)
        obtain ⟨ze2, zq2⟩ := zp2
        rw [ze2] at zw2
        clear ze2
        rw [zq2]
        refine b_if_eq (tgt := 35) hx hb dX8_sure_28 (by decide) (fun zc28 => ?_) (fun zc28 => ?_)
        · refine lv_iconst (v := nI 0) hx hb dX8_sure_35 rfl ?_
          refine lv_iadd hx hb dX8_sure_36 ?_
          refine r_nat (surN (ltF s k) i + 0) (nI_add _ _) ?_
          refine r_nat (surN (ltF s k) (i + 1)) (surN_n zc28) ?_
          refine lv_istore_n (lv' := [(2, .int (nI (surN (ltF s k) (i + 1)))), (0, .ref (ad q)), (1, .int (nI k)), (3, .int (nI i))]) hx hb dX8_sure_37 rfl hl (by decide) rfl (fun ls hl => ?_)
          refine lv_iinc (v := nI (i + 1)) (lv' := [(3, .int (nI (i + 1))), (2, .int (nI (surN (ltF s k) (i + 1)))), (0, .ref (ad q)), (1, .int (nI k))]) hx hb dX8_sure_38 hl (k := 3) rfl (by rw [show Int32.ofInt 1 = nI 1 from rfl, nI_add]) (by decide) rfl (fun ls hl => ?_)
          refine lv_goto (tgt := 4) hx hb dX8_sure_41 (by decide) ?_
          exact zih4 (i + 1) (by omega) (by omega) _ _ zw2 _ (lv_sub hl [2, 3, 1, 0] rfl)
        · refine lv_iconst (v := nI 1) hx hb dX8_sure_31 rfl ?_
          refine lv_goto (tgt := 36) hx hb dX8_sure_32 (by decide) ?_
          refine lv_iadd hx hb dX8_sure_36 ?_
          refine r_nat (surN (ltF s k) i + 1) (nI_add _ _) ?_
          refine r_nat (surN (ltF s k) (i + 1)) (surN_y zc28) ?_
          refine lv_istore_n (lv' := [(2, .int (nI (surN (ltF s k) (i + 1)))), (0, .ref (ad q)), (1, .int (nI k)), (3, .int (nI i))]) hx hb dX8_sure_37 rfl hl (by decide) rfl (fun ls hl => ?_)
          refine lv_iinc (v := nI (i + 1)) (lv' := [(3, .int (nI (i + 1))), (2, .int (nI (surN (ltF s k) (i + 1)))), (0, .ref (ad q)), (1, .int (nI k))]) hx hb dX8_sure_38 hl (k := 3) rfl (by rw [show Int32.ofInt 1 = nI 1 from rfl, nI_add]) (by decide) rfl (fun ls hl => ?_)
          refine lv_goto (tgt := 4) hx hb dX8_sure_41 (by decide) ?_
          exact zih4 (i + 1) (by omega) (by omega) _ _ zw2 _ (lv_sub hl [2, 3, 1, 0] rfl)
  exact zlp4 _ 0 (Nat.lt_succ_self _) (by omega) _ _ hw _ (lv_sub hl [2, 3, 1, 0] rfl)

set_option maxHeartbeats 4000000 in
set_option maxRecDepth 100000 in
theorem c_X8_linked {l : Launch} {G : vG} {tC : Nat} {ad : Nat → Nat} {N : Nat} {E : Nat → va_E} {q co pm em : Nat} {th : Int32} {se : Int64} {pg : Nat} {s : Nat → Int32} {k : Nat} (hN0 : q + 13 ≤ N) (hE0 : E q = .inr (5, [.int th, .ref (ad (q + 1)), .long se, .ref (ad (q + 2)), .ref (ad (q + 3)), .int (nI co), .ref (ad (q + 4)), .int (nI pm), .ref (ad (q + 5)), .ref (ad (q + 6)), .ref (ad (q + 7)), .ref (ad (q + 8)), .int (nI em), .ref (ad (q + 9)), .ref (ad (q + 10)), .ref (ad (q + 11)), .ref (ad (q + 12))])) (hE1 : E (q + 1) = eI G 508 s) (hs0 : s 0 = nI pg) (hpg : pg ≤ 10) (hk : k < 10) : MI l yX8_linked wsX8_linked ({ frames := 2, cells := 0, slots := 0, locals := 42 } : Room) G tC ad N E [.ref (ad q), .int (nI k)] (fun r E2 => E2 = E ∧ r = lkd s k pg) := by
  refine MI_of RX8 rfl (by decide) rfl (Nat.le_of_ble_eq_true rfl) ?_
  intro pp_ ee_ ss_ mm_ aa_ bb_ me_ cc_ A ls C hw hl
  have hx := C.1
  have hb := C.2.1
  have hown := C.2.2.2.2.1
  have hts := C.2.2.2.2.2.1
  have hl : lv_has ls 5 [(0, .ref (ad q)), (1, .int (nI k))] := hl
  have hinX8 : ∀ w ∈ u_ws RX8 TX8 17, w ∈ wsX8_linked := by decide +kernel
  refine lv_iconst (v := nI 0) hx hb dX8_linked_0 rfl ?_
  refine lv_istore_n (lv' := [(2, .int (nI 0)), (0, .ref (ad q)), (1, .int (nI k))]) hx hb dX8_linked_1 rfl hl (by decide) rfl (fun ls hl => ?_)
  refine lv_iconst (v := nI 0) hx hb dX8_linked_2 rfl ?_
  refine lv_istore_n (lv' := [(3, .int (nI 0)), (2, .int (nI 0)), (0, .ref (ad q)), (1, .int (nI k))]) hx hb dX8_linked_3 rfl hl (by decide) rfl (fun ls hl => ?_)
  have zlp4 : ∀ (zn : Nat) (o : Nat) (x4 : Int32), pg - o < zn → (o ≤ pg) → (x4 = lkd s k o) → ∀ (H9 : Heap) (L9 : List Loc), Wd G A ss_.heap H9 L9 ad E N → ∀ (ls : Array Slot), lv_has ls 5 [(0, .ref (ad q)), (1, .int (nI k)), (2, .int x4), (3, .int (nI o))] → W pp_ l ee_ ({ frames := 2, cells := 0, slots := 0, locals := 42 } : Room) ss_ mm_ aa_ bb_ me_ cc_ H9 L9 0 0 (QI bb_ aa_ ss_ G ad N A (fun r E2 => E2 = E ∧ r = lkd s k pg)) (F0 mm_ 4 ls []) := by
    intro zn
    induction zn with
    | zero => intro o x4 zhm; exact absurd zhm (Nat.not_lt_zero _)
    | succ zn zih4 =>
      intro o x4 zhm4 ho hx4 zH_4 zL_4 zlw4 ls hl
      refine lv_iload_n hx hb dX8_linked_4 rfl (lv_at hl 3 rfl) ?_
      refine lv_aload_n hx hb dX8_linked_5 rfl (lv_at hl 0 rfl) ?_
      refine r_get C zlw4 RX8 TX8 17 5 hinX8 (i := q) (by omega) hE0 rfl 1 (by decide) (by decide +kernel) rfl (v := .ref (ad (q + 1))) rfl dX8_linked_6 ?_
      refine lv_iconst (v := nI 0) hx hb dX8_linked_9 rfl ?_
      refine r_iaN C zlw4 (i := (q + 1)) (by omega) hE1 (j := 0) (by omega) (by omega) dX8_linked_10 ?_
      refine r_nat pg hs0 ?_
      refine n_icmp_ge (tgt := 79) hx hb dX8_linked_11 (by decide) (by omega) (by omega) (fun zc11 => ?_) (fun zc11 => ?_)
      · refine lv_iload_n hx hb dX8_linked_79 rfl (lv_at hl 2 rfl) ?_
        exact r_iret C zlw4 dX8_linked_80 ⟨rfl, (by rw [hx4, show o = pg by omega])⟩
      · refine lv_iconst (v := nI 0) hx hb dX8_linked_14 rfl ?_
        refine lv_istore (lv' := [(4, .int (nI 0)), (0, .ref (ad q)), (1, .int (nI k)), (2, .int x4), (3, .int (nI o))]) hx hb dX8_linked_15 hl (by decide) rfl (fun ls hl => ?_)
        have zlp17 : ∀ (zn : Nat) (j : Nat) (x17 : Int32), 4 - j < zn → (j ≤ 4) → (x17 = inI (lkL s k) (s (8 + 50 * o + 1)) (s (8 + 50 * k + 0) = s (8 + 50 * o + 0)) (lkd s k o) (bitI o) j) → ∀ (H9 : Heap) (L9 : List Loc), Wd G A ss_.heap H9 L9 ad E N → ∀ (ls : Array Slot), lv_has ls 5 [(0, .ref (ad q)), (1, .int (nI k)), (2, .int x17), (3, .int (nI o)), (4, .int (nI j))] → W pp_ l ee_ ({ frames := 2, cells := 0, slots := 0, locals := 42 } : Room) ss_ mm_ aa_ bb_ me_ cc_ H9 L9 0 0 (QI bb_ aa_ ss_ G ad N A (fun r E2 => E2 = E ∧ r = lkd s k pg)) (F0 mm_ 17 ls []) := by
          intro zn
          induction zn with
          | zero => intro j x17 zhm; exact absurd zhm (Nat.not_lt_zero _)
          | succ zn zih17 =>
            intro j x17 zhm17 hj hx17 zH_17 zL_17 zlw17 ls hl
            refine lv_iload hx hb dX8_linked_17 (lv_at hl 4 rfl) ?_
            refine lv_iconst (v := nI 4) hx hb dX8_linked_19 rfl ?_
            refine n_icmp_ge (tgt := 73) hx hb dX8_linked_20 (by decide) (by omega) (by omega) (fun zc20 => ?_) (fun zc20 => ?_)
            · refine lv_iinc (v := nI (o + 1)) (lv' := [(3, .int (nI (o + 1))), (0, .ref (ad q)), (1, .int (nI k)), (2, .int x17), (4, .int (nI j))]) hx hb dX8_linked_73 hl (k := 3) rfl (by rw [show Int32.ofInt 1 = nI 1 from rfl, nI_add]) (by decide) rfl (fun ls hl => ?_)
              refine lv_goto (tgt := 4) hx hb dX8_linked_76 (by decide) ?_
              exact zih4 (o + 1) x17 (by omega) (by omega) (by rw [hx17, show j = 4 by omega]; exact lkd_s _ _ _) _ _ zlw17 _ (lv_sub hl [1, 2, 3, 0] rfl)
            · refine lv_iload_n hx hb dX8_linked_23 rfl (lv_at hl 2 rfl) ?_
              refine lv_aload_n hx hb dX8_linked_24 rfl (lv_at hl 0 rfl) ?_
              refine lv_iload_n hx hb dX8_linked_25 rfl (lv_at hl 1 rfl) ?_
              refine lv_bipush (v := nI 6) hx hb dX8_linked_26 rfl ?_
              refine lv_iload hx hb dX8_linked_28 (lv_at hl 4 rfl) ?_
              refine lv_iadd hx hb dX8_linked_30 ?_
              refine r_nat (6 + j) (nI_add _ _) ?_
              refine r_vI C zlw17 hl.1 (i := q) (by omega) hE0 (T := TX8) (n := 17) rfl [.int (nI k), .int (nI (6 + j))] 2 rfl (c_X8_of (l := l) (G := G) (tC := tC) (ad := ad) (N := N) (E := E) (q := q) (co := co) (pm := pm) (em := em) (th := th) (se := se) (s := s) (k := k) (w := 6 + j) (by omega) hE0 hE1 (by first | assumption | omega)) gX8_linked_X8_of rfl ⟨rfl, rfl⟩ (by decide +kernel) ⟨Nat.le_of_ble_eq_true rfl, Nat.le_of_ble_eq_true rfl⟩ (rest := [.int x17]) rfl (Nat.le_of_ble_eq_true rfl) dX8_linked_31 ⟨Nat.zero_le _, Nat.zero_le _⟩ (fun zr1 zE1 zH1 zL1 zp1 zw1 => ?_)
              obtain ⟨ze1, zq1⟩ := zp1
              rw [ze1] at zw1
              clear ze1
              rw [zq1]
              refine lv_aload_n hx hb dX8_linked_34 rfl (lv_at hl 0 rfl) ?_
              refine lv_iload_n hx hb dX8_linked_35 rfl (lv_at hl 3 rfl) ?_
              refine lv_iconst (v := nI 1) hx hb dX8_linked_36 rfl ?_
              refine r_vI C zw1 hl.1 (i := q) (by omega) hE0 (T := TX8) (n := 17) rfl [.int (nI o), .int (nI 1)] 2 rfl (c_X8_of (l := l) (G := G) (tC := tC) (ad := ad) (N := N) (E := E) (q := q) (co := co) (pm := pm) (em := em) (th := th) (se := se) (s := s) (k := o) (w := 1) (by omega) hE0 hE1 (by first | assumption | omega)) gX8_linked_X8_of rfl ⟨rfl, rfl⟩ (by decide +kernel) ⟨Nat.le_of_ble_eq_true rfl, Nat.le_of_ble_eq_true rfl⟩ (rest := [.int (s (8 + 50 * k + (6 + j))), .int x17]) rfl (Nat.le_of_ble_eq_true rfl) dX8_linked_37 ⟨Nat.zero_le _, Nat.zero_le _⟩ (fun zr2 zE2 zH2 zL2 zp2 zw2 => ?_)
              obtain ⟨ze2, zq2⟩ := zp2
              rw [ze2] at zw2
              clear ze2
              rw [zq2]
              refine lv_icmp_ne (tgt := 64) hx hb dX8_linked_40 (by decide) (fun zc40 => ?_) (fun zc40 => ?_)
              · refine lv_iconst (v := nI 0) hx hb dX8_linked_64 rfl ?_
                refine lv_ior hx hb dX8_linked_65 ?_
                refine lv_istore_n (lv' := [(2, .int (x17 ||| (nI 0))), (0, .ref (ad q)), (1, .int (nI k)), (3, .int (nI o)), (4, .int (nI j))]) hx hb dX8_linked_66 rfl hl (by decide) rfl (fun ls hl => ?_)
                refine lv_iinc (v := nI (j + 1)) (lv' := [(4, .int (nI (j + 1))), (2, .int (x17 ||| (nI 0))), (0, .ref (ad q)), (1, .int (nI k)), (3, .int (nI o))]) hx hb dX8_linked_67 hl (k := 4) rfl (by rw [show Int32.ofInt 1 = nI 1 from rfl, nI_add]) (by decide) rfl (fun ls hl => ?_)
                refine lv_goto (tgt := 17) hx hb dX8_linked_70 (by decide) ?_
                exact zih17 (j + 1) (x17 ||| (nI 0)) (by omega) (by omega) (by rw [hx17]; first | exact inI_y ⟨zc40, zc55⟩ | exact inI_n (fun zq => zc55 zq.2) | exact inI_n (fun zq => zc40 zq.1)) _ _ zw2 _ (lv_sub hl [2, 3, 1, 4, 0] rfl)
              · refine lv_aload_n hx hb dX8_linked_43 rfl (lv_at hl 0 rfl) ?_
                refine lv_iload_n hx hb dX8_linked_44 rfl (lv_at hl 1 rfl) ?_
                refine lv_iconst (v := nI 0) hx hb dX8_linked_45 rfl ?_
                refine r_vI C zw2 hl.1 (i := q) (by omega) hE0 (T := TX8) (n := 17) rfl [.int (nI k), .int (nI 0)] 2 rfl (c_X8_of (l := l) (G := G) (tC := tC) (ad := ad) (N := N) (E := E) (q := q) (co := co) (pm := pm) (em := em) (th := th) (se := se) (s := s) (k := k) (w := 0) (by omega) hE0 hE1 (by first | assumption | omega)) gX8_linked_X8_of rfl ⟨rfl, rfl⟩ (by decide +kernel) ⟨Nat.le_of_ble_eq_true rfl, Nat.le_of_ble_eq_true rfl⟩ (rest := [.int x17]) rfl (Nat.le_of_ble_eq_true rfl) dX8_linked_46 ⟨Nat.zero_le _, Nat.zero_le _⟩ (fun zr3 zE3 zH3 zL3 zp3 zw3 => ?_)
                obtain ⟨ze3, zq3⟩ := zp3
                rw [ze3] at zw3
                clear ze3
                rw [zq3]
                refine lv_aload_n hx hb dX8_linked_49 rfl (lv_at hl 0 rfl) ?_
                refine lv_iload_n hx hb dX8_linked_50 rfl (lv_at hl 3 rfl) ?_
                refine lv_iconst (v := nI 0) hx hb dX8_linked_51 rfl ?_
                refine r_vI C zw3 hl.1 (i := q) (by omega) hE0 (T := TX8) (n := 17) rfl [.int (nI o), .int (nI 0)] 2 rfl (c_X8_of (l := l) (G := G) (tC := tC) (ad := ad) (N := N) (E := E) (q := q) (co := co) (pm := pm) (em := em) (th := th) (se := se) (s := s) (k := o) (w := 0) (by omega) hE0 hE1 (by first | assumption | omega)) gX8_linked_X8_of rfl ⟨rfl, rfl⟩ (by decide +kernel) ⟨Nat.le_of_ble_eq_true rfl, Nat.le_of_ble_eq_true rfl⟩ (rest := [.int (s (8 + 50 * k + 0)), .int x17]) rfl (Nat.le_of_ble_eq_true rfl) dX8_linked_52 ⟨Nat.zero_le _, Nat.zero_le _⟩ (fun zr4 zE4 zH4 zL4 zp4 zw4 => ?_)
                obtain ⟨ze4, zq4⟩ := zp4
                rw [ze4] at zw4
                clear ze4
                rw [zq4]
                refine lv_icmp_ne (tgt := 64) hx hb dX8_linked_55 (by decide) (fun zc55 => ?_) (fun zc55 => ?_)
                · refine lv_iconst (v := nI 0) hx hb dX8_linked_64 rfl ?_
                  refine lv_ior hx hb dX8_linked_65 ?_
                  refine lv_istore_n (lv' := [(2, .int (x17 ||| (nI 0))), (0, .ref (ad q)), (1, .int (nI k)), (3, .int (nI o)), (4, .int (nI j))]) hx hb dX8_linked_66 rfl hl (by decide) rfl (fun ls hl => ?_)
                  refine lv_iinc (v := nI (j + 1)) (lv' := [(4, .int (nI (j + 1))), (2, .int (x17 ||| (nI 0))), (0, .ref (ad q)), (1, .int (nI k)), (3, .int (nI o))]) hx hb dX8_linked_67 hl (k := 4) rfl (by rw [show Int32.ofInt 1 = nI 1 from rfl, nI_add]) (by decide) rfl (fun ls hl => ?_)
                  refine lv_goto (tgt := 17) hx hb dX8_linked_70 (by decide) ?_
                  exact zih17 (j + 1) (x17 ||| (nI 0)) (by omega) (by omega) (by rw [hx17]; first | exact inI_y ⟨zc40, zc55⟩ | exact inI_n (fun zq => zc55 zq.2) | exact inI_n (fun zq => zc40 zq.1)) _ _ zw4 _ (lv_sub hl [2, 3, 1, 4, 0] rfl)
                · refine lv_iconst (v := nI 1) hx hb dX8_linked_58 rfl ?_
                  refine lv_iload_n hx hb dX8_linked_59 rfl (lv_at hl 3 rfl) ?_
                  refine lv_ishl hx hb dX8_linked_60 ?_
                  refine lv_goto (tgt := 65) hx hb dX8_linked_61 (by decide) ?_
                  refine lv_ior hx hb dX8_linked_65 ?_
                  refine lv_istore_n (lv' := [(2, .int (x17 ||| ((nI 1) <<< (nI o &&& 31)))), (0, .ref (ad q)), (1, .int (nI k)), (3, .int (nI o)), (4, .int (nI j))]) hx hb dX8_linked_66 rfl hl (by decide) rfl (fun ls hl => ?_)
                  refine lv_iinc (v := nI (j + 1)) (lv' := [(4, .int (nI (j + 1))), (2, .int (x17 ||| ((nI 1) <<< (nI o &&& 31)))), (0, .ref (ad q)), (1, .int (nI k)), (3, .int (nI o))]) hx hb dX8_linked_67 hl (k := 4) rfl (by rw [show Int32.ofInt 1 = nI 1 from rfl, nI_add]) (by decide) rfl (fun ls hl => ?_)
                  refine lv_goto (tgt := 17) hx hb dX8_linked_70 (by decide) ?_
                  exact zih17 (j + 1) (x17 ||| ((nI 1) <<< (nI o &&& 31))) (by omega) (by omega) (by rw [hx17]; first | exact inI_y ⟨zc40, zc55⟩ | exact inI_n (fun zq => zc55 zq.2) | exact inI_n (fun zq => zc40 zq.1)) _ _ zw4 _ (lv_sub hl [2, 3, 1, 4, 0] rfl)
        exact zlp17 _ 0 x4 (Nat.lt_succ_self _) (by omega) (by rw [hx4]; exact inI_0.symm) _ _ zlw4 _ (lv_sub hl [1, 2, 3, 4, 0] rfl)
  exact zlp4 _ 0 (nI 0) (Nat.lt_succ_self _) (by omega) (by rfl) _ _ hw _ (lv_sub hl [2, 3, 1, 0] rfl)

