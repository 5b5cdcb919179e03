set_option maxHeartbeats 4000000 in
set_option maxRecDepth 100000 in
theorem c_X8_notes {l : Launch} {G : vG} {tC : Nat} {ad : Nat → Nat} {N : Nat} {E : Nat → va_E} {q co pm em : Nat} {th : Int32} {se : Int64} {s pa : Nat → Int32} (hN0 : q + 13 ≤ N) (hE0 : E q = .inr (5, [.int th, .ref (ad (q + 1)), .long se, .ref (ad (q + 2)), .ref (ad (q + 3)), .int (nI co), .ref (ad (q + 4)), .int (nI pm), .ref (ad (q + 5)), .ref (ad (q + 6)), .ref (ad (q + 7)), .ref (ad (q + 8)), .int (nI em), .ref (ad (q + 9)), .ref (ad (q + 10)), .ref (ad (q + 11)), .ref (ad (q + 12))])) (hE1 : E (q + 1) = eI G 508 s) (hE2 : E (q + 4) = eI G 8128 pa) (hpm : pm ≤ 16) : MV l yX8_notes wsX8_notes ({ frames := 0, cells := 0, slots := 0, locals := 0 } : Room) G tC ad N E [.ref (ad q)] (fun E2 => E2 q = .inr (5, [.int th, .ref (ad (q + 1)), .long se, .ref (ad (q + 2)), .ref (ad (q + 3)), .int (nI co), .ref (ad (q + 4)), .int (nI (ntK pm + 1)), .ref (ad (q + 5)), .ref (ad (q + 6)), .ref (ad (q + 7)), .ref (ad (q + 8)), .int (nI em), .ref (ad (q + 9)), .ref (ad (q + 10)), .ref (ad (q + 11)), .ref (ad (q + 12))]) ∧ E2 (q + 4) = eI G 8128 (ntF pa pm s) ∧ (∀ j, j ≠ q → j ≠ (q + 4) → E2 j = E j)) := by
  refine MV_of RX8 rfl (by decide) rfl (Nat.le_of_ble_eq_true rfl) ?_
  intro pp_ ee_ ss_ mm_ aa_ bb_ me_ cc_ A ls C hw hl
  have hx := C.1
  have hb := C.2.1
  have hown := C.2.2.2.2.1
  have hts := C.2.2.2.2.2.1
  have hl : lv_has ls 2 [(0, .ref (ad q))] := hl
  have hinX8 : ∀ w ∈ u_ws RX8 TX8 17, w ∈ wsX8_notes := by decide +kernel
  refine lv_aload_n hx hb dX8_notes_0 rfl (lv_at hl 0 rfl) ?_
  refine r_get C hw RX8 TX8 17 5 hinX8 (i := q) (by omega) hE0 rfl 7 (by decide) (by decide +kernel) rfl (v := .int (nI pm)) rfl dX8_notes_1 ?_
  refine lv_bipush (v := nI 16) hx hb dX8_notes_4 rfl ?_
  refine n_icmp_ne (tgt := 46) hx hb dX8_notes_6 (by decide) (by omega) (by omega) (fun zc6 => ?_) (fun zc6 => ?_)
  · refine lv_iconst (v := nI 0) hx hb dX8_notes_46 rfl ?_
    refine lv_istore_n (lv' := [(1, .int (nI 0)), (0, .ref (ad q))]) hx hb dX8_notes_47 rfl hl (by decide) rfl (fun ls hl => ?_)
    have zlp48 : ∀ (zn : Nat) (i : Nat) (g : Nat → Int32), 508 - i < zn → (i ≤ 508) → (g = va_cpy s (ntB pa pm) 0 (508 * ntK pm) i) → ∀ (E9 : Nat → va_E) (H9 : Heap) (L9 : List Loc), E9 q = .inr (5, [.int th, .ref (ad (q + 1)), .long se, .ref (ad (q + 2)), .ref (ad (q + 3)), .int (nI co), .ref (ad (q + 4)), .int (nI pm), .ref (ad (q + 5)), .ref (ad (q + 6)), .ref (ad (q + 7)), .ref (ad (q + 8)), .int (nI em), .ref (ad (q + 9)), .ref (ad (q + 10)), .ref (ad (q + 11)), .ref (ad (q + 12))]) → E9 (q + 1) = eI G 508 s → E9 (q + 4) = eI G 8128 g → (∀ j, j ≠ (q + 4) → E9 j = E j) → Wd G A ss_.heap H9 L9 ad E9 N → ∀ (ls : Array Slot), lv_has ls 2 [(0, .ref (ad q)), (1, .int (nI i))] → W pp_ l ee_ ({ frames := 0, cells := 0, slots := 0, locals := 0 } : Room) ss_ mm_ aa_ bb_ me_ cc_ H9 L9 0 0 (QV bb_ aa_ ss_ G ad N A (fun E2 => E2 q = .inr (5, [.int th, .ref (ad (q + 1)), .long se, .ref (ad (q + 2)), .ref (ad (q + 3)), .int (nI co), .ref (ad (q + 4)), .int (nI (ntK pm + 1)), .ref (ad (q + 5)), .ref (ad (q + 6)), .ref (ad (q + 7)), .ref (ad (q + 8)), .int (nI em), .ref (ad (q + 9)), .ref (ad (q + 10)), .ref (ad (q + 11)), .ref (ad (q + 12))]) ∧ E2 (q + 4) = eI G 8128 (ntF pa pm s) ∧ (∀ j, j ≠ q → j ≠ (q + 4) → E2 j = E j))) (F0 mm_ 48 ls []) := by
      intro zn
      induction zn with
      | zero => intro i g zhm; exact absurd zhm (Nat.not_lt_zero _)
      | succ zn zih48 =>
        intro i g zhm48 hi hg zE_48 zH_48 zL_48 zl48_0 zl48_1 zl48_2 zlf48  zlw48 ls hl
        refine lv_iload_n hx hb dX8_notes_48 rfl (lv_at hl 1 rfl) ?_
        refine lv_sipush (v := nI 508) hx hb dX8_notes_49 rfl ?_
        refine n_icmp_ge (tgt := 82) hx hb dX8_notes_52 (by decide) (by omega) (by omega) (fun zc52 => ?_) (fun zc52 => ?_)
        · refine lv_aload_n hx hb dX8_notes_82 rfl (lv_at hl 0 rfl) ?_
          refine lv_dup hx hb dX8_notes_83 rfl ?_
          refine r_get C zlw48 RX8 TX8 17 5 hinX8 (i := q) (by omega) zl48_0 rfl 7 (by decide) (by decide +kernel) rfl (v := .int (nI pm)) rfl dX8_notes_84 ?_
          refine lv_iconst (v := nI 1) hx hb dX8_notes_87 rfl ?_
          refine lv_iadd hx hb dX8_notes_88 ?_
          refine r_nat (pm + 1) (nI_add _ _) ?_
          refine r_put C zlw48 RX8 TX8 17 5 hinX8 tyX8 tyX8_ok nmX8 (i := q) (by omega) zl48_0 rfl 7 (by decide) (by decide +kernel) rfl rfl (v := .int (nI (pm + 1))) rfl rfl (Nat.le_of_ble_eq_true rfl) dX8_notes_89 (fun zE1 zH1 zL1 zg1 zf1 zw1 => ?_)
          have zh1_0 : zE1 q = .inr (5, [.int th, .ref (ad (q + 1)), .long se, .ref (ad (q + 2)), .ref (ad (q + 3)), .int (nI co), .ref (ad (q + 4)), .int (nI (pm + 1)), .ref (ad (q + 5)), .ref (ad (q + 6)), .ref (ad (q + 7)), .ref (ad (q + 8)), .int (nI em), .ref (ad (q + 9)), .ref (ad (q + 10)), .ref (ad (q + 11)), .ref (ad (q + 12))]) := zg1
          have zk1_0 : zE1 (q + 1) = eI G 508 s := (zf1 _ (by omega)).trans zl48_1
          have zk1_1 : zE1 (q + 4) = eI G 8128 g := (zf1 _ (by omega)).trans zl48_2
          have zfr1 : ∀ j, j ≠ (q + 4) → j ≠ q → zE1 j = E j := fun j zm0 zm1 => (zf1 j zm1).trans (zlf48 j zm0)
          exact r_vret C zw1 dX8_notes_92 ⟨(zh1_0.trans (by rw [ntK]; first | rw [if_pos zc6] | rw [if_neg zc6])), (zk1_1.trans (by rw [hg, show i = 508 by omega]; rfl)), (fun j zm0 zm1 => zfr1 j zm1 zm0)⟩
        · refine lv_aload_n hx hb dX8_notes_55 rfl (lv_at hl 0 rfl) ?_
          refine r_get C zlw48 RX8 TX8 17 5 hinX8 (i := q) (by omega) zl48_0 rfl 6 (by decide) (by decide +kernel) rfl (v := .ref (ad (q + 4))) rfl dX8_notes_56 ?_
          refine lv_sipush (v := nI 508) hx hb dX8_notes_59 rfl ?_
          refine lv_aload_n hx hb dX8_notes_62 rfl (lv_at hl 0 rfl) ?_
          refine r_get C zlw48 RX8 TX8 17 5 hinX8 (i := q) (by omega) zl48_0 rfl 7 (by decide) (by decide +kernel) rfl (v := .int (nI pm)) rfl dX8_notes_63 ?_
          refine lv_imul hx hb dX8_notes_66 ?_
          refine r_nat (508 * pm) (pk_mul _ _) ?_
          refine lv_iload_n hx hb dX8_notes_67 rfl (lv_at hl 1 rfl) ?_
          refine lv_iadd hx hb dX8_notes_68 ?_
          refine r_nat (508 * pm + i) (nI_add _ _) ?_
          refine lv_aload_n hx hb dX8_notes_69 rfl (lv_at hl 0 rfl) ?_
          refine r_get C zlw48 RX8 TX8 17 5 hinX8 (i := q) (by omega) zl48_0 rfl 1 (by decide) (by decide +kernel) rfl (v := .ref (ad (q + 1))) rfl dX8_notes_70 ?_
          refine lv_iload_n hx hb dX8_notes_73 rfl (lv_at hl 1 rfl) ?_
          refine r_iaN C zlw48 (i := (q + 1)) (by omega) zl48_1 (j := i) (by omega) (by omega) dX8_notes_74 ?_
          refine r_iasN C zlw48 (i := (q + 4)) (by omega) zl48_2 (j := 508 * pm + i) (by omega) (by omega) dX8_notes_75 (fun zE2 zH2 zL2 zg2 zf2 zw2 => ?_)
          have zh2_0 : zE2 (q + 4) = eI G 8128 (upd g (508 * pm + i) (s i)) := zg2
          have zk2_0 : zE2 q = .inr (5, [.int th, .ref (ad (q + 1)), .long se, .ref (ad (q + 2)), .ref (ad (q + 3)), .int (nI co), .ref (ad (q + 4)), .int (nI pm), .ref (ad (q + 5)), .ref (ad (q + 6)), .ref (ad (q + 7)), .ref (ad (q + 8)), .int (nI em), .ref (ad (q + 9)), .ref (ad (q + 10)), .ref (ad (q + 11)), .ref (ad (q + 12))]) := (zf2 _ (by omega)).trans zl48_0
          have zk2_1 : zE2 (q + 1) = eI G 508 s := (zf2 _ (by omega)).trans zl48_1
          have zfr2 : ∀ j, j ≠ (q + 4) → zE2 j = E j := fun j zm0 => (zf2 j zm0).trans (zlf48 j zm0)
          refine lv_iinc (v := nI (i + 1)) (lv' := [(1, .int (nI (i + 1))), (0, .ref (ad q))]) hx hb dX8_notes_76 hl (k := 1) rfl (by rw [show Int32.ofInt 1 = nI 1 from rfl, nI_add]) (by decide) rfl (fun ls hl => ?_)
          refine lv_goto (tgt := 48) hx hb dX8_notes_79 (by decide) ?_
          exact zih48 (i + 1) (upd g (508 * pm + i) (s i)) (by omega) (by omega) (by rw [hg]; have zc9 := cpy_s s (ntB pa pm) 0 (508 * ntK pm) i; rw [Nat.zero_add] at zc9; first | exact zc9 | (rw [ntK, if_pos zc6] at zc9 ⊢; exact zc9) | (rw [ntK, if_neg zc6] at zc9 ⊢; exact zc9)) _ _ _ zk2_0 zk2_1 zh2_0 (fun j zm0 => zfr2 j zm0) zw2 _ (lv_sub hl [1, 0] rfl)
    exact zlp48 _ 0 pa (Nat.lt_succ_self _) (by omega) (by rw [cpy_0, ntB]; first | (rw [if_pos zc6, hg, show i = 7620 by omega]) | (rw [if_neg zc6])) _ _ _ hE0 hE1 hE2 (fun j _ => rfl) hw _ (lv_sub hl [1, 0] rfl)
  · refine lv_iconst (v := nI 0) hx hb dX8_notes_9 rfl ?_
    refine lv_istore_n (lv' := [(1, .int (nI 0)), (0, .ref (ad q))]) hx hb dX8_notes_10 rfl hl (by decide) rfl (fun ls hl => ?_)
    have zlp11 : ∀ (zn : Nat) (i : Nat) (g : Nat → Int32), 7620 - i < zn → (i ≤ 7620) → (g = va_cpy pa pa 508 0 i) → ∀ (E9 : Nat → va_E) (H9 : Heap) (L9 : List Loc), E9 q = .inr (5, [.int th, .ref (ad (q + 1)), .long se, .ref (ad (q + 2)), .ref (ad (q + 3)), .int (nI co), .ref (ad (q + 4)), .int (nI pm), .ref (ad (q + 5)), .ref (ad (q + 6)), .ref (ad (q + 7)), .ref (ad (q + 8)), .int (nI em), .ref (ad (q + 9)), .ref (ad (q + 10)), .ref (ad (q + 11)), .ref (ad (q + 12))]) → E9 (q + 1) = eI G 508 s → E9 (q + 4) = eI G 8128 g → (∀ j, j ≠ (q + 4) → E9 j = E j) → Wd G A ss_.heap H9 L9 ad E9 N → ∀ (ls : Array Slot), lv_has ls 2 [(0, .ref (ad q)), (1, .int (nI i))] → W pp_ l ee_ ({ frames := 0, cells := 0, slots := 0, locals := 0 } : Room) ss_ mm_ aa_ bb_ me_ cc_ H9 L9 0 0 (QV bb_ aa_ ss_ G ad N A (fun E2 => E2 q = .inr (5, [.int th, .ref (ad (q + 1)), .long se, .ref (ad (q + 2)), .ref (ad (q + 3)), .int (nI co), .ref (ad (q + 4)), .int (nI (ntK pm + 1)), .ref (ad (q + 5)), .ref (ad (q + 6)), .ref (ad (q + 7)), .ref (ad (q + 8)), .int (nI em), .ref (ad (q + 9)), .ref (ad (q + 10)), .ref (ad (q + 11)), .ref (ad (q + 12))]) ∧ E2 (q + 4) = eI G 8128 (ntF pa pm s) ∧ (∀ j, j ≠ q → j ≠ (q + 4) → E2 j = E j))) (F0 mm_ 11 ls []) := by
      intro zn
      induction zn with
      | zero => intro i g zhm; exact absurd zhm (Nat.not_lt_zero _)
      | succ zn zih11 =>
        intro i g zhm11 hi hg zE_11 zH_11 zL_11 zl11_0 zl11_1 zl11_2 zlf11  zlw11 ls hl
        refine lv_iload_n hx hb dX8_notes_11 rfl (lv_at hl 1 rfl) ?_
        refine lv_sipush (v := nI 7620) hx hb dX8_notes_12 rfl ?_
        refine n_icmp_ge (tgt := 40) hx hb dX8_notes_15 (by decide) (by omega) (by omega) (fun zc15 => ?_) (fun zc15 => ?_)
        · refine lv_aload_n hx hb dX8_notes_40 rfl (lv_at hl 0 rfl) ?_
          refine lv_bipush (v := nI 15) hx hb dX8_notes_41 rfl ?_
          refine r_put C zlw11 RX8 TX8 17 5 hinX8 tyX8 tyX8_ok nmX8 (i := q) (by omega) zl11_0 rfl 7 (by decide) (by decide +kernel) rfl rfl (v := .int (nI 15)) rfl rfl (Nat.le_of_ble_eq_true rfl) dX8_notes_43 (fun zE3 zH3 zL3 zg3 zf3 zw3 => ?_)
          have zh3_0 : zE3 q = .inr (5, [.int th, .ref (ad (q + 1)), .long se, .ref (ad (q + 2)), .ref (ad (q + 3)), .int (nI co), .ref (ad (q + 4)), .int (nI 15), .ref (ad (q + 5)), .ref (ad (q + 6)), .ref (ad (q + 7)), .ref (ad (q + 8)), .int (nI em), .ref (ad (q + 9)), .ref (ad (q + 10)), .ref (ad (q + 11)), .ref (ad (q + 12))]) := zg3
          have zk3_0 : zE3 (q + 1) = eI G 508 s := (zf3 _ (by omega)).trans zl11_1
          have zk3_1 : zE3 (q + 4) = eI G 8128 g := (zf3 _ (by omega)).trans zl11_2
          have zfr3 : ∀ j, j ≠ (q + 4) → j ≠ q → zE3 j = E j := fun j zm0 zm1 => (zf3 j zm1).trans (zlf11 j zm0)
          refine lv_iconst (v := nI 0) hx hb dX8_notes_46 rfl ?_
          refine lv_istore_n (lv' := [(1, .int (nI 0)), (0, .ref (ad q))]) hx hb dX8_notes_47 rfl hl (by decide) rfl (fun ls hl => ?_)
          have zlp48 : ∀ (zn : Nat) (i : Nat) (g : Nat → Int32), 508 - i < zn → (i ≤ 508) → (g = va_cpy s (ntB pa pm) 0 (508 * ntK pm) i) → ∀ (E9 : Nat → va_E) (H9 : Heap) (L9 : List Loc), E9 (q + 1) = eI G 508 s → E9 (q + 4) = eI G 8128 g → E9 q = .inr (5, [.int th, .ref (ad (q + 1)), .long se, .ref (ad (q + 2)), .ref (ad (q + 3)), .int (nI co), .ref (ad (q + 4)), .int (nI 15), .ref (ad (q + 5)), .ref (ad (q + 6)), .ref (ad (q + 7)), .ref (ad (q + 8)), .int (nI em), .ref (ad (q + 9)), .ref (ad (q + 10)), .ref (ad (q + 11)), .ref (ad (q + 12))]) → (∀ j, j ≠ (q + 4) → j ≠ q → E9 j = E j) → Wd G A ss_.heap H9 L9 ad E9 N → ∀ (ls : Array Slot), lv_has ls 2 [(0, .ref (ad q)), (1, .int (nI i))] → W pp_ l ee_ ({ frames := 0, cells := 0, slots := 0, locals := 0 } : Room) ss_ mm_ aa_ bb_ me_ cc_ H9 L9 0 0 (QV bb_ aa_ ss_ G ad N A (fun E2 => E2 q = .inr (5, [.int th, .ref (ad (q + 1)), .long se, .ref (ad (q + 2)), .ref (ad (q + 3)), .int (nI co), .ref (ad (q + 4)), .int (nI (ntK pm + 1)), .ref (ad (q + 5)), .ref (ad (q + 6)), .ref (ad (q + 7)), .ref (ad (q + 8)), .int (nI em), .ref (ad (q + 9)), .ref (ad (q + 10)), .ref (ad (q + 11)), .ref (ad (q + 12))]) ∧ E2 (q + 4) = eI G 8128 (ntF pa pm s) ∧ (∀ j, j ≠ q → j ≠ (q + 4) → E2 j = E j))) (F0 mm_ 48 ls []) := by
            intro zn
            induction zn with
            | zero => intro i g zhm; exact absurd zhm (Nat.not_lt_zero _)
            | succ zn zih48 =>
              intro i g zhm48 hi hg zE_48 zH_48 zL_48 zl48_0 zl48_1 zl48_2 zlf48  zlw48 ls hl
              refine lv_iload_n hx hb dX8_notes_48 rfl (lv_at hl 1 rfl) ?_
              refine lv_sipush (v := nI 508) hx hb dX8_notes_49 rfl ?_
              refine n_icmp_ge (tgt := 82) hx hb dX8_notes_52 (by decide) (by omega) (by omega) (fun zc52 => ?_) (fun zc52 => ?_)
              · refine lv_aload_n hx hb dX8_notes_82 rfl (lv_at hl 0 rfl) ?_
                refine lv_dup hx hb dX8_notes_83 rfl ?_
                refine r_get C zlw48 RX8 TX8 17 5 hinX8 (i := q) (by omega) zl48_2 rfl 7 (by decide) (by decide +kernel) rfl (v := .int (nI 15)) rfl dX8_notes_84 ?_
                refine lv_iconst (v := nI 1) hx hb dX8_notes_87 rfl ?_
                refine lv_iadd hx hb dX8_notes_88 ?_
                refine r_nat (15 + 1) (nI_add _ _) ?_
                refine r_put C zlw48 RX8 TX8 17 5 hinX8 tyX8 tyX8_ok nmX8 (i := q) (by omega) zl48_2 rfl 7 (by decide) (by decide +kernel) rfl rfl (v := .int (nI (15 + 1))) rfl rfl (Nat.le_of_ble_eq_true rfl) dX8_notes_89 (fun zE4 zH4 zL4 zg4 zf4 zw4 => ?_)
                have zh4_0 : zE4 q = .inr (5, [.int th, .ref (ad (q + 1)), .long se, .ref (ad (q + 2)), .ref (ad (q + 3)), .int (nI co), .ref (ad (q + 4)), .int (nI (15 + 1)), .ref (ad (q + 5)), .ref (ad (q + 6)), .ref (ad (q + 7)), .ref (ad (q + 8)), .int (nI em), .ref (ad (q + 9)), .ref (ad (q + 10)), .ref (ad (q + 11)), .ref (ad (q + 12))]) := zg4
                have zk4_0 : zE4 (q + 1) = eI G 508 s := (zf4 _ (by omega)).trans zl48_0
                have zk4_1 : zE4 (q + 4) = eI G 8128 g := (zf4 _ (by omega)).trans zl48_1
                have zfr4 : ∀ j, j ≠ (q + 4) → j ≠ q → zE4 j = E j := fun j zm0 zm1 => (zf4 j zm1).trans (zlf48 j zm0 zm1)
                exact r_vret C zw4 dX8_notes_92 ⟨(zh4_0.trans (by rw [ntK]; first | rw [if_pos zc6] | rw [if_neg zc6])), (zk4_1.trans (by rw [hg, show i = 508 by omega]; rfl)), (fun j zm0 zm1 => zfr4 j zm1 zm0)⟩
              · refine lv_aload_n hx hb dX8_notes_55 rfl (lv_at hl 0 rfl) ?_
                refine r_get C zlw48 RX8 TX8 17 5 hinX8 (i := q) (by omega) zl48_2 rfl 6 (by decide) (by decide +kernel) rfl (v := .ref (ad (q + 4))) rfl dX8_notes_56 ?_
                refine lv_sipush (v := nI 508) hx hb dX8_notes_59 rfl ?_
                refine lv_aload_n hx hb dX8_notes_62 rfl (lv_at hl 0 rfl) ?_
                refine r_get C zlw48 RX8 TX8 17 5 hinX8 (i := q) (by omega) zl48_2 rfl 7 (by decide) (by decide +kernel) rfl (v := .int (nI 15)) rfl dX8_notes_63 ?_
                refine lv_imul hx hb dX8_notes_66 ?_
                refine r_nat (508 * 15) (pk_mul _ _) ?_
                refine lv_iload_n hx hb dX8_notes_67 rfl (lv_at hl 1 rfl) ?_
                refine lv_iadd hx hb dX8_notes_68 ?_
                refine r_nat (508 * 15 + i) (nI_add _ _) ?_
                refine lv_aload_n hx hb dX8_notes_69 rfl (lv_at hl 0 rfl) ?_
                refine r_get C zlw48 RX8 TX8 17 5 hinX8 (i := q) (by omega) zl48_2 rfl 1 (by decide) (by decide +kernel) rfl (v := .ref (ad (q + 1))) rfl dX8_notes_70 ?_
                refine lv_iload_n hx hb dX8_notes_73 rfl (lv_at hl 1 rfl) ?_
                refine r_iaN C zlw48 (i := (q + 1)) (by omega) zl48_0 (j := i) (by omega) (by omega) dX8_notes_74 ?_
                refine r_iasN C zlw48 (i := (q + 4)) (by omega) zl48_1 (j := 508 * 15 + i) (by omega) (by omega) dX8_notes_75 (fun zE5 zH5 zL5 zg5 zf5 zw5 => ?_)
                have zh5_0 : zE5 (q + 4) = eI G 8128 (upd g (508 * 15 + i) (s i)) := zg5
                have zk5_0 : zE5 (q + 1) = eI G 508 s := (zf5 _ (by omega)).trans zl48_0
                have zk5_1 : zE5 q = .inr (5, [.int th, .ref (ad (q + 1)), .long se, .ref (ad (q + 2)), .ref (ad (q + 3)), .int (nI co), .ref (ad (q + 4)), .int (nI 15), .ref (ad (q + 5)), .ref (ad (q + 6)), .ref (ad (q + 7)), .ref (ad (q + 8)), .int (nI em), .ref (ad (q + 9)), .ref (ad (q + 10)), .ref (ad (q + 11)), .ref (ad (q + 12))]) := (zf5 _ (by omega)).trans zl48_2
                have zfr5 : ∀ j, j ≠ (q + 4) → j ≠ q → zE5 j = E j := fun j zm0 zm1 => (zf5 j zm0).trans (zlf48 j zm0 zm1)
                refine lv_iinc (v := nI (i + 1)) (lv' := [(1, .int (nI (i + 1))), (0, .ref (ad q))]) hx hb dX8_notes_76 hl (k := 1) rfl (by rw [show Int32.ofInt 1 = nI 1 from rfl, nI_add]) (by decide) rfl (fun ls hl => ?_)
                refine lv_goto (tgt := 48) hx hb dX8_notes_79 (by decide) ?_
                exact zih48 (i + 1) (upd g (508 * 15 + i) (s i)) (by omega) (by omega) (by rw [hg]; have zc9 := cpy_s s (ntB pa pm) 0 (508 * ntK pm) i; rw [Nat.zero_add] at zc9; first | exact zc9 | (rw [ntK, if_pos zc6] at zc9 ⊢; exact zc9) | (rw [ntK, if_neg zc6] at zc9 ⊢; exact zc9)) _ _ _ zk5_0 zh5_0 zk5_1 (fun j zm0 zm1 => zfr5 j zm0 zm1) zw5 _ (lv_sub hl [1, 0] rfl)
          exact zlp48 _ 0 g (Nat.lt_succ_self _) (by omega) (by rw [cpy_0, ntB]; first | (rw [if_pos zc6, hg, show i = 7620 by omega]) | (rw [if_neg zc6])) _ _ _ zk3_0 zk3_1 zh3_0 (fun j zm0 zm1 => zfr3 j zm0 zm1) zw3 _ (lv_sub hl [1, 0] rfl)
        · refine lv_aload_n hx hb dX8_notes_18 rfl (lv_at hl 0 rfl) ?_
          refine r_get C zlw11 RX8 TX8 17 5 hinX8 (i := q) (by omega) zl11_0 rfl 6 (by decide) (by decide +kernel) rfl (v := .ref (ad (q + 4))) rfl dX8_notes_19 ?_
          refine lv_iload_n hx hb dX8_notes_22 rfl (lv_at hl 1 rfl) ?_
          refine lv_aload_n hx hb dX8_notes_23 rfl (lv_at hl 0 rfl) ?_
          refine r_get C zlw11 RX8 TX8 17 5 hinX8 (i := q) (by omega) zl11_0 rfl 6 (by decide) (by decide +kernel) rfl (v := .ref (ad (q + 4))) rfl dX8_notes_24 ?_
          refine lv_iload_n hx hb dX8_notes_27 rfl (lv_at hl 1 rfl) ?_
          refine lv_sipush (v := nI 508) hx hb dX8_notes_28 rfl ?_
          refine lv_iadd hx hb dX8_notes_31 ?_
          refine r_nat (i + 508) (nI_add _ _) ?_
          refine r_iaN C zlw11 (i := (q + 4)) (by omega) zl11_2 (j := i + 508) (by omega) (by omega) dX8_notes_32 ?_
          refine r_iasN C zlw11 (i := (q + 4)) (by omega) zl11_2 (j := i) (by omega) (by omega) dX8_notes_33 (fun zE6 zH6 zL6 zg6 zf6 zw6 => ?_)
          have zh6_0 : zE6 (q + 4) = eI G 8128 (upd g i (g (i + 508))) := zg6
          have zk6_0 : zE6 q = .inr (5, [.int th, .ref (ad (q + 1)), .long se, .ref (ad (q + 2)), .ref (ad (q + 3)), .int (nI co), .ref (ad (q + 4)), .int (nI pm), .ref (ad (q + 5)), .ref (ad (q + 6)), .ref (ad (q + 7)), .ref (ad (q + 8)), .int (nI em), .ref (ad (q + 9)), .ref (ad (q + 10)), .ref (ad (q + 11)), .ref (ad (q + 12))]) := (zf6 _ (by omega)).trans zl11_0
          have zk6_1 : zE6 (q + 1) = eI G 508 s := (zf6 _ (by omega)).trans zl11_1
          have zfr6 : ∀ j, j ≠ (q + 4) → zE6 j = E j := fun j zm0 => (zf6 j zm0).trans (zlf11 j zm0)
          refine lv_iinc (v := nI (i + 1)) (lv' := [(1, .int (nI (i + 1))), (0, .ref (ad q))]) hx hb dX8_notes_34 hl (k := 1) rfl (by rw [show Int32.ofInt 1 = nI 1 from rfl, nI_add]) (by decide) rfl (fun ls hl => ?_)
          refine lv_goto (tgt := 11) hx hb dX8_notes_37 (by decide) ?_
          exact zih11 (i + 1) (upd g i (g (i + 508))) (by omega) (by omega) (by rw [hg, cpy_self pa 508 0 i (by omega), show i + 508 = 508 + i by omega]; have zc9 := cpy_s pa pa 508 0 i; rw [Nat.zero_add] at zc9; exact zc9) _ _ _ zk6_0 zk6_1 zh6_0 (fun j zm0 => zfr6 j zm0) zw6 _ (lv_sub hl [1, 0] rfl)
    exact zlp11 _ 0 pa (Nat.lt_succ_self _) (by omega) (by exact (cpy_0 _ _ _ _).symm) _ _ _ hE0 hE1 hE2 (fun j _ => rfl) hw _ (lv_sub hl [1, 0] rfl)

set_option maxHeartbeats 4000000 in
set_option maxRecDepth 100000 in
theorem c_X8_heads {l : Launch} {G : vG} {tC : Nat} {ad : Nat → Nat} {N : Nat} {E : Nat → va_E} {q co pm em : Nat} {th : Int32} {se : Int64} {pg : Nat} {s : Nat → Int32} {pt : Nat → Int32} {pk : Nat → Nat} {b : Nat} (hN0 : q + 13 ≤ N) (hE0 : E q = .inr (5, [.int th, .ref (ad (q + 1)), .long se, .ref (ad (q + 2)), .ref (ad (q + 3)), .int (nI co), .ref (ad (q + 4)), .int (nI pm), .ref (ad (q + 5)), .ref (ad (q + 6)), .ref (ad (q + 7)), .ref (ad (q + 8)), .int (nI em), .ref (ad (q + 9)), .ref (ad (q + 10)), .ref (ad (q + 11)), .ref (ad (q + 12))])) (hE1 : E (q + 1) = eI G 508 s) (hE2 : E (q + 2) = eI G 10 pt) (hs0 : s 0 = nI pg) (hpg : pg ≤ 10) (hpk : ∀ j, j < 10 → pt j = nI (pk j) ∧ pk j < 256) (hb4 : b < 4) : MI l yX8_heads wsX8_heads ({ frames := 4, cells := 0, slots := 0, locals := 91 } : Room) G tC ad N E [.ref (ad q), .int (nI b)] (fun r E2 => E2 (q + 1) = eI G 508 (hdF s pg pk b) ∧ (∀ j, j ≠ (q + 1) → E2 j = E j) ∧ r = if hdOk pk then 1 else 0) := by
  refine MI_of RX8 rfl (by decide) rfl (Nat.le_of_ble_eq_true rfl) ?_
  intro pp_ ee_ ss_ mm_ aa_ bb_ me_ cc_ A ls C hw hl
  have hx := C.1
  have hb := C.2.1
  have hown := C.2.2.2.2.1
  have hts := C.2.2.2.2.2.1
  have hl : lv_has ls 5 [(0, .ref (ad q)), (1, .int (nI b))] := hl
  have hinX8 : ∀ w ∈ u_ws RX8 TX8 17, w ∈ wsX8_heads := by decide +kernel
  refine lv_aload_n hx hb dX8_heads_0 rfl (lv_at hl 0 rfl) ?_
  refine lv_iconst (v := nI 2) hx hb dX8_heads_1 rfl ?_
  refine r_vI C hw hl.1 (i := q) (by omega) hE0 (T := TX8) (n := 17) rfl [.int (nI 2)] 1 rfl (c_X8_number (l := l) (G := G) (tC := tC) (ad := ad) (N := N) (E := E) (q := q) (co := co) (pm := pm) (em := em) (th := th) (se := se) (pt := pt) (pk := pk) (k := 2) (by omega) hE0 hE2 (by first | assumption | omega) (by first | assumption | omega)) gX8_heads_X8_number rfl ⟨rfl, rfl⟩ (by decide +kernel) ⟨Nat.le_of_ble_eq_true rfl, Nat.le_of_ble_eq_true rfl⟩ (rest := []) rfl (Nat.le_of_ble_eq_true rfl) dX8_heads_2 ⟨Nat.zero_le _, Nat.zero_le _⟩ (fun zr1 zE1 zH1 zL1 zp1 zw1 => ?_)
  obtain ⟨ze1, zq1⟩ := zp1
  rw [ze1] at zw1
  clear ze1
  rw [zq1]
  refine lv_i2l (v := (dec (pk 2)).toInt64) hx hb dX8_heads_5 rfl ?_
  refine lv_lconst (v := (nI 0).toInt64) hx hb dX8_heads_6 (by decide) ?_
  refine lv_ldc2 (v := 9) hx hb hown (hts (.constantLong RX8 100 (9)) (by decide +kernel)) dX8_heads_7 ?_
  refine r_asL (nI 9).toInt64 (by decide) ?_
  refine r_sI C zw1 hl.1 [.long ((dec (pk 2)).toInt64), .long ((nI 0).toInt64), .long ((nI 9).toInt64)] 3 rfl (c_X8_in (l := l) (G := G) (tC := tC) (ad := ad) (N := N) (E := E) (x := (dec (pk 2))) (a := (nI 0)) (b := (nI 9))   ) gX8_heads_X8_in rfl ⟨rfl, rfl⟩ (by decide +kernel) ⟨Nat.le_of_ble_eq_true rfl, Nat.le_of_ble_eq_true rfl⟩ (rest := []) rfl (Nat.le_of_ble_eq_true rfl) dX8_heads_10 ⟨Nat.zero_le _, Nat.zero_le _⟩ (fun zr2 zE2 zH2 zL2 zp2 zw2 => ?_)
  obtain ⟨ze2, zq2⟩ := zp2
  rw [ze2] at zw2
  clear ze2
  rw [zq2]
  refine b_if_eq (tgt := 61) hx hb dX8_heads_13 (by decide) (fun zc13 => ?_) (fun zc13 => ?_)
  · first | rw [dec_in (by omega)] at zc45 | rw [dec_in (by omega)] at zc29 | rw [dec_in (by omega)] at zc13 | skip
    refine lv_iconst (v := nI 0) hx hb dX8_heads_61 rfl ?_
    refine lv_istore_n (lv' := [(2, .int (nI 0)), (0, .ref (ad q)), (1, .int (nI b))]) hx hb dX8_heads_62 rfl hl (by decide) rfl (fun ls hl => ?_)
    refine lv_iload_n hx hb dX8_heads_63 rfl (lv_at hl 0 rfl) ?_
    refine n_if_ne (tgt := 78) hx hb dX8_heads_64 (by decide) (by omega) (fun zc64 => ?_) (fun zc64 => ?_)
    · exact absurd zc64 (by decide)
    · refine lv_aload_n hx hb dX8_heads_67 rfl (lv_at hl 1 rfl) ?_
      refine r_get C zw2 RX8 TX8 17 5 hinX8 (i := q) (by omega) hE0 rfl 1 (by decide) (by decide +kernel) rfl (v := .ref (ad (q + 1))) rfl dX8_heads_68 ?_
      refine lv_iconst (v := nI 4) hx hb dX8_heads_71 rfl ?_
      refine lv_iload_n hx hb dX8_heads_72 rfl (lv_at hl 2 rfl) ?_
      refine lv_iadd hx hb dX8_heads_73 ?_
      refine r_nat (4 + b) (nI_add _ _) ?_
      refine lv_iconst (v := -1) hx hb dX8_heads_74 (by decide) ?_
      refine r_iasN C zw2 (i := (q + 1)) (by omega) hE1 (j := 4 + b) (by omega) (by omega) dX8_heads_75 (fun zE3 zH3 zL3 zg3 zf3 zw3 => ?_)
      have zh3_0 : zE3 (q + 1) = eI G 508 (upd s (4 + b) (-1)) := zg3
      have zk3_0 : zE3 q = .inr (5, [.int th, .ref (ad (q + 1)), .long se, .ref (ad (q + 2)), .ref (ad (q + 3)), .int (nI co), .ref (ad (q + 4)), .int (nI pm), .ref (ad (q + 5)), .ref (ad (q + 6)), .ref (ad (q + 7)), .ref (ad (q + 8)), .int (nI em), .ref (ad (q + 9)), .ref (ad (q + 10)), .ref (ad (q + 11)), .ref (ad (q + 12))]) := (zf3 _ (by omega)).trans hE0
      have zk3_1 : zE3 (q + 2) = eI G 10 pt := (zf3 _ (by omega)).trans hE2
      have zfr3 : ∀ j, j ≠ (q + 1) → zE3 j = E j := fun j zm0 => zf3 j zm0
      refine lv_iconst (v := nI 0) hx hb dX8_heads_76 rfl ?_
      exact r_zret C zw3 dX8_heads_77 (Or.inl rfl) ⟨(zh3_0.trans (by rw [hdF, if_neg (by first | exact fun zq => zc13 zq.1 | exact fun zq => zc29 zq.2.1 | exact fun zq => zc45 zq.2.2.1 | exact fun zq => (dec_m1.mp zc54) zq.2.2.2)])), (fun j zm0 => zfr3 j zm0), (by rw [if_neg (by first | exact fun zq => zc13 zq.1 | exact fun zq => zc29 zq.2.1 | exact fun zq => zc45 zq.2.2.1 | exact fun zq => (dec_m1.mp zc54) zq.2.2.2)]; rfl)⟩
  · rw [dec_in (by omega)] at zc13
    refine lv_aload_n hx hb dX8_heads_16 rfl (lv_at hl 0 rfl) ?_
    refine lv_iconst (v := nI 3) hx hb dX8_heads_17 rfl ?_
    refine r_vI C zw2 hl.1 (i := q) (by omega) hE0 (T := TX8) (n := 17) rfl [.int (nI 3)] 1 rfl (c_X8_number (l := l) (G := G) (tC := tC) (ad := ad) (N := N) (E := E) (q := q) (co := co) (pm := pm) (em := em) (th := th) (se := se) (pt := pt) (pk := pk) (k := 3) (by omega) hE0 hE2 (by first | assumption | omega) (by first | assumption | omega)) gX8_heads_X8_number rfl ⟨rfl, rfl⟩ (by decide +kernel) ⟨Nat.le_of_ble_eq_true rfl, Nat.le_of_ble_eq_true rfl⟩ (rest := []) rfl (Nat.le_of_ble_eq_true rfl) dX8_heads_18 ⟨Nat.zero_le _, Nat.zero_le _⟩ (fun zr4 zE4 zH4 zL4 zp4 zw4 => ?_)
    obtain ⟨ze4, zq4⟩ := zp4
    rw [ze4] at zw4
    clear ze4
    rw [zq4]
    refine lv_i2l (v := (dec (pk 3)).toInt64) hx hb dX8_heads_21 rfl ?_
    refine lv_lconst (v := (nI 0).toInt64) hx hb dX8_heads_22 (by decide) ?_
    refine lv_ldc2 (v := 9) hx hb hown (hts (.constantLong RX8 100 (9)) (by decide +kernel)) dX8_heads_23 ?_
    refine r_asL (nI 9).toInt64 (by decide) ?_
    refine r_sI C zw4 hl.1 [.long ((dec (pk 3)).toInt64), .long ((nI 0).toInt64), .long ((nI 9).toInt64)] 3 rfl (c_X8_in (l := l) (G := G) (tC := tC) (ad := ad) (N := N) (E := E) (x := (dec (pk 3))) (a := (nI 0)) (b := (nI 9))   ) gX8_heads_X8_in rfl ⟨rfl, rfl⟩ (by decide +kernel) ⟨Nat.le_of_ble_eq_true rfl, Nat.le_of_ble_eq_true rfl⟩ (rest := []) rfl (Nat.le_of_ble_eq_true rfl) dX8_heads_26 ⟨Nat.zero_le _, Nat.zero_le _⟩ (fun zr5 zE5 zH5 zL5 zp5 zw5 => ?_)
    obtain ⟨ze5, zq5⟩ := zp5
    rw [ze5] at zw5
    clear ze5
    rw [zq5]
    refine b_if_eq (tgt := 61) hx hb dX8_heads_29 (by decide) (fun zc29 => ?_) (fun zc29 => ?_)
    · first | rw [dec_in (by omega)] at zc45 | rw [dec_in (by omega)] at zc29 | rw [dec_in (by omega)] at zc13 | skip
      refine lv_iconst (v := nI 0) hx hb dX8_heads_61 rfl ?_
      refine lv_istore_n (lv' := [(2, .int (nI 0)), (0, .ref (ad q)), (1, .int (nI b))]) hx hb dX8_heads_62 rfl hl (by decide) rfl (fun ls hl => ?_)
      refine lv_iload_n hx hb dX8_heads_63 rfl (lv_at hl 0 rfl) ?_
      refine n_if_ne (tgt := 78) hx hb dX8_heads_64 (by decide) (by omega) (fun zc64 => ?_) (fun zc64 => ?_)
      · exact absurd zc64 (by decide)
      · refine lv_aload_n hx hb dX8_heads_67 rfl (lv_at hl 1 rfl) ?_
        refine r_get C zw5 RX8 TX8 17 5 hinX8 (i := q) (by omega) hE0 rfl 1 (by decide) (by decide +kernel) rfl (v := .ref (ad (q + 1))) rfl dX8_heads_68 ?_
        refine lv_iconst (v := nI 4) hx hb dX8_heads_71 rfl ?_
        refine lv_iload_n hx hb dX8_heads_72 rfl (lv_at hl 2 rfl) ?_
        refine lv_iadd hx hb dX8_heads_73 ?_
        refine r_nat (4 + b) (nI_add _ _) ?_
        refine lv_iconst (v := -1) hx hb dX8_heads_74 (by decide) ?_
        refine r_iasN C zw5 (i := (q + 1)) (by omega) hE1 (j := 4 + b) (by omega) (by omega) dX8_heads_75 (fun zE6 zH6 zL6 zg6 zf6 zw6 => ?_)
        have zh6_0 : zE6 (q + 1) = eI G 508 (upd s (4 + b) (-1)) := zg6
        have zk6_0 : zE6 q = .inr (5, [.int th, .ref (ad (q + 1)), .long se, .ref (ad (q + 2)), .ref (ad (q + 3)), .int (nI co), .ref (ad (q + 4)), .int (nI pm), .ref (ad (q + 5)), .ref (ad (q + 6)), .ref (ad (q + 7)), .ref (ad (q + 8)), .int (nI em), .ref (ad (q + 9)), .ref (ad (q + 10)), .ref (ad (q + 11)), .ref (ad (q + 12))]) := (zf6 _ (by omega)).trans hE0
        have zk6_1 : zE6 (q + 2) = eI G 10 pt := (zf6 _ (by omega)).trans hE2
        have zfr6 : ∀ j, j ≠ (q + 1) → zE6 j = E j := fun j zm0 => zf6 j zm0
        refine lv_iconst (v := nI 0) hx hb dX8_heads_76 rfl ?_
        exact r_zret C zw6 dX8_heads_77 (Or.inl rfl) ⟨(zh6_0.trans (by rw [hdF, if_neg (by first | exact fun zq => zc13 zq.1 | exact fun zq => zc29 zq.2.1 | exact fun zq => zc45 zq.2.2.1 | exact fun zq => (dec_m1.mp zc54) zq.2.2.2)])), (fun j zm0 => zfr6 j zm0), (by rw [if_neg (by first | exact fun zq => zc13 zq.1 | exact fun zq => zc29 zq.2.1 | exact fun zq => zc45 zq.2.2.1 | exact fun zq => (dec_m1.mp zc54) zq.2.2.2)]; rfl)⟩
    · rw [dec_in (by omega)] at zc29
      refine lv_aload_n hx hb dX8_heads_32 rfl (lv_at hl 0 rfl) ?_
      refine lv_iconst (v := nI 4) hx hb dX8_heads_33 rfl ?_
      refine r_vI C zw5 hl.1 (i := q) (by omega) hE0 (T := TX8) (n := 17) rfl [.int (nI 4)] 1 rfl (c_X8_number (l := l) (G := G) (tC := tC) (ad := ad) (N := N) (E := E) (q := q) (co := co) (pm := pm) (em := em) (th := th) (se := se) (pt := pt) (pk := pk) (k := 4) (by omega) hE0 hE2 (by first | assumption | omega) (by first | assumption | omega)) gX8_heads_X8_number rfl ⟨rfl, rfl⟩ (by decide +kernel) ⟨Nat.le_of_ble_eq_true rfl, Nat.le_of_ble_eq_true rfl⟩ (rest := []) rfl (Nat.le_of_ble_eq_true rfl) dX8_heads_34 ⟨Nat.zero_le _, Nat.zero_le _⟩ (fun zr7 zE7 zH7 zL7 zp7 zw7 => ?_)
      obtain ⟨ze7, zq7⟩ := zp7
      rw [ze7] at zw7
      clear ze7
      rw [zq7]
      refine lv_i2l (v := (dec (pk 4)).toInt64) hx hb dX8_heads_37 rfl ?_
      refine lv_lconst (v := (nI 0).toInt64) hx hb dX8_heads_38 (by decide) ?_
      refine lv_ldc2 (v := 7) hx hb hown (hts (.constantLong RX8 102 (7)) (by decide +kernel)) dX8_heads_39 ?_
      refine r_asL (nI 7).toInt64 (by decide) ?_
      refine r_sI C zw7 hl.1 [.long ((dec (pk 4)).toInt64), .long ((nI 0).toInt64), .long ((nI 7).toInt64)] 3 rfl (c_X8_in (l := l) (G := G) (tC := tC) (ad := ad) (N := N) (E := E) (x := (dec (pk 4))) (a := (nI 0)) (b := (nI 7))   ) gX8_heads_X8_in rfl ⟨rfl, rfl⟩ (by decide +kernel) ⟨Nat.le_of_ble_eq_true rfl, Nat.le_of_ble_eq_true rfl⟩ (rest := []) rfl (Nat.le_of_ble_eq_true rfl) dX8_heads_42 ⟨Nat.zero_le _, Nat.zero_le _⟩ (fun zr8 zE8 zH8 zL8 zp8 zw8 => ?_)
      obtain ⟨ze8, zq8⟩ := zp8
      rw [ze8] at zw8
      clear ze8
      rw [zq8]
      refine b_if_eq (tgt := 61) hx hb dX8_heads_45 (by decide) (fun zc45 => ?_) (fun zc45 => ?_)
      · first | rw [dec_in (by omega)] at zc45 | rw [dec_in (by omega)] at zc29 | rw [dec_in (by omega)] at zc13 | skip
        refine lv_iconst (v := nI 0) hx hb dX8_heads_61 rfl ?_
        refine lv_istore_n (lv' := [(2, .int (nI 0)), (0, .ref (ad q)), (1, .int (nI b))]) hx hb dX8_heads_62 rfl hl (by decide) rfl (fun ls hl => ?_)
        refine lv_iload_n hx hb dX8_heads_63 rfl (lv_at hl 0 rfl) ?_
        refine n_if_ne (tgt := 78) hx hb dX8_heads_64 (by decide) (by omega) (fun zc64 => ?_) (fun zc64 => ?_)
        · exact absurd zc64 (by decide)
        · refine lv_aload_n hx hb dX8_heads_67 rfl (lv_at hl 1 rfl) ?_
          refine r_get C zw8 RX8 TX8 17 5 hinX8 (i := q) (by omega) hE0 rfl 1 (by decide) (by decide +kernel) rfl (v := .ref (ad (q + 1))) rfl dX8_heads_68 ?_
          refine lv_iconst (v := nI 4) hx hb dX8_heads_71 rfl ?_
          refine lv_iload_n hx hb dX8_heads_72 rfl (lv_at hl 2 rfl) ?_
          refine lv_iadd hx hb dX8_heads_73 ?_
          refine r_nat (4 + b) (nI_add _ _) ?_
          refine lv_iconst (v := -1) hx hb dX8_heads_74 (by decide) ?_
          refine r_iasN C zw8 (i := (q + 1)) (by omega) hE1 (j := 4 + b) (by omega) (by omega) dX8_heads_75 (fun zE9 zH9 zL9 zg9 zf9 zw9 => ?_)
          have zh9_0 : zE9 (q + 1) = eI G 508 (upd s (4 + b) (-1)) := zg9
          have zk9_0 : zE9 q = .inr (5, [.int th, .ref (ad (q + 1)), .long se, .ref (ad (q + 2)), .ref (ad (q + 3)), .int (nI co), .ref (ad (q + 4)), .int (nI pm), .ref (ad (q + 5)), .ref (ad (q + 6)), .ref (ad (q + 7)), .ref (ad (q + 8)), .int (nI em), .ref (ad (q + 9)), .ref (ad (q + 10)), .ref (ad (q + 11)), .ref (ad (q + 12))]) := (zf9 _ (by omega)).trans hE0
          have zk9_1 : zE9 (q + 2) = eI G 10 pt := (zf9 _ (by omega)).trans hE2
          have zfr9 : ∀ j, j ≠ (q + 1) → zE9 j = E j := fun j zm0 => zf9 j zm0
          refine lv_iconst (v := nI 0) hx hb dX8_heads_76 rfl ?_
          exact r_zret C zw9 dX8_heads_77 (Or.inl rfl) ⟨(zh9_0.trans (by rw [hdF, if_neg (by first | exact fun zq => zc13 zq.1 | exact fun zq => zc29 zq.2.1 | exact fun zq => zc45 zq.2.2.1 | exact fun zq => (dec_m1.mp zc54) zq.2.2.2)])), (fun j zm0 => zfr9 j zm0), (by rw [if_neg (by first | exact fun zq => zc13 zq.1 | exact fun zq => zc29 zq.2.1 | exact fun zq => zc45 zq.2.2.1 | exact fun zq => (dec_m1.mp zc54) zq.2.2.2)]; rfl)⟩
      · rw [dec_in (by omega)] at zc45
        refine lv_aload_n hx hb dX8_heads_48 rfl (lv_at hl 0 rfl) ?_
        refine lv_iconst (v := nI 5) hx hb dX8_heads_49 rfl ?_
        refine r_vI C zw8 hl.1 (i := q) (by omega) hE0 (T := TX8) (n := 17) rfl [.int (nI 5)] 1 rfl (c_X8_number (l := l) (G := G) (tC := tC) (ad := ad) (N := N) (E := E) (q := q) (co := co) (pm := pm) (em := em) (th := th) (se := se) (pt := pt) (pk := pk) (k := 5) (by omega) hE0 hE2 (by first | assumption | omega) (by first | assumption | omega)) gX8_heads_X8_number rfl ⟨rfl, rfl⟩ (by decide +kernel) ⟨Nat.le_of_ble_eq_true rfl, Nat.le_of_ble_eq_true rfl⟩ (rest := []) rfl (Nat.le_of_ble_eq_true rfl) dX8_heads_50 ⟨Nat.zero_le _, Nat.zero_le _⟩ (fun zr10 zE10 zH10 zL10 zp10 zw10 => ?_)
        obtain ⟨ze10, zq10⟩ := zp10
        rw [ze10] at zw10
        clear ze10
        rw [zq10]
        refine lv_iconst (v := -1) hx hb dX8_heads_53 (by decide) ?_
        refine lv_icmp_eq (tgt := 61) hx hb dX8_heads_54 (by decide) (fun zc54 => ?_) (fun zc54 => ?_)
        · first | rw [dec_in (by omega)] at zc45 | rw [dec_in (by omega)] at zc29 | rw [dec_in (by omega)] at zc13 | skip
          refine lv_iconst (v := nI 0) hx hb dX8_heads_61 rfl ?_
          refine lv_istore_n (lv' := [(2, .int (nI 0)), (0, .ref (ad q)), (1, .int (nI b))]) hx hb dX8_heads_62 rfl hl (by decide) rfl (fun ls hl => ?_)
          refine lv_iload_n hx hb dX8_heads_63 rfl (lv_at hl 0 rfl) ?_
          refine n_if_ne (tgt := 78) hx hb dX8_heads_64 (by decide) (by omega) (fun zc64 => ?_) (fun zc64 => ?_)
          · exact absurd zc64 (by decide)
          · refine lv_aload_n hx hb dX8_heads_67 rfl (lv_at hl 1 rfl) ?_
            refine r_get C zw10 RX8 TX8 17 5 hinX8 (i := q) (by omega) hE0 rfl 1 (by decide) (by decide +kernel) rfl (v := .ref (ad (q + 1))) rfl dX8_heads_68 ?_
            refine lv_iconst (v := nI 4) hx hb dX8_heads_71 rfl ?_
            refine lv_iload_n hx hb dX8_heads_72 rfl (lv_at hl 2 rfl) ?_
            refine lv_iadd hx hb dX8_heads_73 ?_
            refine r_nat (4 + b) (nI_add _ _) ?_
            refine lv_iconst (v := -1) hx hb dX8_heads_74 (by decide) ?_
            refine r_iasN C zw10 (i := (q + 1)) (by omega) hE1 (j := 4 + b) (by omega) (by omega) dX8_heads_75 (fun zE11 zH11 zL11 zg11 zf11 zw11 => ?_)
            have zh11_0 : zE11 (q + 1) = eI G 508 (upd s (4 + b) (-1)) := zg11
            have zk11_0 : zE11 q = .inr (5, [.int th, .ref (ad (q + 1)), .long se, .ref (ad (q + 2)), .ref (ad (q + 3)), .int (nI co), .ref (ad (q + 4)), .int (nI pm), .ref (ad (q + 5)), .ref (ad (q + 6)), .ref (ad (q + 7)), .ref (ad (q + 8)), .int (nI em), .ref (ad (q + 9)), .ref (ad (q + 10)), .ref (ad (q + 11)), .ref (ad (q + 12))]) := (zf11 _ (by omega)).trans hE0
            have zk11_1 : zE11 (q + 2) = eI G 10 pt := (zf11 _ (by omega)).trans hE2
            have zfr11 : ∀ j, j ≠ (q + 1) → zE11 j = E j := fun j zm0 => zf11 j zm0
            refine lv_iconst (v := nI 0) hx hb dX8_heads_76 rfl ?_
            exact r_zret C zw11 dX8_heads_77 (Or.inl rfl) ⟨(zh11_0.trans (by rw [hdF, if_neg (by first | exact fun zq => zc13 zq.1 | exact fun zq => zc29 zq.2.1 | exact fun zq => zc45 zq.2.2.1 | exact fun zq => (dec_m1.mp zc54) zq.2.2.2)])), (fun j zm0 => zfr11 j zm0), (by rw [if_neg (by first | exact fun zq => zc13 zq.1 | exact fun zq => zc29 zq.2.1 | exact fun zq => zc45 zq.2.2.1 | exact fun zq => (dec_m1.mp zc54) zq.2.2.2)]; rfl)⟩
        · have zc55 := (dec_nat zc54).2
          refine lv_iconst (v := nI 1) hx hb dX8_heads_57 rfl ?_
          refine lv_goto (tgt := 62) hx hb dX8_heads_58 (by decide) ?_
          refine lv_istore_n (lv' := [(2, .int (nI 1)), (0, .ref (ad q)), (1, .int (nI b))]) hx hb dX8_heads_62 rfl hl (by decide) rfl (fun ls hl => ?_)
          refine lv_iload_n hx hb dX8_heads_63 rfl (lv_at hl 0 rfl) ?_
          refine n_if_ne (tgt := 78) hx hb dX8_heads_64 (by decide) (by omega) (fun zc64 => ?_) (fun zc64 => ?_)
          · refine lv_bipush (v := nI 10) hx hb dX8_heads_78 rfl ?_
            refine lv_aload_n hx hb dX8_heads_80 rfl (lv_at hl 1 rfl) ?_
            refine lv_iconst (v := nI 3) hx hb dX8_heads_81 rfl ?_
            refine r_vI C zw10 hl.1 (i := q) (by omega) hE0 (T := TX8) (n := 17) rfl [.int (nI 3)] 1 rfl (c_X8_number (l := l) (G := G) (tC := tC) (ad := ad) (N := N) (E := E) (q := q) (co := co) (pm := pm) (em := em) (th := th) (se := se) (pt := pt) (pk := pk) (k := 3) (by omega) hE0 hE2 (by first | assumption | omega) (by first | assumption | omega)) gX8_heads_X8_number rfl ⟨rfl, rfl⟩ (by decide +kernel) ⟨Nat.le_of_ble_eq_true rfl, Nat.le_of_ble_eq_true rfl⟩ (rest := [.int (nI 10)]) rfl (Nat.le_of_ble_eq_true rfl) dX8_heads_82 ⟨Nat.zero_le _, Nat.zero_le _⟩ (fun zr12 zE12 zH12 zL12 zp12 zw12 => ?_)
            obtain ⟨ze12, zq12⟩ := zp12
            rw [ze12] at zw12
            clear ze12
            rw [zq12]
            refine r_nat (decN (pk 3)) (dec_lt (by omega)) ?_
            refine lv_imul hx hb dX8_heads_85 ?_
            refine r_nat (10 * (decN (pk 3))) (pk_mul _ _) ?_
            refine lv_aload_n hx hb dX8_heads_86 rfl (lv_at hl 1 rfl) ?_
            refine lv_iconst (v := nI 2) hx hb dX8_heads_87 rfl ?_
            refine r_vI C zw12 hl.1 (i := q) (by omega) hE0 (T := TX8) (n := 17) rfl [.int (nI 2)] 1 rfl (c_X8_number (l := l) (G := G) (tC := tC) (ad := ad) (N := N) (E := E) (q := q) (co := co) (pm := pm) (em := em) (th := th) (se := se) (pt := pt) (pk := pk) (k := 2) (by omega) hE0 hE2 (by first | assumption | omega) (by first | assumption | omega)) gX8_heads_X8_number rfl ⟨rfl, rfl⟩ (by decide +kernel) ⟨Nat.le_of_ble_eq_true rfl, Nat.le_of_ble_eq_true rfl⟩ (rest := [.int (nI (10 * (decN (pk 3))))]) rfl (Nat.le_of_ble_eq_true rfl) dX8_heads_88 ⟨Nat.zero_le _, Nat.zero_le _⟩ (fun zr13 zE13 zH13 zL13 zp13 zw13 => ?_)
            obtain ⟨ze13, zq13⟩ := zp13
            rw [ze13] at zw13
            clear ze13
            rw [zq13]
            refine r_nat (decN (pk 2)) (dec_lt (by omega)) ?_
            refine lv_iadd hx hb dX8_heads_91 ?_
            refine r_nat (10 * (decN (pk 3)) + decN (pk 2)) (nI_add _ _) ?_
            refine lv_istore_n (lv' := [(3, .int (nI (10 * (decN (pk 3)) + decN (pk 2)))), (2, .int (nI 1)), (0, .ref (ad q)), (1, .int (nI b))]) hx hb dX8_heads_92 rfl hl (by decide) rfl (fun ls hl => ?_)
            refine lv_aload_n hx hb dX8_heads_93 rfl (lv_at hl 2 rfl) ?_
            refine lv_iload_n hx hb dX8_heads_94 rfl (lv_at hl 3 rfl) ?_
            refine lv_iload_n hx hb dX8_heads_95 rfl (lv_at hl 0 rfl) ?_
            refine lv_aload_n hx hb dX8_heads_96 rfl (lv_at hl 2 rfl) ?_
            refine lv_iconst (v := nI 4) hx hb dX8_heads_97 rfl ?_
            refine r_vI C zw13 hl.1 (i := q) (by omega) hE0 (T := TX8) (n := 17) rfl [.int (nI 4)] 1 rfl (c_X8_number (l := l) (G := G) (tC := tC) (ad := ad) (N := N) (E := E) (q := q) (co := co) (pm := pm) (em := em) (th := th) (se := se) (pt := pt) (pk := pk) (k := 4) (by omega) hE0 hE2 (by first | assumption | omega) (by first | assumption | omega)) gX8_heads_X8_number rfl ⟨rfl, rfl⟩ (by decide +kernel) ⟨Nat.le_of_ble_eq_true rfl, Nat.le_of_ble_eq_true rfl⟩ (rest := [.int (nI (10 * (decN (pk 3)) + decN (pk 2))), .int (nI b), .ref (ad q)]) rfl (Nat.le_of_ble_eq_true rfl) dX8_heads_98 ⟨Nat.zero_le _, Nat.zero_le _⟩ (fun zr14 zE14 zH14 zL14 zp14 zw14 => ?_)
            obtain ⟨ze14, zq14⟩ := zp14
            rw [ze14] at zw14
            clear ze14
            rw [zq14]
            refine r_nat (decN (pk 4)) (dec_lt (by omega)) ?_
            refine r_vI C zw14 hl.1 (i := q) (by omega) hE0 (T := TX8) (n := 17) rfl [.int (nI b), .int (nI (10 * (decN (pk 3)) + decN (pk 2))), .int (nI (decN (pk 4)))] 3 rfl (c_X8_pageOf (l := l) (G := G) (tC := tC) (ad := ad) (N := N) (E := E) (q := q) (co := co) (pm := pm) (em := em) (th := th) (se := se) (pg := pg) (s := s) (b := nI b) (n := nI (10 * (decN (pk 3)) + decN (pk 2))) (p9 := nI (decN (pk 4))) (by omega) hE0 hE1 (by first | assumption | omega) (by first | assumption | omega)) gX8_heads_X8_pageOf rfl ⟨rfl, rfl⟩ (by decide +kernel) ⟨Nat.le_of_ble_eq_true rfl, Nat.le_of_ble_eq_true rfl⟩ (rest := []) rfl (Nat.le_of_ble_eq_true rfl) dX8_heads_101 ⟨Nat.zero_le _, Nat.zero_le _⟩ (fun zr15 zE15 zH15 zL15 zp15 zw15 => ?_)
            obtain ⟨ze15, zq15⟩ := zp15
            rw [ze15] at zw15
            clear ze15
            rw [zq15]
            refine lv_istore (lv' := [(4, .int (fdI (srch (cel s) (nI b) (nI (10 * (decN (pk 3)) + decN (pk 2))) (nI (decN (pk 4))) pg 0) pg)), (3, .int (nI (10 * (decN (pk 3)) + decN (pk 2)))), (2, .int (nI 1)), (0, .ref (ad q)), (1, .int (nI b))]) hx hb dX8_heads_104 hl (by decide) rfl (fun ls hl => ?_)
            refine lv_iload hx hb dX8_heads_106 (lv_at hl 0 rfl) ?_
            refine lv_iconst (v := -1) hx hb dX8_heads_108 (by decide) ?_
            refine lv_icmp_ne (tgt := 126) hx hb dX8_heads_109 (by decide) (fun zc109 => ?_) (fun zc109 => ?_)
            · obtain ⟨zk0, zk1⟩ := fdI_nat zc109
              have zk1 : hdI s pg pk b < pg := zk1
              refine lv_iload hx hb dX8_heads_126 (lv_at hl 0 rfl) ?_
              refine r_nat (hdI s pg pk b) zk0 ?_
              refine lv_istore (lv' := [(4, .int (nI (hdI s pg pk b))), (3, .int (nI (10 * (decN (pk 3)) + decN (pk 2)))), (2, .int (nI 1)), (0, .ref (ad q)), (1, .int (nI b))]) hx hb dX8_heads_128 hl (by decide) rfl (fun ls hl => ?_)
              refine lv_aload_n hx hb dX8_heads_130 rfl (lv_at hl 3 rfl) ?_
              refine r_get C zw15 RX8 TX8 17 5 hinX8 (i := q) (by omega) hE0 rfl 1 (by decide) (by decide +kernel) rfl (v := .ref (ad (q + 1))) rfl dX8_heads_131 ?_
              refine lv_iload hx hb dX8_heads_134 (lv_at hl 0 rfl) ?_
              refine r_sI C zw15 hl.1 [.int (nI (hdI s pg pk b))] 1 rfl (c_X8_at (l := l) (G := G) (tC := tC) (ad := ad) (N := N) (E := E) (k := hdI s pg pk b)   ) gX8_heads_X8_at rfl ⟨rfl, rfl⟩ (by decide +kernel) ⟨Nat.le_of_ble_eq_true rfl, Nat.le_of_ble_eq_true rfl⟩ (rest := [.ref (ad (q + 1))]) rfl (Nat.le_of_ble_eq_true rfl) dX8_heads_136 ⟨Nat.zero_le _, Nat.zero_le _⟩ (fun zr16 zE16 zH16 zL16 zp16 zw16 => ?_)
              obtain ⟨ze16, zq16⟩ := zp16
              rw [ze16] at zw16
              clear ze16
              rw [zq16]
              refine lv_iconst (v := nI 3) hx hb dX8_heads_139 rfl ?_
              refine lv_iadd hx hb dX8_heads_140 ?_
              refine r_nat (8 + 50 * (hdI s pg pk b) + 3) (nI_add _ _) ?_
              refine lv_dup2_11 hx hb dX8_heads_141 rfl rfl ?_
              refine r_iaN C zw16 (i := (q + 1)) (by omega) hE1 (j := 8 + 50 * (hdI s pg pk b) + 3) (by omega) (by omega) dX8_heads_142 ?_
              refine lv_aload_n hx hb dX8_heads_143 rfl (lv_at hl 3 rfl) ?_
              refine lv_iload hx hb dX8_heads_144 (lv_at hl 0 rfl) ?_
              refine lv_iconst (v := nI 3) hx hb dX8_heads_146 rfl ?_
              refine r_vI C zw16 hl.1 (i := q) (by omega) hE0 (T := TX8) (n := 17) rfl [.int (nI (hdI s pg pk b)), .int (nI 3)] 2 rfl (c_X8_of (l := l) (G := G) (tC := tC) (ad := ad) (N := N) (E := E) (q := q) (co := co) (pm := pm) (em := em) (th := th) (se := se) (s := s) (k := hdI s pg pk b) (w := 3) (by omega) hE0 hE1 (by first | assumption | omega)) gX8_heads_X8_of rfl ⟨rfl, rfl⟩ (by decide +kernel) ⟨Nat.le_of_ble_eq_true rfl, Nat.le_of_ble_eq_true rfl⟩ (rest := [.int (s (8 + 50 * (hdI s pg pk b) + 3)), .int (nI (8 + 50 * (hdI s pg pk b) + 3)), .ref (ad (q + 1))]) rfl (Nat.le_of_ble_eq_true rfl) dX8_heads_147 ⟨Nat.zero_le _, Nat.zero_le _⟩ (fun zr17 zE17 zH17 zL17 zp17 zw17 => ?_)
              obtain ⟨ze17, zq17⟩ := zp17
              rw [ze17] at zw17
              clear ze17
              rw [zq17]
              refine lv_sipush (v := nI 9999) hx hb dX8_heads_150 rfl ?_
              refine lv_icmp_ge (tgt := 160) hx hb dX8_heads_153 (by decide) (fun zc153 => ?_) (fun zc153 => ?_)
              · refine lv_iconst (v := nI 0) hx hb dX8_heads_160 rfl ?_
                refine lv_iadd hx hb dX8_heads_161 ?_
                refine r_iasN C zw17 (i := (q + 1)) (by omega) hE1 (j := 8 + 50 * (hdI s pg pk b) + 3) (by omega) (by omega) dX8_heads_162 (fun zE18 zH18 zL18 zg18 zf18 zw18 => ?_)
                have zh18_0 : zE18 (q + 1) = eI G 508 (upd s (8 + 50 * (hdI s pg pk b) + 3) ((s (8 + 50 * (hdI s pg pk b) + 3)) + (nI 0))) := zg18
                have zk18_0 : zE18 q = .inr (5, [.int th, .ref (ad (q + 1)), .long se, .ref (ad (q + 2)), .ref (ad (q + 3)), .int (nI co), .ref (ad (q + 4)), .int (nI pm), .ref (ad (q + 5)), .ref (ad (q + 6)), .ref (ad (q + 7)), .ref (ad (q + 8)), .int (nI em), .ref (ad (q + 9)), .ref (ad (q + 10)), .ref (ad (q + 11)), .ref (ad (q + 12))]) := (zf18 _ (by omega)).trans hE0
                have zk18_1 : zE18 (q + 2) = eI G 10 pt := (zf18 _ (by omega)).trans hE2
                have zfr18 : ∀ j, j ≠ (q + 1) → zE18 j = E j := fun j zm0 => zf18 j zm0
                refine lv_aload_n hx hb dX8_heads_163 rfl (lv_at hl 3 rfl) ?_
                refine r_get C zw18 RX8 TX8 17 5 hinX8 (i := q) (by omega) zk18_0 rfl 1 (by decide) (by decide +kernel) rfl (v := .ref (ad (q + 1))) rfl dX8_heads_164 ?_
                refine lv_iload hx hb dX8_heads_167 (lv_at hl 0 rfl) ?_
                refine r_sI C zw18 hl.1 [.int (nI (hdI s pg pk b))] 1 rfl (c_X8_at (l := l) (G := G) (tC := tC) (ad := ad) (N := N) (E := zE18) (k := hdI s pg pk b)   ) gX8_heads_X8_at rfl ⟨rfl, rfl⟩ (by decide +kernel) ⟨Nat.le_of_ble_eq_true rfl, Nat.le_of_ble_eq_true rfl⟩ (rest := [.ref (ad (q + 1))]) rfl (Nat.le_of_ble_eq_true rfl) dX8_heads_169 ⟨Nat.zero_le _, Nat.zero_le _⟩ (fun zr19 zE19 zH19 zL19 zp19 zw19 => ?_)
                obtain ⟨ze19, zq19⟩ := zp19
                rw [ze19] at zw19
                clear ze19
                rw [zq19]
                refine lv_iconst (v := nI 5) hx hb dX8_heads_172 rfl ?_
                refine lv_iadd hx hb dX8_heads_173 ?_
                refine r_nat (8 + 50 * (hdI s pg pk b) + 5) (nI_add _ _) ?_
                refine lv_aload_n hx hb dX8_heads_174 rfl (lv_at hl 3 rfl) ?_
                refine r_get C zw19 RX8 TX8 17 5 hinX8 (i := q) (by omega) zk18_0 rfl 1 (by decide) (by decide +kernel) rfl (v := .ref (ad (q + 1))) rfl dX8_heads_175 ?_
                refine lv_iconst (v := nI 1) hx hb dX8_heads_178 rfl ?_
                refine r_iaN C zw19 (i := (q + 1)) (by omega) zh18_0 (j := 1) (by omega) (by omega) dX8_heads_179 ?_
                refine r_iasN C zw19 (i := (q + 1)) (by omega) zh18_0 (j := 8 + 50 * (hdI s pg pk b) + 5) (by omega) (by omega) dX8_heads_180 (fun zE20 zH20 zL20 zg20 zf20 zw20 => ?_)
                have zh20_0 : zE20 (q + 1) = eI G 508 (upd (upd s (8 + 50 * (hdI s pg pk b) + 3) ((s (8 + 50 * (hdI s pg pk b) + 3)) + (nI 0))) (8 + 50 * (hdI s pg pk b) + 5) ((upd s (8 + 50 * (hdI s pg pk b) + 3) ((s (8 + 50 * (hdI s pg pk b) + 3)) + (nI 0))) 1)) := zg20
                have zk20_0 : zE20 q = .inr (5, [.int th, .ref (ad (q + 1)), .long se, .ref (ad (q + 2)), .ref (ad (q + 3)), .int (nI co), .ref (ad (q + 4)), .int (nI pm), .ref (ad (q + 5)), .ref (ad (q + 6)), .ref (ad (q + 7)), .ref (ad (q + 8)), .int (nI em), .ref (ad (q + 9)), .ref (ad (q + 10)), .ref (ad (q + 11)), .ref (ad (q + 12))]) := (zf20 _ (by omega)).trans zk18_0
                have zk20_1 : zE20 (q + 2) = eI G 10 pt := (zf20 _ (by omega)).trans zk18_1
                have zfr20 : ∀ j, j ≠ (q + 1) → zE20 j = E j := fun j zm0 => (zf20 j zm0).trans (zfr18 j zm0)
                refine lv_aload_n hx hb dX8_heads_181 rfl (lv_at hl 3 rfl) ?_
                refine r_get C zw20 RX8 TX8 17 5 hinX8 (i := q) (by omega) zk20_0 rfl 1 (by decide) (by decide +kernel) rfl (v := .ref (ad (q + 1))) rfl dX8_heads_182 ?_
                refine lv_iconst (v := nI 4) hx hb dX8_heads_185 rfl ?_
                refine lv_iload_n hx hb dX8_heads_186 rfl (lv_at hl 4 rfl) ?_
                refine lv_iadd hx hb dX8_heads_187 ?_
                refine r_nat (4 + b) (nI_add _ _) ?_
                refine lv_iload hx hb dX8_heads_188 (lv_at hl 0 rfl) ?_
                refine r_iasN C zw20 (i := (q + 1)) (by omega) zh20_0 (j := 4 + b) (by omega) (by omega) dX8_heads_190 (fun zE21 zH21 zL21 zg21 zf21 zw21 => ?_)
                have zh21_0 : zE21 (q + 1) = eI G 508 (upd (upd (upd s (8 + 50 * (hdI s pg pk b) + 3) ((s (8 + 50 * (hdI s pg pk b) + 3)) + (nI 0))) (8 + 50 * (hdI s pg pk b) + 5) ((upd s (8 + 50 * (hdI s pg pk b) + 3) ((s (8 + 50 * (hdI s pg pk b) + 3)) + (nI 0))) 1)) (4 + b) (nI (hdI s pg pk b))) := zg21
                have zk21_0 : zE21 q = .inr (5, [.int th, .ref (ad (q + 1)), .long se, .ref (ad (q + 2)), .ref (ad (q + 3)), .int (nI co), .ref (ad (q + 4)), .int (nI pm), .ref (ad (q + 5)), .ref (ad (q + 6)), .ref (ad (q + 7)), .ref (ad (q + 8)), .int (nI em), .ref (ad (q + 9)), .ref (ad (q + 10)), .ref (ad (q + 11)), .ref (ad (q + 12))]) := (zf21 _ (by omega)).trans zk20_0
                have zk21_1 : zE21 (q + 2) = eI G 10 pt := (zf21 _ (by omega)).trans zk20_1
                have zfr21 : ∀ j, j ≠ (q + 1) → zE21 j = E j := fun j zm0 => (zf21 j zm0).trans (zfr20 j zm0)
                refine lv_aload_n hx hb dX8_heads_191 rfl (lv_at hl 3 rfl) ?_
                refine lv_iconst (v := nI 5) hx hb dX8_heads_192 rfl ?_
                refine r_vI C zw21 hl.1 (i := q) (by omega) zk21_0 (T := TX8) (n := 17) rfl [.int (nI 5)] 1 rfl (c_X8_number (l := l) (G := G) (tC := tC) (ad := ad) (N := N) (E := zE21) (q := q) (co := co) (pm := pm) (em := em) (th := th) (se := se) (pt := pt) (pk := pk) (k := 5) (by omega) zk21_0 zk21_1 (by first | assumption | omega) (by first | assumption | omega)) gX8_heads_X8_number rfl ⟨rfl, rfl⟩ (by decide +kernel) ⟨Nat.le_of_ble_eq_true rfl, Nat.le_of_ble_eq_true rfl⟩ (rest := []) rfl (Nat.le_of_ble_eq_true rfl) dX8_heads_193 ⟨Nat.zero_le _, Nat.zero_le _⟩ (fun zr22 zE22 zH22 zL22 zp22 zw22 => ?_)
                obtain ⟨ze22, zq22⟩ := zp22
                rw [ze22] at zw22
                clear ze22
                rw [zq22]
                refine r_nat (decN (pk 5)) (dec_lt (by omega)) ?_
                refine lv_iconst (v := nI 2) hx hb dX8_heads_196 rfl ?_
                refine lv_irem hx hb dX8_heads_197 (by decide) ?_
                refine r_nat (decN (pk 5) % 2) (rem2_nI (by omega) (by omega) (by omega)) ?_
                refine lv_iconst (v := nI 1) hx hb dX8_heads_198 rfl ?_
                refine n_icmp_ne (tgt := 208) hx hb dX8_heads_199 (by decide) (by omega) (by omega) (fun zc199 => ?_) (fun zc199 => ?_)
                · refine lv_iconst (v := nI 1) hx hb dX8_heads_208 rfl ?_
                  exact r_zret C zw22 dX8_heads_209 (Or.inr rfl) ⟨(zh21_0.trans (by rw [hdF, if_pos ⟨zc13, zc29, zc45, zc55⟩]; (first | rw [hdK, if_pos zk1, hdS, if_pos zk1] | rw [hdK, if_neg zk1, hdS, if_neg zk1]); simp only [hd1, hd2, hd3]; (first | rw [if_pos zc199] | rw [if_neg zc199]); (first | rw [bump_n zc153] | rw [bump_y zc153]))), (fun j zm0 => zfr21 j zm0), (by rw [if_pos ⟨zc13, zc29, zc45, zc55⟩]; rfl)⟩
                · refine lv_aload_n hx hb dX8_heads_202 rfl (lv_at hl 3 rfl) ?_
                  refine lv_iload hx hb dX8_heads_203 (lv_at hl 0 rfl) ?_
                  refine r_vV C zw22 hl.1 (i := q) (by omega) zk21_0 (T := TX8) (n := 17) rfl [.int (nI (hdI s pg pk b))] 1 rfl (c_X8_empties (l := l) (G := G) (tC := tC) (ad := ad) (N := N) (E := zE21) (q := q) (co := co) (pm := pm) (em := em) (th := th) (se := se) (s := upd (upd (upd s (8 + 50 * (hdI s pg pk b) + 3) ((s (8 + 50 * (hdI s pg pk b) + 3)) + (nI 0))) (8 + 50 * (hdI s pg pk b) + 5) ((upd s (8 + 50 * (hdI s pg pk b) + 3) ((s (8 + 50 * (hdI s pg pk b) + 3)) + (nI 0))) 1)) (4 + b) (nI (hdI s pg pk b))) (k := hdI s pg pk b) (by omega) zk21_0 zh21_0 (by first | assumption | omega)) gX8_heads_X8_empties rfl ⟨rfl, rfl⟩ (by decide +kernel) ⟨Nat.le_of_ble_eq_true rfl, Nat.le_of_ble_eq_true rfl⟩ (rest := []) rfl (Nat.le_of_ble_eq_true rfl) dX8_heads_205 ⟨Nat.zero_le _, Nat.zero_le _⟩ (fun zE23 zH23 zL23 zp23 zw23 => ?_)
                  obtain ⟨zg23_0, zf23⟩ := zp23
                  have zh23_0 : zE23 (q + 1) = eI G 508 (empF (upd (upd (upd s (8 + 50 * (hdI s pg pk b) + 3) ((s (8 + 50 * (hdI s pg pk b) + 3)) + (nI 0))) (8 + 50 * (hdI s pg pk b) + 5) ((upd s (8 + 50 * (hdI s pg pk b) + 3) ((s (8 + 50 * (hdI s pg pk b) + 3)) + (nI 0))) 1)) (4 + b) (nI (hdI s pg pk b))) (hdI s pg pk b)) := zg23_0
                  have zk23_0 : zE23 q = .inr (5, [.int th, .ref (ad (q + 1)), .long se, .ref (ad (q + 2)), .ref (ad (q + 3)), .int (nI co), .ref (ad (q + 4)), .int (nI pm), .ref (ad (q + 5)), .ref (ad (q + 6)), .ref (ad (q + 7)), .ref (ad (q + 8)), .int (nI em), .ref (ad (q + 9)), .ref (ad (q + 10)), .ref (ad (q + 11)), .ref (ad (q + 12))]) := (zf23 _ (by omega)).trans zk21_0
                  have zk23_1 : zE23 (q + 2) = eI G 10 pt := (zf23 _ (by omega)).trans zk21_1
                  have zfr23 : ∀ j, j ≠ (q + 1) → zE23 j = E j := fun j zm0 => (zf23 j zm0).trans (zfr21 j zm0)
                  refine lv_iconst (v := nI 1) hx hb dX8_heads_208 rfl ?_
                  exact r_zret C zw23 dX8_heads_209 (Or.inr rfl) ⟨(zh23_0.trans (by rw [hdF, if_pos ⟨zc13, zc29, zc45, zc55⟩]; (first | rw [hdK, if_pos zk1, hdS, if_pos zk1] | rw [hdK, if_neg zk1, hdS, if_neg zk1]); simp only [hd1, hd2, hd3]; (first | rw [if_pos zc199] | rw [if_neg zc199]); (first | rw [bump_n zc153] | rw [bump_y zc153]))), (fun j zm0 => zfr23 j zm0), (by rw [if_pos ⟨zc13, zc29, zc45, zc55⟩]; rfl)⟩
              · refine lv_iconst (v := nI 1) hx hb dX8_heads_156 rfl ?_
                refine lv_goto (tgt := 161) hx hb dX8_heads_157 (by decide) ?_
                refine lv_iadd hx hb dX8_heads_161 ?_
                refine r_iasN C zw17 (i := (q + 1)) (by omega) hE1 (j := 8 + 50 * (hdI s pg pk b) + 3) (by omega) (by omega) dX8_heads_162 (fun zE24 zH24 zL24 zg24 zf24 zw24 => ?_)
                have zh24_0 : zE24 (q + 1) = eI G 508 (upd s (8 + 50 * (hdI s pg pk b) + 3) ((s (8 + 50 * (hdI s pg pk b) + 3)) + (nI 1))) := zg24
                have zk24_0 : zE24 q = .inr (5, [.int th, .ref (ad (q + 1)), .long se, .ref (ad (q + 2)), .ref (ad (q + 3)), .int (nI co), .ref (ad (q + 4)), .int (nI pm), .ref (ad (q + 5)), .ref (ad (q + 6)), .ref (ad (q + 7)), .ref (ad (q + 8)), .int (nI em), .ref (ad (q + 9)), .ref (ad (q + 10)), .ref (ad (q + 11)), .ref (ad (q + 12))]) := (zf24 _ (by omega)).trans hE0
                have zk24_1 : zE24 (q + 2) = eI G 10 pt := (zf24 _ (by omega)).trans hE2
                have zfr24 : ∀ j, j ≠ (q + 1) → zE24 j = E j := fun j zm0 => zf24 j zm0
                refine lv_aload_n hx hb dX8_heads_163 rfl (lv_at hl 3 rfl) ?_
                refine r_get C zw24 RX8 TX8 17 5 hinX8 (i := q) (by omega) zk24_0 rfl 1 (by decide) (by decide +kernel) rfl (v := .ref (ad (q + 1))) rfl dX8_heads_164 ?_
                refine lv_iload hx hb dX8_heads_167 (lv_at hl 0 rfl) ?_
                refine r_sI C zw24 hl.1 [.int (nI (hdI s pg pk b))] 1 rfl (c_X8_at (l := l) (G := G) (tC := tC) (ad := ad) (N := N) (E := zE24) (k := hdI s pg pk b)   ) gX8_heads_X8_at rfl ⟨rfl, rfl⟩ (by decide +kernel) ⟨Nat.le_of_ble_eq_true rfl, Nat.le_of_ble_eq_true rfl⟩ (rest := [.ref (ad (q + 1))]) rfl (Nat.le_of_ble_eq_true rfl) dX8_heads_169 ⟨Nat.zero_le _, Nat.zero_le _⟩ (fun zr25 zE25 zH25 zL25 zp25 zw25 => ?_)
                obtain ⟨ze25, zq25⟩ := zp25
                rw [ze25] at zw25
                clear ze25
                rw [zq25]
                refine lv_iconst (v := nI 5) hx hb dX8_heads_172 rfl ?_
                refine lv_iadd hx hb dX8_heads_173 ?_
                refine r_nat (8 + 50 * (hdI s pg pk b) + 5) (nI_add _ _) ?_
                refine lv_aload_n hx hb dX8_heads_174 rfl (lv_at hl 3 rfl) ?_
                refine r_get C zw25 RX8 TX8 17 5 hinX8 (i := q) (by omega) zk24_0 rfl 1 (by decide) (by decide +kernel) rfl (v := .ref (ad (q + 1))) rfl dX8_heads_175 ?_
                refine lv_iconst (v := nI 1) hx hb dX8_heads_178 rfl ?_
                refine r_iaN C zw25 (i := (q + 1)) (by omega) zh24_0 (j := 1) (by omega) (by omega) dX8_heads_179 ?_
                refine r_iasN C zw25 (i := (q + 1)) (by omega) zh24_0 (j := 8 + 50 * (hdI s pg pk b) + 5) (by omega) (by omega) dX8_heads_180 (fun zE26 zH26 zL26 zg26 zf26 zw26 => ?_)
                have zh26_0 : zE26 (q + 1) = eI G 508 (upd (upd s (8 + 50 * (hdI s pg pk b) + 3) ((s (8 + 50 * (hdI s pg pk b) + 3)) + (nI 1))) (8 + 50 * (hdI s pg pk b) + 5) ((upd s (8 + 50 * (hdI s pg pk b) + 3) ((s (8 + 50 * (hdI s pg pk b) + 3)) + (nI 1))) 1)) := zg26
                have zk26_0 : zE26 q = .inr (5, [.int th, .ref (ad (q + 1)), .long se, .ref (ad (q + 2)), .ref (ad (q + 3)), .int (nI co), .ref (ad (q + 4)), .int (nI pm), .ref (ad (q + 5)), .ref (ad (q + 6)), .ref (ad (q + 7)), .ref (ad (q + 8)), .int (nI em), .ref (ad (q + 9)), .ref (ad (q + 10)), .ref (ad (q + 11)), .ref (ad (q + 12))]) := (zf26 _ (by omega)).trans zk24_0
                have zk26_1 : zE26 (q + 2) = eI G 10 pt := (zf26 _ (by omega)).trans zk24_1
                have zfr26 : ∀ j, j ≠ (q + 1) → zE26 j = E j := fun j zm0 => (zf26 j zm0).trans (zfr24 j zm0)
                refine lv_aload_n hx hb dX8_heads_181 rfl (lv_at hl 3 rfl) ?_
                refine r_get C zw26 RX8 TX8 17 5 hinX8 (i := q) (by omega) zk26_0 rfl 1 (by decide) (by decide +kernel) rfl (v := .ref (ad (q + 1))) rfl dX8_heads_182 ?_
                refine lv_iconst (v := nI 4) hx hb dX8_heads_185 rfl ?_
                refine lv_iload_n hx hb dX8_heads_186 rfl (lv_at hl 4 rfl) ?_
                refine lv_iadd hx hb dX8_heads_187 ?_
                refine r_nat (4 + b) (nI_add _ _) ?_
                refine lv_iload hx hb dX8_heads_188 (lv_at hl 0 rfl) ?_
                refine r_iasN C zw26 (i := (q + 1)) (by omega) zh26_0 (j := 4 + b) (by omega) (by omega) dX8_heads_190 (fun zE27 zH27 zL27 zg27 zf27 zw27 => ?_)
                have zh27_0 : zE27 (q + 1) = eI G 508 (upd (upd (upd s (8 + 50 * (hdI s pg pk b) + 3) ((s (8 + 50 * (hdI s pg pk b) + 3)) + (nI 1))) (8 + 50 * (hdI s pg pk b) + 5) ((upd s (8 + 50 * (hdI s pg pk b) + 3) ((s (8 + 50 * (hdI s pg pk b) + 3)) + (nI 1))) 1)) (4 + b) (nI (hdI s pg pk b))) := zg27
                have zk27_0 : zE27 q = .inr (5, [.int th, .ref (ad (q + 1)), .long se, .ref (ad (q + 2)), .ref (ad (q + 3)), .int (nI co), .ref (ad (q + 4)), .int (nI pm), .ref (ad (q + 5)), .ref (ad (q + 6)), .ref (ad (q + 7)), .ref (ad (q + 8)), .int (nI em), .ref (ad (q + 9)), .ref (ad (q + 10)), .ref (ad (q + 11)), .ref (ad (q + 12))]) := (zf27 _ (by omega)).trans zk26_0
                have zk27_1 : zE27 (q + 2) = eI G 10 pt := (zf27 _ (by omega)).trans zk26_1
                have zfr27 : ∀ j, j ≠ (q + 1) → zE27 j = E j := fun j zm0 => (zf27 j zm0).trans (zfr26 j zm0)
                refine lv_aload_n hx hb dX8_heads_191 rfl (lv_at hl 3 rfl) ?_
                refine lv_iconst (v := nI 5) hx hb dX8_heads_192 rfl ?_
                refine r_vI C zw27 hl.1 (i := q) (by omega) zk27_0 (T := TX8) (n := 17) rfl [.int (nI 5)] 1 rfl (c_X8_number (l := l) (G := G) (tC := tC) (ad := ad) (N := N) (E := zE27) (q := q) (co := co) (pm := pm) (em := em) (th := th) (se := se) (pt := pt) (pk := pk) (k := 5) (by omega) zk27_0 zk27_1 (by first | assumption | omega) (by first | assumption | omega)) gX8_heads_X8_number rfl ⟨rfl, rfl⟩ (by decide +kernel) ⟨Nat.le_of_ble_eq_true rfl, Nat.le_of_ble_eq_true rfl⟩ (rest := []) rfl (Nat.le_of_ble_eq_true rfl) dX8_heads_193 ⟨Nat.zero_le _, Nat.zero_le _⟩ (fun zr28 zE28 zH28 zL28 zp28 zw28 => ?_)
                obtain ⟨ze28, zq28⟩ := zp28
                rw [ze28] at zw28
                clear ze28
                rw [zq28]
                refine r_nat (decN (pk 5)) (dec_lt (by omega)) ?_
                refine lv_iconst (v := nI 2) hx hb dX8_heads_196 rfl ?_
                refine lv_irem hx hb dX8_heads_197 (by decide) ?_
                refine r_nat (decN (pk 5) % 2) (rem2_nI (by omega) (by omega) (by omega)) ?_
                refine lv_iconst (v := nI 1) hx hb dX8_heads_198 rfl ?_
                refine n_icmp_ne (tgt := 208) hx hb dX8_heads_199 (by decide) (by omega) (by omega) (fun zc199 => ?_) (fun zc199 => ?_)
                · refine lv_iconst (v := nI 1) hx hb dX8_heads_208 rfl ?_
                  exact r_zret C zw28 dX8_heads_209 (Or.inr rfl) ⟨(zh27_0.trans (by rw [hdF, if_pos ⟨zc13, zc29, zc45, zc55⟩]; (first | rw [hdK, if_pos zk1, hdS, if_pos zk1] | rw [hdK, if_neg zk1, hdS, if_neg zk1]); simp only [hd1, hd2, hd3]; (first | rw [if_pos zc199] | rw [if_neg zc199]); (first | rw [bump_n zc153] | rw [bump_y zc153]))), (fun j zm0 => zfr27 j zm0), (by rw [if_pos ⟨zc13, zc29, zc45, zc55⟩]; rfl)⟩
                · refine lv_aload_n hx hb dX8_heads_202 rfl (lv_at hl 3 rfl) ?_
                  refine lv_iload hx hb dX8_heads_203 (lv_at hl 0 rfl) ?_
                  refine r_vV C zw28 hl.1 (i := q) (by omega) zk27_0 (T := TX8) (n := 17) rfl [.int (nI (hdI s pg pk b))] 1 rfl (c_X8_empties (l := l) (G := G) (tC := tC) (ad := ad) (N := N) (E := zE27) (q := q) (co := co) (pm := pm) (em := em) (th := th) (se := se) (s := upd (upd (upd s (8 + 50 * (hdI s pg pk b) + 3) ((s (8 + 50 * (hdI s pg pk b) + 3)) + (nI 1))) (8 + 50 * (hdI s pg pk b) + 5) ((upd s (8 + 50 * (hdI s pg pk b) + 3) ((s (8 + 50 * (hdI s pg pk b) + 3)) + (nI 1))) 1)) (4 + b) (nI (hdI s pg pk b))) (k := hdI s pg pk b) (by omega) zk27_0 zh27_0 (by first | assumption | omega)) gX8_heads_X8_empties rfl ⟨rfl, rfl⟩ (by decide +kernel) ⟨Nat.le_of_ble_eq_true rfl, Nat.le_of_ble_eq_true rfl⟩ (rest := []) rfl (Nat.le_of_ble_eq_true rfl) dX8_heads_205 ⟨Nat.zero_le _, Nat.zero_le _⟩ (fun zE29 zH29 zL29 zp29 zw29 => ?_)
                  obtain ⟨zg29_0, zf29⟩ := zp29
                  have zh29_0 : zE29 (q + 1) = eI G 508 (empF (upd (upd (upd s (8 + 50 * (hdI s pg pk b) + 3) ((s (8 + 50 * (hdI s pg pk b) + 3)) + (nI 1))) (8 + 50 * (hdI s pg pk b) + 5) ((upd s (8 + 50 * (hdI s pg pk b) + 3) ((s (8 + 50 * (hdI s pg pk b) + 3)) + (nI 1))) 1)) (4 + b) (nI (hdI s pg pk b))) (hdI s pg pk b)) := zg29_0
                  have zk29_0 : zE29 q = .inr (5, [.int th, .ref (ad (q + 1)), .long se, .ref (ad (q + 2)), .ref (ad (q + 3)), .int (nI co), .ref (ad (q + 4)), .int (nI pm), .ref (ad (q + 5)), .ref (ad (q + 6)), .ref (ad (q + 7)), .ref (ad (q + 8)), .int (nI em), .ref (ad (q + 9)), .ref (ad (q + 10)), .ref (ad (q + 11)), .ref (ad (q + 12))]) := (zf29 _ (by omega)).trans zk27_0
                  have zk29_1 : zE29 (q + 2) = eI G 10 pt := (zf29 _ (by omega)).trans zk27_1
                  have zfr29 : ∀ j, j ≠ (q + 1) → zE29 j = E j := fun j zm0 => (zf29 j zm0).trans (zfr27 j zm0)
                  refine lv_iconst (v := nI 1) hx hb dX8_heads_208 rfl ?_
                  exact r_zret C zw29 dX8_heads_209 (Or.inr rfl) ⟨(zh29_0.trans (by rw [hdF, if_pos ⟨zc13, zc29, zc45, zc55⟩]; (first | rw [hdK, if_pos zk1, hdS, if_pos zk1] | rw [hdK, if_neg zk1, hdS, if_neg zk1]); simp only [hd1, hd2, hd3]; (first | rw [if_pos zc199] | rw [if_neg zc199]); (first | rw [bump_n zc153] | rw [bump_y zc153]))), (fun j zm0 => zfr29 j zm0), (by rw [if_pos ⟨zc13, zc29, zc45, zc55⟩]; rfl)⟩
            · have zk1 : ¬ hdI s pg pk b < pg := fdI_m1 (by omega) zc109
              have zk2 := newK_le hpg
              refine lv_aload_n hx hb dX8_heads_112 rfl (lv_at hl 3 rfl) ?_
              refine lv_iload_n hx hb dX8_heads_113 rfl (lv_at hl 4 rfl) ?_
              refine lv_iload_n hx hb dX8_heads_114 rfl (lv_at hl 1 rfl) ?_
              refine lv_aload_n hx hb dX8_heads_115 rfl (lv_at hl 3 rfl) ?_
              refine lv_iconst (v := nI 4) hx hb dX8_heads_116 rfl ?_
              refine r_vI C zw15 hl.1 (i := q) (by omega) hE0 (T := TX8) (n := 17) rfl [.int (nI 4)] 1 rfl (c_X8_number (l := l) (G := G) (tC := tC) (ad := ad) (N := N) (E := E) (q := q) (co := co) (pm := pm) (em := em) (th := th) (se := se) (pt := pt) (pk := pk) (k := 4) (by omega) hE0 hE2 (by first | assumption | omega) (by first | assumption | omega)) gX8_heads_X8_number rfl ⟨rfl, rfl⟩ (by decide +kernel) ⟨Nat.le_of_ble_eq_true rfl, Nat.le_of_ble_eq_true rfl⟩ (rest := [.int (nI (10 * (decN (pk 3)) + decN (pk 2))), .int (nI b), .ref (ad q)]) rfl (Nat.le_of_ble_eq_true rfl) dX8_heads_117 ⟨Nat.zero_le _, Nat.zero_le _⟩ (fun zr30 zE30 zH30 zL30 zp30 zw30 => ?_)
              obtain ⟨ze30, zq30⟩ := zp30
              rw [ze30] at zw30
              clear ze30
              rw [zq30]
              refine r_nat (decN (pk 4)) (dec_lt (by omega)) ?_
              refine r_vI C zw30 hl.1 (i := q) (by omega) hE0 (T := TX8) (n := 17) rfl [.int (nI b), .int (nI (10 * (decN (pk 3)) + decN (pk 2))), .int (nI (decN (pk 4)))] 3 rfl (c_X8_newPage (l := l) (G := G) (tC := tC) (ad := ad) (N := N) (E := E) (q := q) (co := co) (pm := pm) (em := em) (th := th) (se := se) (pg := pg) (s := s) (b := nI b) (n := nI (10 * (decN (pk 3)) + decN (pk 2))) (p9 := nI (decN (pk 4))) (by omega) hE0 hE1 (by first | assumption | omega) (by first | assumption | omega)) gX8_heads_X8_newPage rfl ⟨rfl, rfl⟩ (by decide +kernel) ⟨Nat.le_of_ble_eq_true rfl, Nat.le_of_ble_eq_true rfl⟩ (rest := []) rfl (Nat.le_of_ble_eq_true rfl) dX8_heads_120 ⟨Nat.zero_le _, Nat.zero_le _⟩ (fun zr31 zE31 zH31 zL31 zp31 zw31 => ?_)
              obtain ⟨zg31_0, zf31, zq31⟩ := zp31
              have zh31_0 : zE31 (q + 1) = eI G 508 (newF s pg (nI b) (nI (10 * (decN (pk 3)) + decN (pk 2))) (nI (decN (pk 4)))) := zg31_0
              have zk31_0 : zE31 q = .inr (5, [.int th, .ref (ad (q + 1)), .long se, .ref (ad (q + 2)), .ref (ad (q + 3)), .int (nI co), .ref (ad (q + 4)), .int (nI pm), .ref (ad (q + 5)), .ref (ad (q + 6)), .ref (ad (q + 7)), .ref (ad (q + 8)), .int (nI em), .ref (ad (q + 9)), .ref (ad (q + 10)), .ref (ad (q + 11)), .ref (ad (q + 12))]) := (zf31 _ (by omega)).trans hE0
              have zk31_1 : zE31 (q + 2) = eI G 10 pt := (zf31 _ (by omega)).trans hE2
              have zfr31 : ∀ j, j ≠ (q + 1) → zE31 j = E j := fun j zm0 => zf31 j zm0
              rw [zq31]
              refine lv_goto (tgt := 128) hx hb dX8_heads_123 (by decide) ?_
              refine lv_istore (lv' := [(4, .int (nI (newK pg))), (3, .int (nI (10 * (decN (pk 3)) + decN (pk 2)))), (2, .int (nI 1)), (0, .ref (ad q)), (1, .int (nI b))]) hx hb dX8_heads_128 hl (by decide) rfl (fun ls hl => ?_)
              refine lv_aload_n hx hb dX8_heads_130 rfl (lv_at hl 3 rfl) ?_
              refine r_get C zw31 RX8 TX8 17 5 hinX8 (i := q) (by omega) zk31_0 rfl 1 (by decide) (by decide +kernel) rfl (v := .ref (ad (q + 1))) rfl dX8_heads_131 ?_
              refine lv_iload hx hb dX8_heads_134 (lv_at hl 0 rfl) ?_
              refine r_sI C zw31 hl.1 [.int (nI (newK pg))] 1 rfl (c_X8_at (l := l) (G := G) (tC := tC) (ad := ad) (N := N) (E := zE31) (k := newK pg)   ) gX8_heads_X8_at rfl ⟨rfl, rfl⟩ (by decide +kernel) ⟨Nat.le_of_ble_eq_true rfl, Nat.le_of_ble_eq_true rfl⟩ (rest := [.ref (ad (q + 1))]) rfl (Nat.le_of_ble_eq_true rfl) dX8_heads_136 ⟨Nat.zero_le _, Nat.zero_le _⟩ (fun zr32 zE32 zH32 zL32 zp32 zw32 => ?_)
              obtain ⟨ze32, zq32⟩ := zp32
              rw [ze32] at zw32
              clear ze32
              rw [zq32]
              refine lv_iconst (v := nI 3) hx hb dX8_heads_139 rfl ?_
              refine lv_iadd hx hb dX8_heads_140 ?_
              refine r_nat (8 + 50 * (newK pg) + 3) (nI_add _ _) ?_
              refine lv_dup2_11 hx hb dX8_heads_141 rfl rfl ?_
              refine r_iaN C zw32 (i := (q + 1)) (by omega) zh31_0 (j := 8 + 50 * (newK pg) + 3) (by omega) (by omega) dX8_heads_142 ?_
              refine lv_aload_n hx hb dX8_heads_143 rfl (lv_at hl 3 rfl) ?_
              refine lv_iload hx hb dX8_heads_144 (lv_at hl 0 rfl) ?_
              refine lv_iconst (v := nI 3) hx hb dX8_heads_146 rfl ?_
              refine r_vI C zw32 hl.1 (i := q) (by omega) zk31_0 (T := TX8) (n := 17) rfl [.int (nI (newK pg)), .int (nI 3)] 2 rfl (c_X8_of (l := l) (G := G) (tC := tC) (ad := ad) (N := N) (E := zE31) (q := q) (co := co) (pm := pm) (em := em) (th := th) (se := se) (s := newF s pg (nI b) (nI (10 * (decN (pk 3)) + decN (pk 2))) (nI (decN (pk 4)))) (k := newK pg) (w := 3) (by omega) zk31_0 zh31_0 (by first | assumption | omega)) gX8_heads_X8_of rfl ⟨rfl, rfl⟩ (by decide +kernel) ⟨Nat.le_of_ble_eq_true rfl, Nat.le_of_ble_eq_true rfl⟩ (rest := [.int ((newF s pg (nI b) (nI (10 * (decN (pk 3)) + decN (pk 2))) (nI (decN (pk 4)))) (8 + 50 * (newK pg) + 3)), .int (nI (8 + 50 * (newK pg) + 3)), .ref (ad (q + 1))]) rfl (Nat.le_of_ble_eq_true rfl) dX8_heads_147 ⟨Nat.zero_le _, Nat.zero_le _⟩ (fun zr33 zE33 zH33 zL33 zp33 zw33 => ?_)
              obtain ⟨ze33, zq33⟩ := zp33
              rw [ze33] at zw33
              clear ze33
              rw [zq33]
              refine lv_sipush (v := nI 9999) hx hb dX8_heads_150 rfl ?_
              refine lv_icmp_ge (tgt := 160) hx hb dX8_heads_153 (by decide) (fun zc153 => ?_) (fun zc153 => ?_)
              · refine lv_iconst (v := nI 0) hx hb dX8_heads_160 rfl ?_
                refine lv_iadd hx hb dX8_heads_161 ?_
                refine r_iasN C zw33 (i := (q + 1)) (by omega) zh31_0 (j := 8 + 50 * (newK pg) + 3) (by omega) (by omega) dX8_heads_162 (fun zE34 zH34 zL34 zg34 zf34 zw34 => ?_)
                have zh34_0 : zE34 (q + 1) = eI G 508 (upd (newF s pg (nI b) (nI (10 * (decN (pk 3)) + decN (pk 2))) (nI (decN (pk 4)))) (8 + 50 * (newK pg) + 3) (((newF s pg (nI b) (nI (10 * (decN (pk 3)) + decN (pk 2))) (nI (decN (pk 4)))) (8 + 50 * (newK pg) + 3)) + (nI 0))) := zg34
                have zk34_0 : zE34 q = .inr (5, [.int th, .ref (ad (q + 1)), .long se, .ref (ad (q + 2)), .ref (ad (q + 3)), .int (nI co), .ref (ad (q + 4)), .int (nI pm), .ref (ad (q + 5)), .ref (ad (q + 6)), .ref (ad (q + 7)), .ref (ad (q + 8)), .int (nI em), .ref (ad (q + 9)), .ref (ad (q + 10)), .ref (ad (q + 11)), .ref (ad (q + 12))]) := (zf34 _ (by omega)).trans zk31_0
                have zk34_1 : zE34 (q + 2) = eI G 10 pt := (zf34 _ (by omega)).trans zk31_1
                have zfr34 : ∀ j, j ≠ (q + 1) → zE34 j = E j := fun j zm0 => (zf34 j zm0).trans (zfr31 j zm0)
                refine lv_aload_n hx hb dX8_heads_163 rfl (lv_at hl 3 rfl) ?_
                refine r_get C zw34 RX8 TX8 17 5 hinX8 (i := q) (by omega) zk34_0 rfl 1 (by decide) (by decide +kernel) rfl (v := .ref (ad (q + 1))) rfl dX8_heads_164 ?_
                refine lv_iload hx hb dX8_heads_167 (lv_at hl 0 rfl) ?_
                refine r_sI C zw34 hl.1 [.int (nI (newK pg))] 1 rfl (c_X8_at (l := l) (G := G) (tC := tC) (ad := ad) (N := N) (E := zE34) (k := newK pg)   ) gX8_heads_X8_at rfl ⟨rfl, rfl⟩ (by decide +kernel) ⟨Nat.le_of_ble_eq_true rfl, Nat.le_of_ble_eq_true rfl⟩ (rest := [.ref (ad (q + 1))]) rfl (Nat.le_of_ble_eq_true rfl) dX8_heads_169 ⟨Nat.zero_le _, Nat.zero_le _⟩ (fun zr35 zE35 zH35 zL35 zp35 zw35 => ?_)
                obtain ⟨ze35, zq35⟩ := zp35
                rw [ze35] at zw35
                clear ze35
                rw [zq35]
                refine lv_iconst (v := nI 5) hx hb dX8_heads_172 rfl ?_
                refine lv_iadd hx hb dX8_heads_173 ?_
                refine r_nat (8 + 50 * (newK pg) + 5) (nI_add _ _) ?_
                refine lv_aload_n hx hb dX8_heads_174 rfl (lv_at hl 3 rfl) ?_
                refine r_get C zw35 RX8 TX8 17 5 hinX8 (i := q) (by omega) zk34_0 rfl 1 (by decide) (by decide +kernel) rfl (v := .ref (ad (q + 1))) rfl dX8_heads_175 ?_
                refine lv_iconst (v := nI 1) hx hb dX8_heads_178 rfl ?_
                refine r_iaN C zw35 (i := (q + 1)) (by omega) zh34_0 (j := 1) (by omega) (by omega) dX8_heads_179 ?_
                refine r_iasN C zw35 (i := (q + 1)) (by omega) zh34_0 (j := 8 + 50 * (newK pg) + 5) (by omega) (by omega) dX8_heads_180 (fun zE36 zH36 zL36 zg36 zf36 zw36 => ?_)
                have zh36_0 : zE36 (q + 1) = eI G 508 (upd (upd (newF s pg (nI b) (nI (10 * (decN (pk 3)) + decN (pk 2))) (nI (decN (pk 4)))) (8 + 50 * (newK pg) + 3) (((newF s pg (nI b) (nI (10 * (decN (pk 3)) + decN (pk 2))) (nI (decN (pk 4)))) (8 + 50 * (newK pg) + 3)) + (nI 0))) (8 + 50 * (newK pg) + 5) ((upd (newF s pg (nI b) (nI (10 * (decN (pk 3)) + decN (pk 2))) (nI (decN (pk 4)))) (8 + 50 * (newK pg) + 3) (((newF s pg (nI b) (nI (10 * (decN (pk 3)) + decN (pk 2))) (nI (decN (pk 4)))) (8 + 50 * (newK pg) + 3)) + (nI 0))) 1)) := zg36
                have zk36_0 : zE36 q = .inr (5, [.int th, .ref (ad (q + 1)), .long se, .ref (ad (q + 2)), .ref (ad (q + 3)), .int (nI co), .ref (ad (q + 4)), .int (nI pm), .ref (ad (q + 5)), .ref (ad (q + 6)), .ref (ad (q + 7)), .ref (ad (q + 8)), .int (nI em), .ref (ad (q + 9)), .ref (ad (q + 10)), .ref (ad (q + 11)), .ref (ad (q + 12))]) := (zf36 _ (by omega)).trans zk34_0
                have zk36_1 : zE36 (q + 2) = eI G 10 pt := (zf36 _ (by omega)).trans zk34_1
                have zfr36 : ∀ j, j ≠ (q + 1) → zE36 j = E j := fun j zm0 => (zf36 j zm0).trans (zfr34 j zm0)
                refine lv_aload_n hx hb dX8_heads_181 rfl (lv_at hl 3 rfl) ?_
                refine r_get C zw36 RX8 TX8 17 5 hinX8 (i := q) (by omega) zk36_0 rfl 1 (by decide) (by decide +kernel) rfl (v := .ref (ad (q + 1))) rfl dX8_heads_182 ?_
                refine lv_iconst (v := nI 4) hx hb dX8_heads_185 rfl ?_
                refine lv_iload_n hx hb dX8_heads_186 rfl (lv_at hl 4 rfl) ?_
                refine lv_iadd hx hb dX8_heads_187 ?_
                refine r_nat (4 + b) (nI_add _ _) ?_
                refine lv_iload hx hb dX8_heads_188 (lv_at hl 0 rfl) ?_
                refine r_iasN C zw36 (i := (q + 1)) (by omega) zh36_0 (j := 4 + b) (by omega) (by omega) dX8_heads_190 (fun zE37 zH37 zL37 zg37 zf37 zw37 => ?_)
                have zh37_0 : zE37 (q + 1) = eI G 508 (upd (upd (upd (newF s pg (nI b) (nI (10 * (decN (pk 3)) + decN (pk 2))) (nI (decN (pk 4)))) (8 + 50 * (newK pg) + 3) (((newF s pg (nI b) (nI (10 * (decN (pk 3)) + decN (pk 2))) (nI (decN (pk 4)))) (8 + 50 * (newK pg) + 3)) + (nI 0))) (8 + 50 * (newK pg) + 5) ((upd (newF s pg (nI b) (nI (10 * (decN (pk 3)) + decN (pk 2))) (nI (decN (pk 4)))) (8 + 50 * (newK pg) + 3) (((newF s pg (nI b) (nI (10 * (decN (pk 3)) + decN (pk 2))) (nI (decN (pk 4)))) (8 + 50 * (newK pg) + 3)) + (nI 0))) 1)) (4 + b) (nI (newK pg))) := zg37
                have zk37_0 : zE37 q = .inr (5, [.int th, .ref (ad (q + 1)), .long se, .ref (ad (q + 2)), .ref (ad (q + 3)), .int (nI co), .ref (ad (q + 4)), .int (nI pm), .ref (ad (q + 5)), .ref (ad (q + 6)), .ref (ad (q + 7)), .ref (ad (q + 8)), .int (nI em), .ref (ad (q + 9)), .ref (ad (q + 10)), .ref (ad (q + 11)), .ref (ad (q + 12))]) := (zf37 _ (by omega)).trans zk36_0
                have zk37_1 : zE37 (q + 2) = eI G 10 pt := (zf37 _ (by omega)).trans zk36_1
                have zfr37 : ∀ j, j ≠ (q + 1) → zE37 j = E j := fun j zm0 => (zf37 j zm0).trans (zfr36 j zm0)
                refine lv_aload_n hx hb dX8_heads_191 rfl (lv_at hl 3 rfl) ?_
                refine lv_iconst (v := nI 5) hx hb dX8_heads_192 rfl ?_
                refine r_vI C zw37 hl.1 (i := q) (by omega) zk37_0 (T := TX8) (n := 17) rfl [.int (nI 5)] 1 rfl (c_X8_number (l := l) (G := G) (tC := tC) (ad := ad) (N := N) (E := zE37) (q := q) (co := co) (pm := pm) (em := em) (th := th) (se := se) (pt := pt) (pk := pk) (k := 5) (by omega) zk37_0 zk37_1 (by first | assumption | omega) (by first | assumption | omega)) gX8_heads_X8_number rfl ⟨rfl, rfl⟩ (by decide +kernel) ⟨Nat.le_of_ble_eq_true rfl, Nat.le_of_ble_eq_true rfl⟩ (rest := []) rfl (Nat.le_of_ble_eq_true rfl) dX8_heads_193 ⟨Nat.zero_le _, Nat.zero_le _⟩ (fun zr38 zE38 zH38 zL38 zp38 zw38 => ?_)
                obtain ⟨ze38, zq38⟩ := zp38
                rw [ze38] at zw38
                clear ze38
                rw [zq38]
                refine r_nat (decN (pk 5)) (dec_lt (by omega)) ?_
                refine lv_iconst (v := nI 2) hx hb dX8_heads_196 rfl ?_
                refine lv_irem hx hb dX8_heads_197 (by decide) ?_
                refine r_nat (decN (pk 5) % 2) (rem2_nI (by omega) (by omega) (by omega)) ?_
                refine lv_iconst (v := nI 1) hx hb dX8_heads_198 rfl ?_
                refine n_icmp_ne (tgt := 208) hx hb dX8_heads_199 (by decide) (by omega) (by omega) (fun zc199 => ?_) (fun zc199 => ?_)
                · refine lv_iconst (v := nI 1) hx hb dX8_heads_208 rfl ?_
                  exact r_zret C zw38 dX8_heads_209 (Or.inr rfl) ⟨(zh37_0.trans (by rw [hdF, if_pos ⟨zc13, zc29, zc45, zc55⟩]; (first | rw [hdK, if_pos zk1, hdS, if_pos zk1] | rw [hdK, if_neg zk1, hdS, if_neg zk1]); simp only [hd1, hd2, hd3]; (first | rw [if_pos zc199] | rw [if_neg zc199]); (first | rw [bump_n zc153] | rw [bump_y zc153]))), (fun j zm0 => zfr37 j zm0), (by rw [if_pos ⟨zc13, zc29, zc45, zc55⟩]; rfl)⟩
                · refine lv_aload_n hx hb dX8_heads_202 rfl (lv_at hl 3 rfl) ?_
                  refine lv_iload hx hb dX8_heads_203 (lv_at hl 0 rfl) ?_
                  refine r_vV C zw38 hl.1 (i := q) (by omega) zk37_0 (T := TX8) (n := 17) rfl [.int (nI (newK pg))] 1 rfl (c_X8_empties (l := l) (G := G) (tC := tC) (ad := ad) (N := N) (E := zE37) (q := q) (co := co) (pm := pm) (em := em) (th := th) (se := se) (s := upd (upd (upd (newF s pg (nI b) (nI (10 * (decN (pk 3)) + decN (pk 2))) (nI (decN (pk 4)))) (8 + 50 * (newK pg) + 3) (((newF s pg (nI b) (nI (10 * (decN (pk 3)) + decN (pk 2))) (nI (decN (pk 4)))) (8 + 50 * (newK pg) + 3)) + (nI 0))) (8 + 50 * (newK pg) + 5) ((upd (newF s pg (nI b) (nI (10 * (decN (pk 3)) + decN (pk 2))) (nI (decN (pk 4)))) (8 + 50 * (newK pg) + 3) (((newF s pg (nI b) (nI (10 * (decN (pk 3)) + decN (pk 2))) (nI (decN (pk 4)))) (8 + 50 * (newK pg) + 3)) + (nI 0))) 1)) (4 + b) (nI (newK pg))) (k := newK pg) (by omega) zk37_0 zh37_0 (by first | assumption | omega)) gX8_heads_X8_empties rfl ⟨rfl, rfl⟩ (by decide +kernel) ⟨Nat.le_of_ble_eq_true rfl, Nat.le_of_ble_eq_true rfl⟩ (rest := []) rfl (Nat.le_of_ble_eq_true rfl) dX8_heads_205 ⟨Nat.zero_le _, Nat.zero_le _⟩ (fun zE39 zH39 zL39 zp39 zw39 => ?_)
                  obtain ⟨zg39_0, zf39⟩ := zp39
                  have zh39_0 : zE39 (q + 1) = eI G 508 (empF (upd (upd (upd (newF s pg (nI b) (nI (10 * (decN (pk 3)) + decN (pk 2))) (nI (decN (pk 4)))) (8 + 50 * (newK pg) + 3) (((newF s pg (nI b) (nI (10 * (decN (pk 3)) + decN (pk 2))) (nI (decN (pk 4)))) (8 + 50 * (newK pg) + 3)) + (nI 0))) (8 + 50 * (newK pg) + 5) ((upd (newF s pg (nI b) (nI (10 * (decN (pk 3)) + decN (pk 2))) (nI (decN (pk 4)))) (8 + 50 * (newK pg) + 3) (((newF s pg (nI b) (nI (10 * (decN (pk 3)) + decN (pk 2))) (nI (decN (pk 4)))) (8 + 50 * (newK pg) + 3)) + (nI 0))) 1)) (4 + b) (nI (newK pg))) (newK pg)) := zg39_0
                  have zk39_0 : zE39 q = .inr (5, [.int th, .ref (ad (q + 1)), .long se, .ref (ad (q + 2)), .ref (ad (q + 3)), .int (nI co), .ref (ad (q + 4)), .int (nI pm), .ref (ad (q + 5)), .ref (ad (q + 6)), .ref (ad (q + 7)), .ref (ad (q + 8)), .int (nI em), .ref (ad (q + 9)), .ref (ad (q + 10)), .ref (ad (q + 11)), .ref (ad (q + 12))]) := (zf39 _ (by omega)).trans zk37_0
                  have zk39_1 : zE39 (q + 2) = eI G 10 pt := (zf39 _ (by omega)).trans zk37_1
                  have zfr39 : ∀ j, j ≠ (q + 1) → zE39 j = E j := fun j zm0 => (zf39 j zm0).trans (zfr37 j zm0)
                  refine lv_iconst (v := nI 1) hx hb dX8_heads_208 rfl ?_
                  exact r_zret C zw39 dX8_heads_209 (Or.inr rfl) ⟨(zh39_0.trans (by rw [hdF, if_pos ⟨zc13, zc29, zc45, zc55⟩]; (first | rw [hdK, if_pos zk1, hdS, if_pos zk1] | rw [hdK, if_neg zk1, hdS, if_neg zk1]); simp only [hd1, hd2, hd3]; (first | rw [if_pos zc199] | rw [if_neg zc199]); (first | rw [bump_n zc153] | rw [bump_y zc153]))), (fun j zm0 => zfr39 j zm0), (by rw [if_pos ⟨zc13, zc29, zc45, zc55⟩]; rfl)⟩
              · refine lv_iconst (v := nI 1) hx hb dX8_heads_156 rfl ?_
                refine lv_goto (tgt := 161) hx hb dX8_heads_157 (by decide) ?_
                refine lv_iadd hx hb dX8_heads_161 ?_
                refine r_iasN C zw33 (i := (q + 1)) (by omega) zh31_0 (j := 8 + 50 * (newK pg) + 3) (by omega) (by omega) dX8_heads_162 (fun zE40 zH40 zL40 zg40 zf40 zw40 => ?_)
                have zh40_0 : zE40 (q + 1) = eI G 508 (upd (newF s pg (nI b) (nI (10 * (decN (pk 3)) + decN (pk 2))) (nI (decN (pk 4)))) (8 + 50 * (newK pg) + 3) (((newF s pg (nI b) (nI (10 * (decN (pk 3)) + decN (pk 2))) (nI (decN (pk 4)))) (8 + 50 * (newK pg) + 3)) + (nI 1))) := zg40
                have zk40_0 : zE40 q = .inr (5, [.int th, .ref (ad (q + 1)), .long se, .ref (ad (q + 2)), .ref (ad (q + 3)), .int (nI co), .ref (ad (q + 4)), .int (nI pm), .ref (ad (q + 5)), .ref (ad (q + 6)), .ref (ad (q + 7)), .ref (ad (q + 8)), .int (nI em), .ref (ad (q + 9)), .ref (ad (q + 10)), .ref (ad (q + 11)), .ref (ad (q + 12))]) := (zf40 _ (by omega)).trans zk31_0
                have zk40_1 : zE40 (q + 2) = eI G 10 pt := (zf40 _ (by omega)).trans zk31_1
                have zfr40 : ∀ j, j ≠ (q + 1) → zE40 j = E j := fun j zm0 => (zf40 j zm0).trans (zfr31 j zm0)
                refine lv_aload_n hx hb dX8_heads_163 rfl (lv_at hl 3 rfl) ?_
                refine r_get C zw40 RX8 TX8 17 5 hinX8 (i := q) (by omega) zk40_0 rfl 1 (by decide) (by decide +kernel) rfl (v := .ref (ad (q + 1))) rfl dX8_heads_164 ?_
                refine lv_iload hx hb dX8_heads_167 (lv_at hl 0 rfl) ?_
                refine r_sI C zw40 hl.1 [.int (nI (newK pg))] 1 rfl (c_X8_at (l := l) (G := G) (tC := tC) (ad := ad) (N := N) (E := zE40) (k := newK pg)   ) gX8_heads_X8_at rfl ⟨rfl, rfl⟩ (by decide +kernel) ⟨Nat.le_of_ble_eq_true rfl, Nat.le_of_ble_eq_true rfl⟩ (rest := [.ref (ad (q + 1))]) rfl (Nat.le_of_ble_eq_true rfl) dX8_heads_169 ⟨Nat.zero_le _, Nat.zero_le _⟩ (fun zr41 zE41 zH41 zL41 zp41 zw41 => ?_)
                obtain ⟨ze41, zq41⟩ := zp41
                rw [ze41] at zw41
                clear ze41
                rw [zq41]
                refine lv_iconst (v := nI 5) hx hb dX8_heads_172 rfl ?_
                refine lv_iadd hx hb dX8_heads_173 ?_
                refine r_nat (8 + 50 * (newK pg) + 5) (nI_add _ _) ?_
                refine lv_aload_n hx hb dX8_heads_174 rfl (lv_at hl 3 rfl) ?_
                refine r_get C zw41 RX8 TX8 17 5 hinX8 (i := q) (by omega) zk40_0 rfl 1 (by decide) (by decide +kernel) rfl (v := .ref (ad (q + 1))) rfl dX8_heads_175 ?_
                refine lv_iconst (v := nI 1) hx hb dX8_heads_178 rfl ?_
                refine r_iaN C zw41 (i := (q + 1)) (by omega) zh40_0 (j := 1) (by omega) (by omega) dX8_heads_179 ?_
                refine r_iasN C zw41 (i := (q + 1)) (by omega) zh40_0 (j := 8 + 50 * (newK pg) + 5) (by omega) (by omega) dX8_heads_180 (fun zE42 zH42 zL42 zg42 zf42 zw42 => ?_)
                have zh42_0 : zE42 (q + 1) = eI G 508 (upd (upd (newF s pg (nI b) (nI (10 * (decN (pk 3)) + decN (pk 2))) (nI (decN (pk 4)))) (8 + 50 * (newK pg) + 3) (((newF s pg (nI b) (nI (10 * (decN (pk 3)) + decN (pk 2))) (nI (decN (pk 4)))) (8 + 50 * (newK pg) + 3)) + (nI 1))) (8 + 50 * (newK pg) + 5) ((upd (newF s pg (nI b) (nI (10 * (decN (pk 3)) + decN (pk 2))) (nI (decN (pk 4)))) (8 + 50 * (newK pg) + 3) (((newF s pg (nI b) (nI (10 * (decN (pk 3)) + decN (pk 2))) (nI (decN (pk 4)))) (8 + 50 * (newK pg) + 3)) + (nI 1))) 1)) := zg42
                have zk42_0 : zE42 q = .inr (5, [.int th, .ref (ad (q + 1)), .long se, .ref (ad (q + 2)), .ref (ad (q + 3)), .int (nI co), .ref (ad (q + 4)), .int (nI pm), .ref (ad (q + 5)), .ref (ad (q + 6)), .ref (ad (q + 7)), .ref (ad (q + 8)), .int (nI em), .ref (ad (q + 9)), .ref (ad (q + 10)), .ref (ad (q + 11)), .ref (ad (q + 12))]) := (zf42 _ (by omega)).trans zk40_0
                have zk42_1 : zE42 (q + 2) = eI G 10 pt := (zf42 _ (by omega)).trans zk40_1
                have zfr42 : ∀ j, j ≠ (q + 1) → zE42 j = E j := fun j zm0 => (zf42 j zm0).trans (zfr40 j zm0)
                refine lv_aload_n hx hb dX8_heads_181 rfl (lv_at hl 3 rfl) ?_
                refine r_get C zw42 RX8 TX8 17 5 hinX8 (i := q) (by omega) zk42_0 rfl 1 (by decide) (by decide +kernel) rfl (v := .ref (ad (q + 1))) rfl dX8_heads_182 ?_
                refine lv_iconst (v := nI 4) hx hb dX8_heads_185 rfl ?_
                refine lv_iload_n hx hb dX8_heads_186 rfl (lv_at hl 4 rfl) ?_
                refine lv_iadd hx hb dX8_heads_187 ?_
                refine r_nat (4 + b) (nI_add _ _) ?_
                refine lv_iload hx hb dX8_heads_188 (lv_at hl 0 rfl) ?_
                refine r_iasN C zw42 (i := (q + 1)) (by omega) zh42_0 (j := 4 + b) (by omega) (by omega) dX8_heads_190 (fun zE43 zH43 zL43 zg43 zf43 zw43 => ?_)
                have zh43_0 : zE43 (q + 1) = eI G 508 (upd (upd (upd (newF s pg (nI b) (nI (10 * (decN (pk 3)) + decN (pk 2))) (nI (decN (pk 4)))) (8 + 50 * (newK pg) + 3) (((newF s pg (nI b) (nI (10 * (decN (pk 3)) + decN (pk 2))) (nI (decN (pk 4)))) (8 + 50 * (newK pg) + 3)) + (nI 1))) (8 + 50 * (newK pg) + 5) ((upd (newF s pg (nI b) (nI (10 * (decN (pk 3)) + decN (pk 2))) (nI (decN (pk 4)))) (8 + 50 * (newK pg) + 3) (((newF s pg (nI b) (nI (10 * (decN (pk 3)) + decN (pk 2))) (nI (decN (pk 4)))) (8 + 50 * (newK pg) + 3)) + (nI 1))) 1)) (4 + b) (nI (newK pg))) := zg43
                have zk43_0 : zE43 q = .inr (5, [.int th, .ref (ad (q + 1)), .long se, .ref (ad (q + 2)), .ref (ad (q + 3)), .int (nI co), .ref (ad (q + 4)), .int (nI pm), .ref (ad (q + 5)), .ref (ad (q + 6)), .ref (ad (q + 7)), .ref (ad (q + 8)), .int (nI em), .ref (ad (q + 9)), .ref (ad (q + 10)), .ref (ad (q + 11)), .ref (ad (q + 12))]) := (zf43 _ (by omega)).trans zk42_0
                have zk43_1 : zE43 (q + 2) = eI G 10 pt := (zf43 _ (by omega)).trans zk42_1
                have zfr43 : ∀ j, j ≠ (q + 1) → zE43 j = E j := fun j zm0 => (zf43 j zm0).trans (zfr42 j zm0)
                refine lv_aload_n hx hb dX8_heads_191 rfl (lv_at hl 3 rfl) ?_
                refine lv_iconst (v := nI 5) hx hb dX8_heads_192 rfl ?_
                refine r_vI C zw43 hl.1 (i := q) (by omega) zk43_0 (T := TX8) (n := 17) rfl [.int (nI 5)] 1 rfl (c_X8_number (l := l) (G := G) (tC := tC) (ad := ad) (N := N) (E := zE43) (q := q) (co := co) (pm := pm) (em := em) (th := th) (se := se) (pt := pt) (pk := pk) (k := 5) (by omega) zk43_0 zk43_1 (by first | assumption | omega) (by first | assumption | omega)) gX8_heads_X8_number rfl ⟨rfl, rfl⟩ (by decide +kernel) ⟨Nat.le_of_ble_eq_true rfl, Nat.le_of_ble_eq_true rfl⟩ (rest := []) rfl (Nat.le_of_ble_eq_true rfl) dX8_heads_193 ⟨Nat.zero_le _, Nat.zero_le _⟩ (fun zr44 zE44 zH44 zL44 zp44 zw44 => ?_)
                obtain ⟨ze44, zq44⟩ := zp44
                rw [ze44] at zw44
                clear ze44
                rw [zq44]
                refine r_nat (decN (pk 5)) (dec_lt (by omega)) ?_
                refine lv_iconst (v := nI 2) hx hb dX8_heads_196 rfl ?_
                refine lv_irem hx hb dX8_heads_197 (by decide) ?_
                refine r_nat (decN (pk 5) % 2) (rem2_nI (by omega) (by omega) (by omega)) ?_
                refine lv_iconst (v := nI 1) hx hb dX8_heads_198 rfl ?_
                refine n_icmp_ne (tgt := 208) hx hb dX8_heads_199 (by decide) (by omega) (by omega) (fun zc199 => ?_) (fun zc199 => ?_)
                · refine lv_iconst (v := nI 1) hx hb dX8_heads_208 rfl ?_
                  exact r_zret C zw44 dX8_heads_209 (Or.inr rfl) ⟨(zh43_0.trans (by rw [hdF, if_pos ⟨zc13, zc29, zc45, zc55⟩]; (first | rw [hdK, if_pos zk1, hdS, if_pos zk1] | rw [hdK, if_neg zk1, hdS, if_neg zk1]); simp only [hd1, hd2, hd3]; (first | rw [if_pos zc199] | rw [if_neg zc199]); (first | rw [bump_n zc153] | rw [bump_y zc153]))), (fun j zm0 => zfr43 j zm0), (by rw [if_pos ⟨zc13, zc29, zc45, zc55⟩]; rfl)⟩
                · refine lv_aload_n hx hb dX8_heads_202 rfl (lv_at hl 3 rfl) ?_
                  refine lv_iload hx hb dX8_heads_203 (lv_at hl 0 rfl) ?_
                  refine r_vV C zw44 hl.1 (i := q) (by omega) zk43_0 (T := TX8) (n := 17) rfl [.int (nI (newK pg))] 1 rfl (c_X8_empties (l := l) (G := G) (tC := tC) (ad := ad) (N := N) (E := zE43) (q := q) (co := co) (pm := pm) (em := em) (th := th) (se := se) (s := upd (upd (upd (newF s pg (nI b) (nI (10 * (decN (pk 3)) + decN (pk 2))) (nI (decN (pk 4)))) (8 + 50 * (newK pg) + 3) (((newF s pg (nI b) (nI (10 * (decN (pk 3)) + decN (pk 2))) (nI (decN (pk 4)))) (8 + 50 * (newK pg) + 3)) + (nI 1))) (8 + 50 * (newK pg) + 5) ((upd (newF s pg (nI b) (nI (10 * (decN (pk 3)) + decN (pk 2))) (nI (decN (pk 4)))) (8 + 50 * (newK pg) + 3) (((newF s pg (nI b) (nI (10 * (decN (pk 3)) + decN (pk 2))) (nI (decN (pk 4)))) (8 + 50 * (newK pg) + 3)) + (nI 1))) 1)) (4 + b) (nI (newK pg))) (k := newK pg) (by omega) zk43_0 zh43_0 (by first | assumption | omega)) gX8_heads_X8_empties rfl ⟨rfl, rfl⟩ (by decide +kernel) ⟨Nat.le_of_ble_eq_true rfl, Nat.le_of_ble_eq_true rfl⟩ (rest := []) rfl (Nat.le_of_ble_eq_true rfl) dX8_heads_205 ⟨Nat.zero_le _, Nat.zero_le _⟩ (fun zE45 zH45 zL45 zp45 zw45 => ?_)
                  obtain ⟨zg45_0, zf45⟩ := zp45
                  have zh45_0 : zE45 (q + 1) = eI G 508 (empF (upd (upd (upd (newF s pg (nI b) (nI (10 * (decN (pk 3)) + decN (pk 2))) (nI (decN (pk 4)))) (8 + 50 * (newK pg) + 3) (((newF s pg (nI b) (nI (10 * (decN (pk 3)) + decN (pk 2))) (nI (decN (pk 4)))) (8 + 50 * (newK pg) + 3)) + (nI 1))) (8 + 50 * (newK pg) + 5) ((upd (newF s pg (nI b) (nI (10 * (decN (pk 3)) + decN (pk 2))) (nI (decN (pk 4)))) (8 + 50 * (newK pg) + 3) (((newF s pg (nI b) (nI (10 * (decN (pk 3)) + decN (pk 2))) (nI (decN (pk 4)))) (8 + 50 * (newK pg) + 3)) + (nI 1))) 1)) (4 + b) (nI (newK pg))) (newK pg)) := zg45_0
                  have zk45_0 : zE45 q = .inr (5, [.int th, .ref (ad (q + 1)), .long se, .ref (ad (q + 2)), .ref (ad (q + 3)), .int (nI co), .ref (ad (q + 4)), .int (nI pm), .ref (ad (q + 5)), .ref (ad (q + 6)), .ref (ad (q + 7)), .ref (ad (q + 8)), .int (nI em), .ref (ad (q + 9)), .ref (ad (q + 10)), .ref (ad (q + 11)), .ref (ad (q + 12))]) := (zf45 _ (by omega)).trans zk43_0
                  have zk45_1 : zE45 (q + 2) = eI G 10 pt := (zf45 _ (by omega)).trans zk43_1
                  have zfr45 : ∀ j, j ≠ (q + 1) → zE45 j = E j := fun j zm0 => (zf45 j zm0).trans (zfr43 j zm0)
                  refine lv_iconst (v := nI 1) hx hb dX8_heads_208 rfl ?_
                  exact r_zret C zw45 dX8_heads_209 (Or.inr rfl) ⟨(zh45_0.trans (by rw [hdF, if_pos ⟨zc13, zc29, zc45, zc55⟩]; (first | rw [hdK, if_pos zk1, hdS, if_pos zk1] | rw [hdK, if_neg zk1, hdS, if_neg zk1]); simp only [hd1, hd2, hd3]; (first | rw [if_pos zc199] | rw [if_neg zc199]); (first | rw [bump_n zc153] | rw [bump_y zc153]))), (fun j zm0 => zfr45 j zm0), (by rw [if_pos ⟨zc13, zc29, zc45, zc55⟩]; rfl)⟩
          · exact absurd zc64 (by decide)

set_option maxHeartbeats 4000000 in
set_option maxRecDepth 100000 in
theorem c_X8_rows {l : Launch} {G : vG} {tC : Nat} {ad : Nat → Nat} {N : Nat} {E : Nat → va_E} {q co pm em : Nat} {th : Int32} {se : Int64} {s : Nat → Int32} {pt : Nat → Int32} {pk : Nat → Nat} {k row : Nat} (hN0 : q + 13 ≤ N) (hE0 : E q = .inr (5, [.int th, .ref (ad (q + 1)), .long se, .ref (ad (q + 2)), .ref (ad (q + 3)), .int (nI co), .ref (ad (q + 4)), .int (nI pm), .ref (ad (q + 5)), .ref (ad (q + 6)), .ref (ad (q + 7)), .ref (ad (q + 8)), .int (nI em), .ref (ad (q + 9)), .ref (ad (q + 10)), .ref (ad (q + 11)), .ref (ad (q + 12))])) (hE1 : E (q + 1) = eI G 508 s) (hE2 : E (q + 2) = eI G 10 pt) (hpk : ∀ j, j < 10 → pt j = nI (pk j) ∧ pk j < 256) (hk : k < 10) (hrow : row < 5) : MV l yX8_rows wsX8_rows ({ frames := 1, cells := 0, slots := 0, locals := 22 } : Room) G tC ad N E [.ref (ad q), .int (nI k), .int (nI row)] (fun E2 => E2 (q + 1) = eI G 508 (rowF s k row pk) ∧ (∀ j, j ≠ (q + 1) → E2 j = E j)) := by
  refine MV_of RX8 rfl (by decide) rfl (Nat.le_of_ble_eq_true rfl) ?_
  intro pp_ ee_ ss_ mm_ aa_ bb_ me_ cc_ A ls C hw hl
  have hx := C.1
  have hb := C.2.1
  have hown := C.2.2.2.2.1
  have hts := C.2.2.2.2.2.1
  have hl : lv_has ls 6 [(0, .ref (ad q)), (1, .int (nI k)), (2, .int (nI row))] := hl
  have hinX8 : ∀ w ∈ u_ws RX8 TX8 17, w ∈ wsX8_rows := by decide +kernel
  refine lv_iconst (v := nI 0) hx hb dX8_rows_0 rfl ?_
  refine lv_istore_n (lv' := [(3, .int (nI 0)), (0, .ref (ad q)), (1, .int (nI k)), (2, .int (nI row))]) hx hb dX8_rows_1 rfl hl (by decide) rfl (fun ls hl => ?_)
  have zlp2 : ∀ (zn : Nat) (i : Nat) (g : Nat → Int32), 8 - i < zn → (i ≤ 8) → (g = rwF s pk (8 + 50 * k + 10 + 8 * row) i) → ∀ (E9 : Nat → va_E) (H9 : Heap) (L9 : List Loc), E9 q = .inr (5, [.int th, .ref (ad (q + 1)), .long se, .ref (ad (q + 2)), .ref (ad (q + 3)), .int (nI co), .ref (ad (q + 4)), .int (nI pm), .ref (ad (q + 5)), .ref (ad (q + 6)), .ref (ad (q + 7)), .ref (ad (q + 8)), .int (nI em), .ref (ad (q + 9)), .ref (ad (q + 10)), .ref (ad (q + 11)), .ref (ad (q + 12))]) → E9 (q + 1) = eI G 508 g → E9 (q + 2) = eI G 10 pt → (∀ j, j ≠ (q + 1) → E9 j = E j) → Wd G A ss_.heap H9 L9 ad E9 N → ∀ (ls : Array Slot), lv_has ls 6 [(0, .ref (ad q)), (1, .int (nI k)), (2, .int (nI row)), (3, .int (nI i))] → W pp_ l ee_ ({ frames := 1, cells := 0, slots := 0, locals := 22 } : Room) ss_ mm_ aa_ bb_ me_ cc_ H9 L9 0 0 (QV bb_ aa_ ss_ G ad N A (fun E2 => E2 (q + 1) = eI G 508 (rowF s k row pk) ∧ (∀ j, j ≠ (q + 1) → E2 j = E j))) (F0 mm_ 2 ls []) := by
    intro zn
    induction zn with
    | zero => intro i g zhm; exact absurd zhm (Nat.not_lt_zero _)
    | succ zn zih2 =>
      intro i g zhm2 hi hg zE_2 zH_2 zL_2 zl2_0 zl2_1 zl2_2 zlf2  zlw2 ls hl
      refine lv_iload_n hx hb dX8_rows_2 rfl (lv_at hl 3 rfl) ?_
      refine lv_bipush (v := nI 8) hx hb dX8_rows_3 rfl ?_
      refine n_icmp_ge (tgt := 105) hx hb dX8_rows_5 (by decide) (by omega) (by omega) (fun zc5 => ?_) (fun zc5 => ?_)
      · exact r_vret C zlw2 dX8_rows_105 ⟨(zl2_1.trans (by rw [hg, show i = 8 by omega]; rfl)), (fun j zm0 => zlf2 j zm0)⟩
      · refine lv_iload_n hx hb dX8_rows_8 rfl (lv_at hl 1 rfl) ?_
        refine r_sI C zlw2 hl.1 [.int (nI k)] 1 rfl (c_X8_at (l := l) (G := G) (tC := tC) (ad := ad) (N := N) (E := zE_2) (k := k)   ) gX8_rows_X8_at rfl ⟨rfl, rfl⟩ (by decide +kernel) ⟨Nat.le_of_ble_eq_true rfl, Nat.le_of_ble_eq_true rfl⟩ (rest := []) rfl (Nat.le_of_ble_eq_true rfl) dX8_rows_9 ⟨Nat.zero_le _, Nat.zero_le _⟩ (fun zr1 zE1 zH1 zL1 zp1 zw1 => ?_)
        obtain ⟨ze1, zq1⟩ := zp1
        rw [ze1] at zw1
        clear ze1
        rw [zq1]
        refine lv_bipush (v := nI 10) hx hb dX8_rows_12 rfl ?_
        refine lv_iadd hx hb dX8_rows_14 ?_
        refine r_nat (8 + 50 * k + 10) (nI_add _ _) ?_
        refine lv_bipush (v := nI 8) hx hb dX8_rows_15 rfl ?_
        refine lv_iload_n hx hb dX8_rows_17 rfl (lv_at hl 2 rfl) ?_
        refine lv_imul hx hb dX8_rows_18 ?_
        refine r_nat (8 * row) (pk_mul _ _) ?_
        refine lv_iadd hx hb dX8_rows_19 ?_
        refine r_nat (8 + 50 * k + 10 + 8 * row) (nI_add _ _) ?_
        refine lv_iload_n hx hb dX8_rows_20 rfl (lv_at hl 3 rfl) ?_
        refine lv_iadd hx hb dX8_rows_21 ?_
        refine r_nat (8 + 50 * k + 10 + 8 * row + i) (nI_add _ _) ?_
        refine lv_istore (lv' := [(4, .int (nI (8 + 50 * k + 10 + 8 * row + i))), (0, .ref (ad q)), (1, .int (nI k)), (2, .int (nI row)), (3, .int (nI i))]) hx hb dX8_rows_22 hl (by decide) rfl (fun ls hl => ?_)
        refine lv_aload_n hx hb dX8_rows_24 rfl (lv_at hl 1 rfl) ?_
        refine r_get C zw1 RX8 TX8 17 5 hinX8 (i := q) (by omega) zl2_0 rfl 3 (by decide) (by decide +kernel) rfl (v := .ref (ad (q + 2))) rfl dX8_rows_25 ?_
        refine lv_iconst (v := nI 2) hx hb dX8_rows_28 rfl ?_
        refine lv_iload_n hx hb dX8_rows_29 rfl (lv_at hl 4 rfl) ?_
        refine lv_iadd hx hb dX8_rows_30 ?_
        refine r_nat (2 + i) (nI_add _ _) ?_
        refine r_iaN C zw1 (i := (q + 2)) (by omega) zl2_2 (j := 2 + i) (by omega) (by omega) dX8_rows_31 ?_
        refine r_nat (pk (2 + i)) (hpk _ (by omega)).1 ?_
        refine lv_istore (lv' := [(5, .int (nI (pk (2 + i)))), (4, .int (nI (8 + 50 * k + 10 + 8 * row + i))), (0, .ref (ad q)), (1, .int (nI k)), (2, .int (nI row)), (3, .int (nI i))]) hx hb dX8_rows_32 hl (by decide) rfl (fun ls hl => ?_)
        refine lv_iload hx hb dX8_rows_34 (lv_at hl 0 rfl) ?_
        refine r_sI C zw1 hl.1 [.int (nI (pk (2 + i)))] 1 rfl (c_X8_ones (l := l) (G := G) (tC := tC) (ad := ad) (N := N) (E := zE_2) (v := pk (2 + i))   (hpk _ (by omega)).2) gX8_rows_X8_ones rfl ⟨rfl, rfl⟩ (by decide +kernel) ⟨Nat.le_of_ble_eq_true rfl, Nat.le_of_ble_eq_true rfl⟩ (rest := []) rfl (Nat.le_of_ble_eq_true rfl) dX8_rows_36 ⟨Nat.zero_le _, Nat.zero_le _⟩ (fun zr2 zE2 zH2 zL2 zp2 zw2 => ?_)
        obtain ⟨ze2, zq2⟩ := zp2
        rw [ze2] at zw2
        clear ze2
        rw [zq2]
        refine lv_iconst (v := nI 2) hx hb dX8_rows_39 rfl ?_
        refine lv_irem hx hb dX8_rows_40 (by decide) ?_
        refine r_nat (pc8 (pk (2 + i)) % 2) (rem2_nI (by have := pc8_le (pk (2 + i)); omega) (by omega) (by omega)) ?_
        refine lv_iconst (v := nI 1) hx hb dX8_rows_41 rfl ?_
        refine n_icmp_ne (tgt := 60) hx hb dX8_rows_42 (by decide) (by omega) (by omega) (fun zc42 => ?_) (fun zc42 => ?_)
        · refine lv_aload_n hx hb dX8_rows_60 rfl (lv_at hl 2 rfl) ?_
          refine r_get C zw2 RX8 TX8 17 5 hinX8 (i := q) (by omega) zl2_0 rfl 1 (by decide) (by decide +kernel) rfl (v := .ref (ad (q + 1))) rfl dX8_rows_61 ?_
          refine lv_iload hx hb dX8_rows_64 (lv_at hl 1 rfl) ?_
          refine r_iaN C zw2 (i := (q + 1)) (by omega) zl2_1 (j := 8 + 50 * k + 10 + 8 * row + i) (by omega) (by omega) dX8_rows_66 ?_
          refine lv_iconst (v := -1) hx hb dX8_rows_67 (by decide) ?_
          refine lv_icmp_eq (tgt := 83) hx hb dX8_rows_68 (by decide) (fun zc68 => ?_) (fun zc68 => ?_)
          · refine lv_aload_n hx hb dX8_rows_83 rfl (lv_at hl 2 rfl) ?_
            refine r_get C zw2 RX8 TX8 17 5 hinX8 (i := q) (by omega) zl2_0 rfl 1 (by decide) (by decide +kernel) rfl (v := .ref (ad (q + 1))) rfl dX8_rows_84 ?_
            refine lv_iload hx hb dX8_rows_87 (lv_at hl 1 rfl) ?_
            refine lv_sipush (v := nI 128) hx hb dX8_rows_89 rfl ?_
            refine lv_iload hx hb dX8_rows_92 (lv_at hl 0 rfl) ?_
            refine lv_bipush (v := nI 127) hx hb dX8_rows_94 rfl ?_
            refine lv_iand hx hb dX8_rows_96 ?_
            refine r_nat (pk (2 + i) % 128) (pk_andN (by have := (hpk (2 + i) (by omega)).2; omega) 7 rfl) ?_
            refine lv_iadd hx hb dX8_rows_97 ?_
            refine r_nat (128 + (pk (2 + i) % 128)) (nI_add _ _) ?_
            refine r_iasN C zw2 (i := (q + 1)) (by omega) zl2_1 (j := 8 + 50 * k + 10 + 8 * row + i) (by omega) (by omega) dX8_rows_98 (fun zE3 zH3 zL3 zg3 zf3 zw3 => ?_)
            have zh3_0 : zE3 (q + 1) = eI G 508 (upd g (8 + 50 * k + 10 + 8 * row + i) (nI (128 + (pk (2 + i) % 128)))) := zg3
            have zk3_0 : zE3 q = .inr (5, [.int th, .ref (ad (q + 1)), .long se, .ref (ad (q + 2)), .ref (ad (q + 3)), .int (nI co), .ref (ad (q + 4)), .int (nI pm), .ref (ad (q + 5)), .ref (ad (q + 6)), .ref (ad (q + 7)), .ref (ad (q + 8)), .int (nI em), .ref (ad (q + 9)), .ref (ad (q + 10)), .ref (ad (q + 11)), .ref (ad (q + 12))]) := (zf3 _ (by omega)).trans zl2_0
            have zk3_1 : zE3 (q + 2) = eI G 10 pt := (zf3 _ (by omega)).trans zl2_2
            have zfr3 : ∀ j, j ≠ (q + 1) → zE3 j = E j := fun j zm0 => (zf3 j zm0).trans (zlf2 j zm0)
            refine lv_iinc (v := nI (i + 1)) (lv' := [(3, .int (nI (i + 1))), (5, .int (nI (pk (2 + i)))), (4, .int (nI (8 + 50 * k + 10 + 8 * row + i))), (0, .ref (ad q)), (1, .int (nI k)), (2, .int (nI row))]) hx hb dX8_rows_99 hl (k := 5) rfl (by rw [show Int32.ofInt 1 = nI 1 from rfl, nI_add]) (by decide) rfl (fun ls hl => ?_)
            refine lv_goto (tgt := 2) hx hb dX8_rows_102 (by decide) ?_
            exact zih2 (i + 1) (upd g (8 + 50 * k + 10 + 8 * row + i) (nI (128 + (pk (2 + i) % 128)))) (by omega) (by omega) (by rw [hg]; first | exact rwF_s _ _ _ _ (by simp only [row1]; first | rw [if_pos zc42] | (rw [if_neg zc42]; rw [hg, rwF_g] at zc68; first | rw [if_pos (Or.inl zc68)] | (rw [hg, rwF_g] at zc80; rw [if_pos (Or.inr (Int32.not_le.mp zc80))]))) | exact rwF_k _ _ _ _ (by simp only [row1]; rw [if_neg zc42]; rw [hg, rwF_g] at zc68; rw [hg, rwF_g] at zc80; rw [if_neg (fun zq => zq.elim zc68 (Int32.not_lt.mpr zc80))])) _ _ _ zk3_0 zh3_0 zk3_1 (fun j zm0 => zfr3 j zm0) zw3 _ (lv_sub hl [3, 4, 5, 0] rfl)
          · refine lv_aload_n hx hb dX8_rows_71 rfl (lv_at hl 2 rfl) ?_
            refine r_get C zw2 RX8 TX8 17 5 hinX8 (i := q) (by omega) zl2_0 rfl 1 (by decide) (by decide +kernel) rfl (v := .ref (ad (q + 1))) rfl dX8_rows_72 ?_
            refine lv_iload hx hb dX8_rows_75 (lv_at hl 1 rfl) ?_
            refine r_iaN C zw2 (i := (q + 1)) (by omega) zl2_1 (j := 8 + 50 * k + 10 + 8 * row + i) (by omega) (by omega) dX8_rows_77 ?_
            refine lv_bipush (v := nI 127) hx hb dX8_rows_78 rfl ?_
            refine lv_icmp_le (tgt := 99) hx hb dX8_rows_80 (by decide) (fun zc80 => ?_) (fun zc80 => ?_)
            · refine lv_iinc (v := nI (i + 1)) (lv' := [(3, .int (nI (i + 1))), (5, .int (nI (pk (2 + i)))), (4, .int (nI (8 + 50 * k + 10 + 8 * row + i))), (0, .ref (ad q)), (1, .int (nI k)), (2, .int (nI row))]) hx hb dX8_rows_99 hl (k := 5) rfl (by rw [show Int32.ofInt 1 = nI 1 from rfl, nI_add]) (by decide) rfl (fun ls hl => ?_)
              refine lv_goto (tgt := 2) hx hb dX8_rows_102 (by decide) ?_
              exact zih2 (i + 1) g (by omega) (by omega) (by rw [hg]; first | exact rwF_s _ _ _ _ (by simp only [row1]; first | rw [if_pos zc42] | (rw [if_neg zc42]; rw [hg, rwF_g] at zc68; first | rw [if_pos (Or.inl zc68)] | (rw [hg, rwF_g] at zc80; rw [if_pos (Or.inr (Int32.not_le.mp zc80))]))) | exact rwF_k _ _ _ _ (by simp only [row1]; rw [if_neg zc42]; rw [hg, rwF_g] at zc68; rw [hg, rwF_g] at zc80; rw [if_neg (fun zq => zq.elim zc68 (Int32.not_lt.mpr zc80))])) _ _ _ zl2_0 zl2_1 zl2_2 (fun j zm0 => zlf2 j zm0) zw2 _ (lv_sub hl [3, 4, 5, 0] rfl)
            · refine lv_aload_n hx hb dX8_rows_83 rfl (lv_at hl 2 rfl) ?_
              refine r_get C zw2 RX8 TX8 17 5 hinX8 (i := q) (by omega) zl2_0 rfl 1 (by decide) (by decide +kernel) rfl (v := .ref (ad (q + 1))) rfl dX8_rows_84 ?_
              refine lv_iload hx hb dX8_rows_87 (lv_at hl 1 rfl) ?_
              refine lv_sipush (v := nI 128) hx hb dX8_rows_89 rfl ?_
              refine lv_iload hx hb dX8_rows_92 (lv_at hl 0 rfl) ?_
              refine lv_bipush (v := nI 127) hx hb dX8_rows_94 rfl ?_
              refine lv_iand hx hb dX8_rows_96 ?_
              refine r_nat (pk (2 + i) % 128) (pk_andN (by have := (hpk (2 + i) (by omega)).2; omega) 7 rfl) ?_
              refine lv_iadd hx hb dX8_rows_97 ?_
              refine r_nat (128 + (pk (2 + i) % 128)) (nI_add _ _) ?_
              refine r_iasN C zw2 (i := (q + 1)) (by omega) zl2_1 (j := 8 + 50 * k + 10 + 8 * row + i) (by omega) (by omega) dX8_rows_98 (fun zE4 zH4 zL4 zg4 zf4 zw4 => ?_)
              have zh4_0 : zE4 (q + 1) = eI G 508 (upd g (8 + 50 * k + 10 + 8 * row + i) (nI (128 + (pk (2 + i) % 128)))) := zg4
              have zk4_0 : zE4 q = .inr (5, [.int th, .ref (ad (q + 1)), .long se, .ref (ad (q + 2)), .ref (ad (q + 3)), .int (nI co), .ref (ad (q + 4)), .int (nI pm), .ref (ad (q + 5)), .ref (ad (q + 6)), .ref (ad (q + 7)), .ref (ad (q + 8)), .int (nI em), .ref (ad (q + 9)), .ref (ad (q + 10)), .ref (ad (q + 11)), .ref (ad (q + 12))]) := (zf4 _ (by omega)).trans zl2_0
              have zk4_1 : zE4 (q + 2) = eI G 10 pt := (zf4 _ (by omega)).trans zl2_2
              have zfr4 : ∀ j, j ≠ (q + 1) → zE4 j = E j := fun j zm0 => (zf4 j zm0).trans (zlf2 j zm0)
              refine lv_iinc (v := nI (i + 1)) (lv' := [(3, .int (nI (i + 1))), (5, .int (nI (pk (2 + i)))), (4, .int (nI (8 + 50 * k + 10 + 8 * row + i))), (0, .ref (ad q)), (1, .int (nI k)), (2, .int (nI row))]) hx hb dX8_rows_99 hl (k := 5) rfl (by rw [show Int32.ofInt 1 = nI 1 from rfl, nI_add]) (by decide) rfl (fun ls hl => ?_)
              refine lv_goto (tgt := 2) hx hb dX8_rows_102 (by decide) ?_
              exact zih2 (i + 1) (upd g (8 + 50 * k + 10 + 8 * row + i) (nI (128 + (pk (2 + i) % 128)))) (by omega) (by omega) (by rw [hg]; first | exact rwF_s _ _ _ _ (by simp only [row1]; first | rw [if_pos zc42] | (rw [if_neg zc42]; rw [hg, rwF_g] at zc68; first | rw [if_pos (Or.inl zc68)] | (rw [hg, rwF_g] at zc80; rw [if_pos (Or.inr (Int32.not_le.mp zc80))]))) | exact rwF_k _ _ _ _ (by simp only [row1]; rw [if_neg zc42]; rw [hg, rwF_g] at zc68; rw [hg, rwF_g] at zc80; rw [if_neg (fun zq => zq.elim zc68 (Int32.not_lt.mpr zc80))])) _ _ _ zk4_0 zh4_0 zk4_1 (fun j zm0 => zfr4 j zm0) zw4 _ (lv_sub hl [3, 4, 5, 0] rfl)
        · refine lv_aload_n hx hb dX8_rows_45 rfl (lv_at hl 2 rfl) ?_
          refine r_get C zw2 RX8 TX8 17 5 hinX8 (i := q) (by omega) zl2_0 rfl 1 (by decide) (by decide +kernel) rfl (v := .ref (ad (q + 1))) rfl dX8_rows_46 ?_
          refine lv_iload hx hb dX8_rows_49 (lv_at hl 1 rfl) ?_
          refine lv_iload hx hb dX8_rows_51 (lv_at hl 0 rfl) ?_
          refine lv_bipush (v := nI 127) hx hb dX8_rows_53 rfl ?_
          refine lv_iand hx hb dX8_rows_55 ?_
          refine r_nat (pk (2 + i) % 128) (pk_andN (by have := (hpk (2 + i) (by omega)).2; omega) 7 rfl) ?_
          refine r_iasN C zw2 (i := (q + 1)) (by omega) zl2_1 (j := 8 + 50 * k + 10 + 8 * row + i) (by omega) (by omega) dX8_rows_56 (fun zE5 zH5 zL5 zg5 zf5 zw5 => ?_)
          have zh5_0 : zE5 (q + 1) = eI G 508 (upd g (8 + 50 * k + 10 + 8 * row + i) (nI (pk (2 + i) % 128))) := zg5
          have zk5_0 : zE5 q = .inr (5, [.int th, .ref (ad (q + 1)), .long se, .ref (ad (q + 2)), .ref (ad (q + 3)), .int (nI co), .ref (ad (q + 4)), .int (nI pm), .ref (ad (q + 5)), .ref (ad (q + 6)), .ref (ad (q + 7)), .ref (ad (q + 8)), .int (nI em), .ref (ad (q + 9)), .ref (ad (q + 10)), .ref (ad (q + 11)), .ref (ad (q + 12))]) := (zf5 _ (by omega)).trans zl2_0
          have zk5_1 : zE5 (q + 2) = eI G 10 pt := (zf5 _ (by omega)).trans zl2_2
          have zfr5 : ∀ j, j ≠ (q + 1) → zE5 j = E j := fun j zm0 => (zf5 j zm0).trans (zlf2 j zm0)
          refine lv_goto (tgt := 99) hx hb dX8_rows_57 (by decide) ?_
          refine lv_iinc (v := nI (i + 1)) (lv' := [(3, .int (nI (i + 1))), (5, .int (nI (pk (2 + i)))), (4, .int (nI (8 + 50 * k + 10 + 8 * row + i))), (0, .ref (ad q)), (1, .int (nI k)), (2, .int (nI row))]) hx hb dX8_rows_99 hl (k := 5) rfl (by rw [show Int32.ofInt 1 = nI 1 from rfl, nI_add]) (by decide) rfl (fun ls hl => ?_)
          refine lv_goto (tgt := 2) hx hb dX8_rows_102 (by decide) ?_
          exact zih2 (i + 1) (upd g (8 + 50 * k + 10 + 8 * row + i) (nI (pk (2 + i) % 128))) (by omega) (by omega) (by rw [hg]; first | exact rwF_s _ _ _ _ (by simp only [row1]; first | rw [if_pos zc42] | (rw [if_neg zc42]; rw [hg, rwF_g] at zc68; first | rw [if_pos (Or.inl zc68)] | (rw [hg, rwF_g] at zc80; rw [if_pos (Or.inr (Int32.not_le.mp zc80))]))) | exact rwF_k _ _ _ _ (by simp only [row1]; rw [if_neg zc42]; rw [hg, rwF_g] at zc68; rw [hg, rwF_g] at zc80; rw [if_neg (fun zq => zq.elim zc68 (Int32.not_lt.mpr zc80))])) _ _ _ zk5_0 zh5_0 zk5_1 (fun j zm0 => zfr5 j zm0) zw5 _ (lv_sub hl [3, 4, 5, 0] rfl)
  exact zlp2 _ 0 s (Nat.lt_succ_self _) (by omega) (by exact (rwF_0 _ _ _).symm) _ _ _ hE0 hE1 hE2 (fun j _ => rfl) hw _ (lv_sub hl [1, 2, 3, 0] rfl)

set_option maxHeartbeats 4000000 in
set_option maxRecDepth 100000 in
theorem c_X8_links {l : Launch} {G : vG} {tC : Nat} {ad : Nat → Nat} {N : Nat} {E : Nat → va_E} {q co pm em : Nat} {th : Int32} {se : Int64} {s : Nat → Int32} {pt : Nat → Int32} {pk : Nat → Nat} {k : Nat} (hN0 : q + 13 ≤ N) (hE0 : E q = .inr (5, [.int th, .ref (ad (q + 1)), .long se, .ref (ad (q + 2)), .ref (ad (q + 3)), .int (nI co), .ref (ad (q + 4)), .int (nI pm), .ref (ad (q + 5)), .ref (ad (q + 6)), .ref (ad (q + 7)), .ref (ad (q + 8)), .int (nI em), .ref (ad (q + 9)), .ref (ad (q + 10)), .ref (ad (q + 11)), .ref (ad (q + 12))])) (hE1 : E (q + 1) = eI G 508 s) (hE2 : E (q + 2) = eI G 10 pt) (hpk : ∀ j, j < 10 → pt j = nI (pk j) ∧ pk j < 256) (hk : k < 10) : MV l yX8_links wsX8_links ({ frames := 5, cells := 0, slots := 0, locals := 114 } : Room) G tC ad N E [.ref (ad q), .int (nI k)] (fun E2 => E2 (q + 1) = eI G 508 (linkF s k pk) ∧ (∀ j, j ≠ (q + 1) → E2 j = E j)) := by
  refine MV_of RX8 rfl (by decide) rfl (Nat.le_of_ble_eq_true rfl) ?_
  intro pp_ ee_ ss_ mm_ aa_ bb_ me_ cc_ A ls C hw hl
  have hx := C.1
  have hb := C.2.1
  have hown := C.2.2.2.2.1
  have hts := C.2.2.2.2.2.1
  have hl : lv_has ls 5 [(0, .ref (ad q)), (1, .int (nI k))] := hl
  have hinX8 : ∀ w ∈ u_ws RX8 TX8 17, w ∈ wsX8_links := by decide +kernel
  refine lv_aload_n hx hb dX8_links_0 rfl (lv_at hl 0 rfl) ?_
  refine lv_iconst (v := nI 2) hx hb dX8_links_1 rfl ?_
  refine lv_bipush (v := nI 9) hx hb dX8_links_2 rfl ?_
  refine r_vV C hw hl.1 (i := q) (by omega) hE0 (T := TX8) (n := 17) rfl [.int (nI 2), .int (nI 9)] 2 rfl (c_X8_mends (l := l) (G := G) (tC := tC) (ad := ad) (N := N) (E := E) (q := q) (co := co) (pm := pm) (em := em) (th := th) (se := se) (s := s) (pt := pt) (pk := pk) (a := 2) (b := 9) (by omega) hE0 hE1 hE2 (by first | assumption | omega) (by first | assumption | omega) (by first | assumption | omega)) gX8_links_X8_mends rfl ⟨rfl, rfl⟩ (by decide +kernel) ⟨Nat.le_of_ble_eq_true rfl, Nat.le_of_ble_eq_true rfl⟩ (rest := []) rfl (Nat.le_of_ble_eq_true rfl) dX8_links_4 ⟨Nat.zero_le _, Nat.zero_le _⟩ (fun zE1 zH1 zL1 zp1 zw1 => ?_)
  obtain ⟨zg1_0, zf1⟩ := zp1
  have zh1_0 : zE1 (q + 1) = eI G 508 (upd s 3 (mdF pk 2 (9 + 1 - 2) (s 3))) := zg1_0
  have zk1_0 : zE1 q = .inr (5, [.int th, .ref (ad (q + 1)), .long se, .ref (ad (q + 2)), .ref (ad (q + 3)), .int (nI co), .ref (ad (q + 4)), .int (nI pm), .ref (ad (q + 5)), .ref (ad (q + 6)), .ref (ad (q + 7)), .ref (ad (q + 8)), .int (nI em), .ref (ad (q + 9)), .ref (ad (q + 10)), .ref (ad (q + 11)), .ref (ad (q + 12))]) := (zf1 _ (by omega)).trans hE0
  have zk1_1 : zE1 (q + 2) = eI G 10 pt := (zf1 _ (by omega)).trans hE2
  have zfr1 : ∀ j, j ≠ (q + 1) → zE1 j = E j := fun j zm0 => zf1 j zm0
  refine lv_iconst (v := nI 0) hx hb dX8_links_7 rfl ?_
  refine lv_istore_n (lv' := [(2, .int (nI 0)), (0, .ref (ad q)), (1, .int (nI k))]) hx hb dX8_links_8 rfl hl (by decide) rfl (fun ls hl => ?_)
  have zlp9 : ∀ (zn : Nat) (i : Nat) (g : Nat → Int32), 4 - i < zn → (i ≤ 4) → (g = lkF (upd s 3 (mdF pk 2 8 (s 3))) pk (8 + 50 * k + 6) i) → ∀ (E9 : Nat → va_E) (H9 : Heap) (L9 : List Loc), E9 q = .inr (5, [.int th, .ref (ad (q + 1)), .long se, .ref (ad (q + 2)), .ref (ad (q + 3)), .int (nI co), .ref (ad (q + 4)), .int (nI pm), .ref (ad (q + 5)), .ref (ad (q + 6)), .ref (ad (q + 7)), .ref (ad (q + 8)), .int (nI em), .ref (ad (q + 9)), .ref (ad (q + 10)), .ref (ad (q + 11)), .ref (ad (q + 12))]) → E9 (q + 2) = eI G 10 pt → E9 (q + 1) = eI G 508 g → (∀ j, j ≠ (q + 1) → E9 j = E j) → Wd G A ss_.heap H9 L9 ad E9 N → ∀ (ls : Array Slot), lv_has ls 5 [(0, .ref (ad q)), (1, .int (nI k)), (2, .int (nI i))] → W pp_ l ee_ ({ frames := 5, cells := 0, slots := 0, locals := 114 } : Room) ss_ mm_ aa_ bb_ me_ cc_ H9 L9 0 0 (QV bb_ aa_ ss_ G ad N A (fun E2 => E2 (q + 1) = eI G 508 (linkF s k pk) ∧ (∀ j, j ≠ (q + 1) → E2 j = E j))) (F0 mm_ 9 ls []) := by
    intro zn
    induction zn with
    | zero => intro i g zhm; exact absurd zhm (Nat.not_lt_zero _)
    | succ zn zih9 =>
      intro i g zhm9 hi hg zE_9 zH_9 zL_9 zl9_0 zl9_1 zl9_2 zlf9  zlw9 ls hl
      refine lv_iload_n hx hb dX8_links_9 rfl (lv_at hl 2 rfl) ?_
      refine lv_iconst (v := nI 4) hx hb dX8_links_10 rfl ?_
      refine n_icmp_ge (tgt := 87) hx hb dX8_links_11 (by decide) (by omega) (by omega) (fun zc11 => ?_) (fun zc11 => ?_)
      · exact r_vret C zlw9 dX8_links_87 ⟨(zl9_2.trans (by rw [hg, show i = 4 by omega]; rfl)), (fun j zm0 => zlf9 j zm0)⟩
      · refine lv_aload_n hx hb dX8_links_14 rfl (lv_at hl 0 rfl) ?_
        refine lv_iconst (v := nI 2) hx hb dX8_links_15 rfl ?_
        refine lv_iconst (v := nI 2) hx hb dX8_links_16 rfl ?_
        refine lv_iload_n hx hb dX8_links_17 rfl (lv_at hl 2 rfl) ?_
        refine lv_imul hx hb dX8_links_18 ?_
        refine r_nat (2 * i) (pk_mul _ _) ?_
        refine lv_iadd hx hb dX8_links_19 ?_
        refine r_nat (2 + 2 * i) (nI_add _ _) ?_
        refine r_vI C zlw9 hl.1 (i := q) (by omega) zl9_0 (T := TX8) (n := 17) rfl [.int (nI (2 + 2 * i))] 1 rfl (c_X8_number (l := l) (G := G) (tC := tC) (ad := ad) (N := N) (E := zE_9) (q := q) (co := co) (pm := pm) (em := em) (th := th) (se := se) (pt := pt) (pk := pk) (k := 2 + 2 * i) (by omega) zl9_0 zl9_1 (by first | assumption | omega) (by first | assumption | omega)) gX8_links_X8_number rfl ⟨rfl, rfl⟩ (by decide +kernel) ⟨Nat.le_of_ble_eq_true rfl, Nat.le_of_ble_eq_true rfl⟩ (rest := []) rfl (Nat.le_of_ble_eq_true rfl) dX8_links_20 ⟨Nat.zero_le _, Nat.zero_le _⟩ (fun zr2 zE2 zH2 zL2 zp2 zw2 => ?_)
        obtain ⟨ze2, zq2⟩ := zp2
        rw [ze2] at zw2
        clear ze2
        rw [zq2]
        refine lv_istore_n (lv' := [(3, .int (dec (pk (2 + 2 * i)))), (0, .ref (ad q)), (1, .int (nI k)), (2, .int (nI i))]) hx hb dX8_links_23 rfl hl (by decide) rfl (fun ls hl => ?_)
        refine lv_aload_n hx hb dX8_links_24 rfl (lv_at hl 1 rfl) ?_
        refine lv_iconst (v := nI 3) hx hb dX8_links_25 rfl ?_
        refine lv_iconst (v := nI 2) hx hb dX8_links_26 rfl ?_
        refine lv_iload_n hx hb dX8_links_27 rfl (lv_at hl 3 rfl) ?_
        refine lv_imul hx hb dX8_links_28 ?_
        refine r_nat (2 * i) (pk_mul _ _) ?_
        refine lv_iadd hx hb dX8_links_29 ?_
        refine r_nat (3 + 2 * i) (nI_add _ _) ?_
        refine r_vI C zw2 hl.1 (i := q) (by omega) zl9_0 (T := TX8) (n := 17) rfl [.int (nI (3 + 2 * i))] 1 rfl (c_X8_number (l := l) (G := G) (tC := tC) (ad := ad) (N := N) (E := zE_9) (q := q) (co := co) (pm := pm) (em := em) (th := th) (se := se) (pt := pt) (pk := pk) (k := 3 + 2 * i) (by omega) zl9_0 zl9_1 (by first | assumption | omega) (by first | assumption | omega)) gX8_links_X8_number rfl ⟨rfl, rfl⟩ (by decide +kernel) ⟨Nat.le_of_ble_eq_true rfl, Nat.le_of_ble_eq_true rfl⟩ (rest := []) rfl (Nat.le_of_ble_eq_true rfl) dX8_links_30 ⟨Nat.zero_le _, Nat.zero_le _⟩ (fun zr3 zE3 zH3 zL3 zp3 zw3 => ?_)
        obtain ⟨ze3, zq3⟩ := zp3
        rw [ze3] at zw3
        clear ze3
        rw [zq3]
        refine lv_istore (lv' := [(4, .int (dec (pk (3 + 2 * i)))), (3, .int (dec (pk (2 + 2 * i)))), (0, .ref (ad q)), (1, .int (nI k)), (2, .int (nI i))]) hx hb dX8_links_33 hl (by decide) rfl (fun ls hl => ?_)
        refine lv_iload_n hx hb dX8_links_35 rfl (lv_at hl 1 rfl) ?_
        refine lv_i2l (v := (dec (pk (2 + 2 * i))).toInt64) hx hb dX8_links_36 rfl ?_
        refine lv_lconst (v := (nI 0).toInt64) hx hb dX8_links_37 (by decide) ?_
        refine lv_ldc2 (v := 9) hx hb hown (hts (.constantLong RX8 100 (9)) (by decide +kernel)) dX8_links_38 ?_
        refine r_asL (nI 9).toInt64 (by decide) ?_
        refine r_sI C zw3 hl.1 [.long ((dec (pk (2 + 2 * i))).toInt64), .long ((nI 0).toInt64), .long ((nI 9).toInt64)] 3 rfl (c_X8_in (l := l) (G := G) (tC := tC) (ad := ad) (N := N) (E := zE_9) (x := (dec (pk (2 + 2 * i)))) (a := (nI 0)) (b := (nI 9))   ) gX8_links_X8_in rfl ⟨rfl, rfl⟩ (by decide +kernel) ⟨Nat.le_of_ble_eq_true rfl, Nat.le_of_ble_eq_true rfl⟩ (rest := []) rfl (Nat.le_of_ble_eq_true rfl) dX8_links_41 ⟨Nat.zero_le _, Nat.zero_le _⟩ (fun zr4 zE4 zH4 zL4 zp4 zw4 => ?_)
        obtain ⟨ze4, zq4⟩ := zp4
        rw [ze4] at zw4
        clear ze4
        rw [zq4]
        refine b_if_eq (tgt := 81) hx hb dX8_links_44 (by decide) (fun zc44 => ?_) (fun zc44 => ?_)
        · first | rw [dec_in (by omega)] at zc57 | rw [dec_in (by omega)] at zc44 | skip
          refine lv_iinc (v := nI (i + 1)) (lv' := [(2, .int (nI (i + 1))), (4, .int (dec (pk (3 + 2 * i)))), (3, .int (dec (pk (2 + 2 * i)))), (0, .ref (ad q)), (1, .int (nI k))]) hx hb dX8_links_81 hl (k := 4) rfl (by rw [show Int32.ofInt 1 = nI 1 from rfl, nI_add]) (by decide) rfl (fun ls hl => ?_)
          refine lv_goto (tgt := 9) hx hb dX8_links_84 (by decide) ?_
          exact zih9 (i + 1) g (by omega) (by omega) (by rw [hg]; first | exact lkF_s _ _ _ _ (by rw [lk1, if_pos ⟨zc44, zc57⟩]) | exact lkF_k _ _ _ _ (by rw [lk1, if_neg (by first | exact fun zq => zc57 zq.2 | exact fun zq => zc44 zq.1)])) _ _ _ zl9_0 zl9_1 zl9_2 (fun j zm0 => zlf9 j zm0) zw4 _ (lv_sub hl [3, 4, 0] rfl)
        · rw [dec_in (by omega)] at zc44
          refine lv_iload hx hb dX8_links_47 (lv_at hl 0 rfl) ?_
          refine lv_i2l (v := (dec (pk (3 + 2 * i))).toInt64) hx hb dX8_links_49 rfl ?_
          refine lv_lconst (v := (nI 0).toInt64) hx hb dX8_links_50 (by decide) ?_
          refine lv_ldc2 (v := 9) hx hb hown (hts (.constantLong RX8 100 (9)) (by decide +kernel)) dX8_links_51 ?_
          refine r_asL (nI 9).toInt64 (by decide) ?_
          refine r_sI C zw4 hl.1 [.long ((dec (pk (3 + 2 * i))).toInt64), .long ((nI 0).toInt64), .long ((nI 9).toInt64)] 3 rfl (c_X8_in (l := l) (G := G) (tC := tC) (ad := ad) (N := N) (E := zE_9) (x := (dec (pk (3 + 2 * i)))) (a := (nI 0)) (b := (nI 9))   ) gX8_links_X8_in rfl ⟨rfl, rfl⟩ (by decide +kernel) ⟨Nat.le_of_ble_eq_true rfl, Nat.le_of_ble_eq_true rfl⟩ (rest := []) rfl (Nat.le_of_ble_eq_true rfl) dX8_links_54 ⟨Nat.zero_le _, Nat.zero_le _⟩ (fun zr5 zE5 zH5 zL5 zp5 zw5 => ?_)
          obtain ⟨ze5, zq5⟩ := zp5
          rw [ze5] at zw5
          clear ze5
          rw [zq5]
          refine b_if_eq (tgt := 81) hx hb dX8_links_57 (by decide) (fun zc57 => ?_) (fun zc57 => ?_)
          · first | rw [dec_in (by omega)] at zc57 | rw [dec_in (by omega)] at zc44 | skip
            refine lv_iinc (v := nI (i + 1)) (lv' := [(2, .int (nI (i + 1))), (4, .int (dec (pk (3 + 2 * i)))), (3, .int (dec (pk (2 + 2 * i)))), (0, .ref (ad q)), (1, .int (nI k))]) hx hb dX8_links_81 hl (k := 4) rfl (by rw [show Int32.ofInt 1 = nI 1 from rfl, nI_add]) (by decide) rfl (fun ls hl => ?_)
            refine lv_goto (tgt := 9) hx hb dX8_links_84 (by decide) ?_
            exact zih9 (i + 1) g (by omega) (by omega) (by rw [hg]; first | exact lkF_s _ _ _ _ (by rw [lk1, if_pos ⟨zc44, zc57⟩]) | exact lkF_k _ _ _ _ (by rw [lk1, if_neg (by first | exact fun zq => zc57 zq.2 | exact fun zq => zc44 zq.1)])) _ _ _ zl9_0 zl9_1 zl9_2 (fun j zm0 => zlf9 j zm0) zw5 _ (lv_sub hl [3, 4, 0] rfl)
          · rw [dec_in (by omega)] at zc57
            refine lv_aload_n hx hb dX8_links_60 rfl (lv_at hl 2 rfl) ?_
            refine r_get C zw5 RX8 TX8 17 5 hinX8 (i := q) (by omega) zl9_0 rfl 1 (by decide) (by decide +kernel) rfl (v := .ref (ad (q + 1))) rfl dX8_links_61 ?_
            refine lv_iload_n hx hb dX8_links_64 rfl (lv_at hl 3 rfl) ?_
            refine r_sI C zw5 hl.1 [.int (nI k)] 1 rfl (c_X8_at (l := l) (G := G) (tC := tC) (ad := ad) (N := N) (E := zE_9) (k := k)   ) gX8_links_X8_at rfl ⟨rfl, rfl⟩ (by decide +kernel) ⟨Nat.le_of_ble_eq_true rfl, Nat.le_of_ble_eq_true rfl⟩ (rest := [.ref (ad (q + 1))]) rfl (Nat.le_of_ble_eq_true rfl) dX8_links_65 ⟨Nat.zero_le _, Nat.zero_le _⟩ (fun zr6 zE6 zH6 zL6 zp6 zw6 => ?_)
            obtain ⟨ze6, zq6⟩ := zp6
            rw [ze6] at zw6
            clear ze6
            rw [zq6]
            refine lv_bipush (v := nI 6) hx hb dX8_links_68 rfl ?_
            refine lv_iadd hx hb dX8_links_70 ?_
            refine r_nat (8 + 50 * k + 6) (nI_add _ _) ?_
            refine lv_iload_n hx hb dX8_links_71 rfl (lv_at hl 4 rfl) ?_
            refine lv_iadd hx hb dX8_links_72 ?_
            refine r_nat (8 + 50 * k + 6 + i) (nI_add _ _) ?_
            refine lv_bipush (v := nI 10) hx hb dX8_links_73 rfl ?_
            refine lv_iload hx hb dX8_links_75 (lv_at hl 0 rfl) ?_
            refine r_nat (decN (pk (3 + 2 * i))) (dec_lt (by omega)) ?_
            refine lv_imul hx hb dX8_links_77 ?_
            refine r_nat (10 * (decN (pk (3 + 2 * i)))) (pk_mul _ _) ?_
            refine lv_iload_n hx hb dX8_links_78 rfl (lv_at hl 1 rfl) ?_
            refine r_nat (decN (pk (2 + 2 * i))) (dec_lt (by omega)) ?_
            refine lv_iadd hx hb dX8_links_79 ?_
            refine r_nat (10 * (decN (pk (3 + 2 * i))) + decN (pk (2 + 2 * i))) (nI_add _ _) ?_
            refine r_iasN C zw6 (i := (q + 1)) (by omega) zl9_2 (j := 8 + 50 * k + 6 + i) (by omega) (by omega) dX8_links_80 (fun zE7 zH7 zL7 zg7 zf7 zw7 => ?_)
            have zh7_0 : zE7 (q + 1) = eI G 508 (upd g (8 + 50 * k + 6 + i) (nI (10 * (decN (pk (3 + 2 * i))) + decN (pk (2 + 2 * i))))) := zg7
            have zk7_0 : zE7 q = .inr (5, [.int th, .ref (ad (q + 1)), .long se, .ref (ad (q + 2)), .ref (ad (q + 3)), .int (nI co), .ref (ad (q + 4)), .int (nI pm), .ref (ad (q + 5)), .ref (ad (q + 6)), .ref (ad (q + 7)), .ref (ad (q + 8)), .int (nI em), .ref (ad (q + 9)), .ref (ad (q + 10)), .ref (ad (q + 11)), .ref (ad (q + 12))]) := (zf7 _ (by omega)).trans zl9_0
            have zk7_1 : zE7 (q + 2) = eI G 10 pt := (zf7 _ (by omega)).trans zl9_1
            have zfr7 : ∀ j, j ≠ (q + 1) → zE7 j = E j := fun j zm0 => (zf7 j zm0).trans (zlf9 j zm0)
            first | rw [dec_in (by omega)] at zc57 | rw [dec_in (by omega)] at zc44 | skip
            refine lv_iinc (v := nI (i + 1)) (lv' := [(2, .int (nI (i + 1))), (4, .int (dec (pk (3 + 2 * i)))), (3, .int (dec (pk (2 + 2 * i)))), (0, .ref (ad q)), (1, .int (nI k))]) hx hb dX8_links_81 hl (k := 4) rfl (by rw [show Int32.ofInt 1 = nI 1 from rfl, nI_add]) (by decide) rfl (fun ls hl => ?_)
            refine lv_goto (tgt := 9) hx hb dX8_links_84 (by decide) ?_
            exact zih9 (i + 1) (upd g (8 + 50 * k + 6 + i) (nI (10 * (decN (pk (3 + 2 * i))) + decN (pk (2 + 2 * i))))) (by omega) (by omega) (by rw [hg]; first | exact lkF_s _ _ _ _ (by rw [lk1, if_pos ⟨zc44, zc57⟩]) | exact lkF_k _ _ _ _ (by rw [lk1, if_neg (by first | exact fun zq => zc57 zq.2 | exact fun zq => zc44 zq.1)])) _ _ _ zk7_0 zk7_1 zh7_0 (fun j zm0 => zfr7 j zm0) zw7 _ (lv_sub hl [3, 4, 0] rfl)
  exact zlp9 _ 0 (upd s 3 (mdF pk 2 (9 + 1 - 2) (s 3))) (Nat.lt_succ_self _) (by omega) (by exact (lkF_0 _ _ _).symm) _ _ _ zk1_0 zk1_1 zh1_0 (fun j zm0 => zfr1 j zm0) zw1 _ (lv_sub hl [1, 2, 0] rfl)

set_option maxHeartbeats 4000000 in
set_option maxRecDepth 100000 in
theorem c_X8_takes {l : Launch} {G : vG} {tC : Nat} {ad : Nat → Nat} {N : Nat} {E : Nat → va_E} {q co pm em : Nat} {th : Int32} {se : Int64} {pg : Nat} {s : Nat → Int32} {pt : Nat → Int32} {pk : Nat → Nat} (hN0 : q + 13 ≤ N) (hE0 : E q = .inr (5, [.int th, .ref (ad (q + 1)), .long se, .ref (ad (q + 2)), .ref (ad (q + 3)), .int (nI co), .ref (ad (q + 4)), .int (nI pm), .ref (ad (q + 5)), .ref (ad (q + 6)), .ref (ad (q + 7)), .ref (ad (q + 8)), .int (nI em), .ref (ad (q + 9)), .ref (ad (q + 10)), .ref (ad (q + 11)), .ref (ad (q + 12))])) (hE1 : E (q + 1) = eI G 508 s) (hE2 : E (q + 2) = eI G 10 pt) (hs0 : s 0 = nI pg) (hpg : pg ≤ 10) (hpk : ∀ j, j < 10 → pt j = nI (pk j) ∧ pk j < 256) (hop : opOk s pg) : MI l yX8_takes wsX8_takes ({ frames := 6, cells := 0, slots := 0, locals := 138 } : Room) G tC ad N E [.ref (ad q)] (fun r E2 => E2 (q + 1) = eI G 508 (tkF s pg pk) ∧ (∀ j, j ≠ (q + 1) → E2 j = E j) ∧ r = if tkB s pk then 1 else 0) := by
  refine MI_of RX8 rfl (by decide) rfl (Nat.le_of_ble_eq_true rfl) ?_
  intro pp_ ee_ ss_ mm_ aa_ bb_ me_ cc_ A ls C hw hl
  have hx := C.1
  have hb := C.2.1
  have hown := C.2.2.2.2.1
  have hts := C.2.2.2.2.2.1
  have hl : lv_has ls 4 [(0, .ref (ad q))] := hl
  have hinX8 : ∀ w ∈ u_ws RX8 TX8 17, w ∈ wsX8_takes := by decide +kernel
  refine lv_aload_n hx hb dX8_takes_0 rfl (lv_at hl 0 rfl) ?_
  refine lv_iconst (v := nI 0) hx hb dX8_takes_1 rfl ?_
  refine lv_iconst (v := nI 1) hx hb dX8_takes_2 rfl ?_
  refine r_vV C hw hl.1 (i := q) (by omega) hE0 (T := TX8) (n := 17) rfl [.int (nI 0), .int (nI 1)] 2 rfl (c_X8_mends (l := l) (G := G) (tC := tC) (ad := ad) (N := N) (E := E) (q := q) (co := co) (pm := pm) (em := em) (th := th) (se := se) (s := s) (pt := pt) (pk := pk) (a := 0) (b := 1) (by omega) hE0 hE1 hE2 (by first | assumption | omega) (by first | assumption | omega) (by first | assumption | omega)) gX8_takes_X8_mends rfl ⟨rfl, rfl⟩ (by decide +kernel) ⟨Nat.le_of_ble_eq_true rfl, Nat.le_of_ble_eq_true rfl⟩ (rest := []) rfl (Nat.le_of_ble_eq_true rfl) dX8_takes_3 ⟨Nat.zero_le _, Nat.zero_le _⟩ (fun zE1 zH1 zL1 zp1 zw1 => ?_)
  obtain ⟨zg1_0, zf1⟩ := zp1
  have zh1_0 : zE1 (q + 1) = eI G 508 (upd s 3 (mdF pk 0 (1 + 1 - 0) (s 3))) := zg1_0
  have zk1_0 : zE1 q = .inr (5, [.int th, .ref (ad (q + 1)), .long se, .ref (ad (q + 2)), .ref (ad (q + 3)), .int (nI co), .ref (ad (q + 4)), .int (nI pm), .ref (ad (q + 5)), .ref (ad (q + 6)), .ref (ad (q + 7)), .ref (ad (q + 8)), .int (nI em), .ref (ad (q + 9)), .ref (ad (q + 10)), .ref (ad (q + 11)), .ref (ad (q + 12))]) := (zf1 _ (by omega)).trans hE0
  have zk1_1 : zE1 (q + 2) = eI G 10 pt := (zf1 _ (by omega)).trans hE2
  have zfr1 : ∀ j, j ≠ (q + 1) → zE1 j = E j := fun j zm0 => zf1 j zm0
  refine lv_aload_n hx hb dX8_takes_6 rfl (lv_at hl 0 rfl) ?_
  refine lv_iconst (v := nI 0) hx hb dX8_takes_7 rfl ?_
  refine r_vI C zw1 hl.1 (i := q) (by omega) zk1_0 (T := TX8) (n := 17) rfl [.int (nI 0)] 1 rfl (c_X8_number (l := l) (G := G) (tC := tC) (ad := ad) (N := N) (E := zE1) (q := q) (co := co) (pm := pm) (em := em) (th := th) (se := se) (pt := pt) (pk := pk) (k := 0) (by omega) zk1_0 zk1_1 (by first | assumption | omega) (by first | assumption | omega)) gX8_takes_X8_number rfl ⟨rfl, rfl⟩ (by decide +kernel) ⟨Nat.le_of_ble_eq_true rfl, Nat.le_of_ble_eq_true rfl⟩ (rest := []) rfl (Nat.le_of_ble_eq_true rfl) dX8_takes_8 ⟨Nat.zero_le _, Nat.zero_le _⟩ (fun zr2 zE2 zH2 zL2 zp2 zw2 => ?_)
  obtain ⟨ze2, zq2⟩ := zp2
  rw [ze2] at zw2
  clear ze2
  rw [zq2]
  refine lv_istore_n (lv' := [(1, .int (dec (pk 0))), (0, .ref (ad q))]) hx hb dX8_takes_11 rfl hl (by decide) rfl (fun ls hl => ?_)
  refine lv_aload_n hx hb dX8_takes_12 rfl (lv_at hl 1 rfl) ?_
  refine lv_iconst (v := nI 1) hx hb dX8_takes_13 rfl ?_
  refine r_vI C zw2 hl.1 (i := q) (by omega) zk1_0 (T := TX8) (n := 17) rfl [.int (nI 1)] 1 rfl (c_X8_number (l := l) (G := G) (tC := tC) (ad := ad) (N := N) (E := zE1) (q := q) (co := co) (pm := pm) (em := em) (th := th) (se := se) (pt := pt) (pk := pk) (k := 1) (by omega) zk1_0 zk1_1 (by first | assumption | omega) (by first | assumption | omega)) gX8_takes_X8_number rfl ⟨rfl, rfl⟩ (by decide +kernel) ⟨Nat.le_of_ble_eq_true rfl, Nat.le_of_ble_eq_true rfl⟩ (rest := []) rfl (Nat.le_of_ble_eq_true rfl) dX8_takes_14 ⟨Nat.zero_le _, Nat.zero_le _⟩ (fun zr3 zE3 zH3 zL3 zp3 zw3 => ?_)
  obtain ⟨ze3, zq3⟩ := zp3
  rw [ze3] at zw3
  clear ze3
  rw [zq3]
  refine lv_istore_n (lv' := [(2, .int (dec (pk 1))), (1, .int (dec (pk 0))), (0, .ref (ad q))]) hx hb dX8_takes_17 rfl hl (by decide) rfl (fun ls hl => ?_)
  refine lv_iload_n hx hb dX8_takes_18 rfl (lv_at hl 1 rfl) ?_
  refine lv_i2l (v := (dec (pk 0)).toInt64) hx hb dX8_takes_19 rfl ?_
  refine lv_lconst (v := (nI 0).toInt64) hx hb dX8_takes_20 (by decide) ?_
  refine lv_ldc2 (v := 3) hx hb hown (hts (.constantLong RX8 115 (3)) (by decide +kernel)) dX8_takes_21 ?_
  refine r_asL (nI 3).toInt64 (by decide) ?_
  refine r_sI C zw3 hl.1 [.long ((dec (pk 0)).toInt64), .long ((nI 0).toInt64), .long ((nI 3).toInt64)] 3 rfl (c_X8_in (l := l) (G := G) (tC := tC) (ad := ad) (N := N) (E := zE1) (x := (dec (pk 0))) (a := (nI 0)) (b := (nI 3))   ) gX8_takes_X8_in rfl ⟨rfl, rfl⟩ (by decide +kernel) ⟨Nat.le_of_ble_eq_true rfl, Nat.le_of_ble_eq_true rfl⟩ (rest := []) rfl (Nat.le_of_ble_eq_true rfl) dX8_takes_24 ⟨Nat.zero_le _, Nat.zero_le _⟩ (fun zr4 zE4 zH4 zL4 zp4 zw4 => ?_)
  obtain ⟨ze4, zq4⟩ := zp4
  rw [ze4] at zw4
  clear ze4
  rw [zq4]
  refine b_if_eq (tgt := 42) hx hb dX8_takes_27 (by decide) (fun zc27 => ?_) (fun zc27 => ?_)
  · first | rw [dec_in (by omega)] at zc39 | rw [dec_in (by omega)] at zc27 | skip
    refine lv_iconst (v := nI 0) hx hb dX8_takes_42 rfl ?_
    exact r_zret C zw4 dX8_takes_43 (Or.inl rfl) ⟨(zh1_0.trans (by rw [tkF, if_neg (fun zq => by first | exact zc39 zq.2 | exact zc27 zq.1)]; rfl)), (fun j zm0 => zfr1 j zm0), (by rw [if_neg (fun zq => absurd zq.1 (fun zq => by first | exact zc39 zq.2 | exact zc27 zq.1))]; rfl)⟩
  · rw [dec_in (by omega)] at zc27
    refine lv_iload_n hx hb dX8_takes_30 rfl (lv_at hl 0 rfl) ?_
    refine lv_i2l (v := (dec (pk 1)).toInt64) hx hb dX8_takes_31 rfl ?_
    refine lv_lconst (v := (nI 0).toInt64) hx hb dX8_takes_32 (by decide) ?_
    refine lv_ldc2 (v := 7) hx hb hown (hts (.constantLong RX8 102 (7)) (by decide +kernel)) dX8_takes_33 ?_
    refine r_asL (nI 7).toInt64 (by decide) ?_
    refine r_sI C zw4 hl.1 [.long ((dec (pk 1)).toInt64), .long ((nI 0).toInt64), .long ((nI 7).toInt64)] 3 rfl (c_X8_in (l := l) (G := G) (tC := tC) (ad := ad) (N := N) (E := zE1) (x := (dec (pk 1))) (a := (nI 0)) (b := (nI 7))   ) gX8_takes_X8_in rfl ⟨rfl, rfl⟩ (by decide +kernel) ⟨Nat.le_of_ble_eq_true rfl, Nat.le_of_ble_eq_true rfl⟩ (rest := []) rfl (Nat.le_of_ble_eq_true rfl) dX8_takes_36 ⟨Nat.zero_le _, Nat.zero_le _⟩ (fun zr5 zE5 zH5 zL5 zp5 zw5 => ?_)
    obtain ⟨ze5, zq5⟩ := zp5
    rw [ze5] at zw5
    clear ze5
    rw [zq5]
    refine b_if_ne (tgt := 44) hx hb dX8_takes_39 (by decide) (fun zc39 => ?_) (fun zc39 => ?_)
    · rw [dec_in (by omega)] at zc39
      refine lv_iload_n hx hb dX8_takes_44 rfl (lv_at hl 0 rfl) ?_
      refine r_nat (decN (pk 1)) (dec_lt (by omega)) ?_
      refine n_if_ne (tgt := 60) hx hb dX8_takes_45 (by decide) (by omega) (fun zc45 => ?_) (fun zc45 => ?_)
      · refine lv_iload_n hx hb dX8_takes_60 rfl (lv_at hl 0 rfl) ?_
        refine r_nat (decN (pk 1)) (dec_lt (by omega)) ?_
        refine lv_bipush (v := nI 7) hx hb dX8_takes_61 rfl ?_
        refine n_icmp_ne (tgt := 68) hx hb dX8_takes_63 (by decide) (by omega) (by omega) (fun zc63 => ?_) (fun zc63 => ?_)
        · refine lv_aload_n hx hb dX8_takes_68 rfl (lv_at hl 2 rfl) ?_
          refine r_get C zw5 RX8 TX8 17 5 hinX8 (i := q) (by omega) zk1_0 rfl 1 (by decide) (by decide +kernel) rfl (v := .ref (ad (q + 1))) rfl dX8_takes_69 ?_
          refine lv_iconst (v := nI 4) hx hb dX8_takes_72 rfl ?_
          refine lv_iload_n hx hb dX8_takes_73 rfl (lv_at hl 1 rfl) ?_
          refine r_nat (decN (pk 0)) (dec_lt (by omega)) ?_
          refine lv_iadd hx hb dX8_takes_74 ?_
          refine r_nat (4 + decN (pk 0)) (nI_add _ _) ?_
          refine r_iaN C zw5 (i := (q + 1)) (by omega) zh1_0 (j := 4 + decN (pk 0)) (by omega) (by omega) dX8_takes_75 ?_
          refine r_as (s (4 + decN (pk 0))) (upd_n _ _ (by omega)) ?_
          refine lv_istore_n (lv' := [(3, .int (s (4 + decN (pk 0)))), (2, .int (dec (pk 1))), (1, .int (dec (pk 0))), (0, .ref (ad q))]) hx hb dX8_takes_76 rfl hl (by decide) rfl (fun ls hl => ?_)
          refine lv_iload_n hx hb dX8_takes_77 rfl (lv_at hl 0 rfl) ?_
          refine lv_iconst (v := -1) hx hb dX8_takes_78 (by decide) ?_
          refine lv_icmp_ne (tgt := 84) hx hb dX8_takes_79 (by decide) (fun zc79 => ?_) (fun zc79 => ?_)
          · obtain ⟨zo1, zo2⟩ := opOk_nat hop (by omega) hpg zc79
            refine lv_iload_n hx hb dX8_takes_84 rfl (lv_at hl 1 rfl) ?_
            refine r_nat (decN (pk 1)) (dec_lt (by omega)) ?_
            refine lv_bipush (v := nI 6) hx hb dX8_takes_85 rfl ?_
            refine n_icmp_ne (tgt := 98) hx hb dX8_takes_87 (by decide) (by omega) (by omega) (fun zc87 => ?_) (fun zc87 => ?_)
            · refine lv_aload_n hx hb dX8_takes_98 rfl (lv_at hl 3 rfl) ?_
              refine lv_iload_n hx hb dX8_takes_99 rfl (lv_at hl 0 rfl) ?_
              refine r_nat ((s (4 + decN (pk 0))).toNatClampNeg) zo1 ?_
              refine lv_iload_n hx hb dX8_takes_100 rfl (lv_at hl 1 rfl) ?_
              refine r_nat (decN (pk 1)) (dec_lt (by omega)) ?_
              refine lv_iconst (v := nI 1) hx hb dX8_takes_101 rfl ?_
              refine lv_isub hx hb dX8_takes_102 ?_
              refine r_nat (decN (pk 1) - 1) (pk_sub (by omega)) ?_
              refine r_vV C zw5 hl.1 (i := q) (by omega) zk1_0 (T := TX8) (n := 17) rfl [.int (nI ((s (4 + decN (pk 0))).toNatClampNeg)), .int (nI (decN (pk 1) - 1))] 2 rfl (c_X8_rows (l := l) (G := G) (tC := tC) (ad := ad) (N := N) (E := zE1) (q := q) (co := co) (pm := pm) (em := em) (th := th) (se := se) (s := upd s 3 (mdF pk 0 (1 + 1 - 0) (s 3))) (pt := pt) (pk := pk) (k := (s (4 + decN (pk 0))).toNatClampNeg) (row := decN (pk 1) - 1) (by omega) zk1_0 zh1_0 zk1_1 (by first | assumption | omega) (by first | assumption | omega) (by first | assumption | omega)) gX8_takes_X8_rows rfl ⟨rfl, rfl⟩ (by decide +kernel) ⟨Nat.le_of_ble_eq_true rfl, Nat.le_of_ble_eq_true rfl⟩ (rest := []) rfl (Nat.le_of_ble_eq_true rfl) dX8_takes_103 ⟨Nat.zero_le _, Nat.zero_le _⟩ (fun zE6 zH6 zL6 zp6 zw6 => ?_)
              obtain ⟨zg6_0, zf6⟩ := zp6
              have zh6_0 : zE6 (q + 1) = eI G 508 (rowF (upd s 3 (mdF pk 0 (1 + 1 - 0) (s 3))) ((s (4 + decN (pk 0))).toNatClampNeg) (decN (pk 1) - 1) pk) := zg6_0
              have zk6_0 : zE6 q = .inr (5, [.int th, .ref (ad (q + 1)), .long se, .ref (ad (q + 2)), .ref (ad (q + 3)), .int (nI co), .ref (ad (q + 4)), .int (nI pm), .ref (ad (q + 5)), .ref (ad (q + 6)), .ref (ad (q + 7)), .ref (ad (q + 8)), .int (nI em), .ref (ad (q + 9)), .ref (ad (q + 10)), .ref (ad (q + 11)), .ref (ad (q + 12))]) := (zf6 _ (by omega)).trans zk1_0
              have zk6_1 : zE6 (q + 2) = eI G 10 pt := (zf6 _ (by omega)).trans zk1_1
              have zfr6 : ∀ j, j ≠ (q + 1) → zE6 j = E j := fun j zm0 => (zf6 j zm0).trans (zfr1 j zm0)
              refine lv_iconst (v := nI 1) hx hb dX8_takes_106 rfl ?_
              exact r_zret C zw6 dX8_takes_107 (Or.inr rfl) ⟨(zh6_0.trans (by rw [tkF, if_pos ⟨zc27, zc39⟩, if_neg zc45, if_neg zc63, if_neg zc79]; first | (rw [if_pos zc87]; rfl) | (rw [if_neg zc87]; rfl))), (fun j zm0 => zfr6 j zm0), (by rw [if_pos ⟨⟨zc27, zc39⟩, Or.inr (Or.inr ⟨zc45, zc79⟩)⟩]; rfl)⟩
            · refine lv_aload_n hx hb dX8_takes_90 rfl (lv_at hl 3 rfl) ?_
              refine lv_iload_n hx hb dX8_takes_91 rfl (lv_at hl 0 rfl) ?_
              refine r_nat ((s (4 + decN (pk 0))).toNatClampNeg) zo1 ?_
              refine r_vV C zw5 hl.1 (i := q) (by omega) zk1_0 (T := TX8) (n := 17) rfl [.int (nI ((s (4 + decN (pk 0))).toNatClampNeg))] 1 rfl (c_X8_links (l := l) (G := G) (tC := tC) (ad := ad) (N := N) (E := zE1) (q := q) (co := co) (pm := pm) (em := em) (th := th) (se := se) (s := upd s 3 (mdF pk 0 (1 + 1 - 0) (s 3))) (pt := pt) (pk := pk) (k := (s (4 + decN (pk 0))).toNatClampNeg) (by omega) zk1_0 zh1_0 zk1_1 (by first | assumption | omega) (by first | assumption | omega)) gX8_takes_X8_links rfl ⟨rfl, rfl⟩ (by decide +kernel) ⟨Nat.le_of_ble_eq_true rfl, Nat.le_of_ble_eq_true rfl⟩ (rest := []) rfl (Nat.le_of_ble_eq_true rfl) dX8_takes_92 ⟨Nat.zero_le _, Nat.zero_le _⟩ (fun zE7 zH7 zL7 zp7 zw7 => ?_)
              obtain ⟨zg7_0, zf7⟩ := zp7
              have zh7_0 : zE7 (q + 1) = eI G 508 (linkF (upd s 3 (mdF pk 0 (1 + 1 - 0) (s 3))) ((s (4 + decN (pk 0))).toNatClampNeg) pk) := zg7_0
              have zk7_0 : zE7 q = .inr (5, [.int th, .ref (ad (q + 1)), .long se, .ref (ad (q + 2)), .ref (ad (q + 3)), .int (nI co), .ref (ad (q + 4)), .int (nI pm), .ref (ad (q + 5)), .ref (ad (q + 6)), .ref (ad (q + 7)), .ref (ad (q + 8)), .int (nI em), .ref (ad (q + 9)), .ref (ad (q + 10)), .ref (ad (q + 11)), .ref (ad (q + 12))]) := (zf7 _ (by omega)).trans zk1_0
              have zk7_1 : zE7 (q + 2) = eI G 10 pt := (zf7 _ (by omega)).trans zk1_1
              have zfr7 : ∀ j, j ≠ (q + 1) → zE7 j = E j := fun j zm0 => (zf7 j zm0).trans (zfr1 j zm0)
              refine lv_goto (tgt := 106) hx hb dX8_takes_95 (by decide) ?_
              refine lv_iconst (v := nI 1) hx hb dX8_takes_106 rfl ?_
              exact r_zret C zw7 dX8_takes_107 (Or.inr rfl) ⟨(zh7_0.trans (by rw [tkF, if_pos ⟨zc27, zc39⟩, if_neg zc45, if_neg zc63, if_neg zc79]; first | (rw [if_pos zc87]; rfl) | (rw [if_neg zc87]; rfl))), (fun j zm0 => zfr7 j zm0), (by rw [if_pos ⟨⟨zc27, zc39⟩, Or.inr (Or.inr ⟨zc45, zc79⟩)⟩]; rfl)⟩
          · refine lv_iconst (v := nI 0) hx hb dX8_takes_82 rfl ?_
            exact r_zret C zw5 dX8_takes_83 (Or.inl rfl) ⟨(zh1_0.trans (by rw [tkF, if_pos ⟨zc27, zc39⟩, if_neg zc45, if_neg zc63, if_pos zc79]; rfl)), (fun j zm0 => zfr1 j zm0), (by rw [if_neg (fun zq => zq.2.elim (fun z => zc45 z.1) (fun z => z.elim zc63 (fun z => z.2 zc79)))]; rfl)⟩
        · refine lv_iconst (v := nI 1) hx hb dX8_takes_66 rfl ?_
          exact r_zret C zw5 dX8_takes_67 (Or.inr rfl) ⟨(zh1_0.trans (by rw [tkF, if_pos ⟨zc27, zc39⟩, if_neg zc45, if_pos zc63]; rfl)), (fun j zm0 => zfr1 j zm0), (by rw [if_pos ⟨⟨zc27, zc39⟩, Or.inr (Or.inl zc63)⟩]; rfl)⟩
      · refine lv_aload_n hx hb dX8_takes_48 rfl (lv_at hl 2 rfl) ?_
        refine lv_iconst (v := nI 2) hx hb dX8_takes_49 rfl ?_
        refine lv_iconst (v := nI 5) hx hb dX8_takes_50 rfl ?_
        refine r_vV C zw5 hl.1 (i := q) (by omega) zk1_0 (T := TX8) (n := 17) rfl [.int (nI 2), .int (nI 5)] 2 rfl (c_X8_mends (l := l) (G := G) (tC := tC) (ad := ad) (N := N) (E := zE1) (q := q) (co := co) (pm := pm) (em := em) (th := th) (se := se) (s := upd s 3 (mdF pk 0 (1 + 1 - 0) (s 3))) (pt := pt) (pk := pk) (a := 2) (b := 5) (by omega) zk1_0 zh1_0 zk1_1 (by first | assumption | omega) (by first | assumption | omega) (by first | assumption | omega)) gX8_takes_X8_mends rfl ⟨rfl, rfl⟩ (by decide +kernel) ⟨Nat.le_of_ble_eq_true rfl, Nat.le_of_ble_eq_true rfl⟩ (rest := []) rfl (Nat.le_of_ble_eq_true rfl) dX8_takes_51 ⟨Nat.zero_le _, Nat.zero_le _⟩ (fun zE8 zH8 zL8 zp8 zw8 => ?_)
        obtain ⟨zg8_0, zf8⟩ := zp8
        have zh8_0 : zE8 (q + 1) = eI G 508 (upd (upd s 3 (mdF pk 0 (1 + 1 - 0) (s 3))) 3 (mdF pk 2 (5 + 1 - 2) ((upd s 3 (mdF pk 0 (1 + 1 - 0) (s 3))) 3))) := zg8_0
        have zk8_0 : zE8 q = .inr (5, [.int th, .ref (ad (q + 1)), .long se, .ref (ad (q + 2)), .ref (ad (q + 3)), .int (nI co), .ref (ad (q + 4)), .int (nI pm), .ref (ad (q + 5)), .ref (ad (q + 6)), .ref (ad (q + 7)), .ref (ad (q + 8)), .int (nI em), .ref (ad (q + 9)), .ref (ad (q + 10)), .ref (ad (q + 11)), .ref (ad (q + 12))]) := (zf8 _ (by omega)).trans zk1_0
        have zk8_1 : zE8 (q + 2) = eI G 10 pt := (zf8 _ (by omega)).trans zk1_1
        have zfr8 : ∀ j, j ≠ (q + 1) → zE8 j = E j := fun j zm0 => (zf8 j zm0).trans (zfr1 j zm0)
        refine lv_aload_n hx hb dX8_takes_54 rfl (lv_at hl 2 rfl) ?_
        refine lv_iload_n hx hb dX8_takes_55 rfl (lv_at hl 1 rfl) ?_
        refine r_nat (decN (pk 0)) (dec_lt (by omega)) ?_
        refine r_vI C zw8 hl.1 (i := q) (by omega) zk8_0 (T := TX8) (n := 17) rfl [.int (nI (decN (pk 0)))] 1 rfl (c_X8_heads (l := l) (G := G) (tC := tC) (ad := ad) (N := N) (E := zE8) (q := q) (co := co) (pm := pm) (em := em) (th := th) (se := se) (pg := pg) (s := upd (upd s 3 (mdF pk 0 (1 + 1 - 0) (s 3))) 3 (mdF pk 2 (5 + 1 - 2) ((upd s 3 (mdF pk 0 (1 + 1 - 0) (s 3))) 3))) (pt := pt) (pk := pk) (b := decN (pk 0)) (by omega) zk8_0 zh8_0 zk8_1 (by simp only [upd]; exact hs0) (by first | assumption | omega) (by first | assumption | omega) (by first | assumption | omega)) gX8_takes_X8_heads rfl ⟨rfl, rfl⟩ (by decide +kernel) ⟨Nat.le_of_ble_eq_true rfl, Nat.le_of_ble_eq_true rfl⟩ (rest := []) rfl (Nat.le_of_ble_eq_true rfl) dX8_takes_56 ⟨Nat.zero_le _, Nat.zero_le _⟩ (fun zr9 zE9 zH9 zL9 zp9 zw9 => ?_)
        obtain ⟨zg9_0, zf9, zq9⟩ := zp9
        have zh9_0 : zE9 (q + 1) = eI G 508 (hdF (upd (upd s 3 (mdF pk 0 (1 + 1 - 0) (s 3))) 3 (mdF pk 2 (5 + 1 - 2) ((upd s 3 (mdF pk 0 (1 + 1 - 0) (s 3))) 3))) pg pk (decN (pk 0))) := zg9_0
        have zk9_0 : zE9 q = .inr (5, [.int th, .ref (ad (q + 1)), .long se, .ref (ad (q + 2)), .ref (ad (q + 3)), .int (nI co), .ref (ad (q + 4)), .int (nI pm), .ref (ad (q + 5)), .ref (ad (q + 6)), .ref (ad (q + 7)), .ref (ad (q + 8)), .int (nI em), .ref (ad (q + 9)), .ref (ad (q + 10)), .ref (ad (q + 11)), .ref (ad (q + 12))]) := (zf9 _ (by omega)).trans zk8_0
        have zk9_1 : zE9 (q + 2) = eI G 10 pt := (zf9 _ (by omega)).trans zk8_1
        have zfr9 : ∀ j, j ≠ (q + 1) → zE9 j = E j := fun j zm0 => (zf9 j zm0).trans (zfr8 j zm0)
        rw [zq9]
        exact r_zret C zw9 dX8_takes_59 (by split <;> simp) ⟨(zh9_0.trans (by rw [tkF, if_pos ⟨zc27, zc39⟩, if_pos zc45]; rfl)), (fun j zm0 => zfr9 j zm0), (by congr 1; apply propext; exact ⟨fun zq => ⟨⟨zc27, zc39⟩, Or.inl ⟨zc45, zq⟩⟩, fun zq => zq.2.elim (fun z => z.2) (fun z => z.elim (fun z => absurd z (by omega)) (fun z => absurd zc45 z.1))⟩)⟩
    · first | rw [dec_in (by omega)] at zc39 | rw [dec_in (by omega)] at zc27 | skip
      refine lv_iconst (v := nI 0) hx hb dX8_takes_42 rfl ?_
      exact r_zret C zw5 dX8_takes_43 (Or.inl rfl) ⟨(zh1_0.trans (by rw [tkF, if_neg (fun zq => by first | exact zc39 zq.2 | exact zc27 zq.1)]; rfl)), (fun j zm0 => zfr1 j zm0), (by rw [if_neg (fun zq => absurd zq.1 (fun zq => by first | exact zc39 zq.2 | exact zc27 zq.1))]; rfl)⟩

set_option maxHeartbeats 4000000 in
set_option maxRecDepth 100000 in
theorem c_X8_comes {l : Launch} {G : vG} {tC : Nat} {ad : Nat → Nat} {N : Nat} {E : Nat → va_E} {q co pm em : Nat} {th : Int32} {se : Int64} {pg : Nat} {s : Nat → Int32} {pt : Nat → Int32} {pk : Nat → Nat} {pa : Nat → Int32} (hN0 : q + 13 ≤ N) (hE0 : E q = .inr (5, [.int th, .ref (ad (q + 1)), .long se, .ref (ad (q + 2)), .ref (ad (q + 3)), .int (nI co), .ref (ad (q + 4)), .int (nI pm), .ref (ad (q + 5)), .ref (ad (q + 6)), .ref (ad (q + 7)), .ref (ad (q + 8)), .int (nI em), .ref (ad (q + 9)), .ref (ad (q + 10)), .ref (ad (q + 11)), .ref (ad (q + 12))])) (hE1 : E (q + 1) = eI G 508 s) (hE2 : E (q + 2) = eI G 10 pt) (hE3 : E (q + 4) = eI G 8128 pa) (hs0 : s 0 = nI pg) (hpg : pg ≤ 10) (hpk : ∀ j, j < 10 → pt j = nI (pk j) ∧ pk j < 256) (hop : opOk s pg) (hpm : pm ≤ 16) : MI l yX8_comes wsX8_comes ({ frames := 7, cells := 0, slots := 0, locals := 161 } : Room) G tC ad N E [.ref (ad q)] (fun r E2 => E2 q = .inr (5, [.int th, .ref (ad (q + 1)), .long se, .ref (ad (q + 2)), .ref (ad (q + 3)), .int (nI co), .ref (ad (q + 4)), .int (nI (ntK pm + 1)), .ref (ad (q + 5)), .ref (ad (q + 6)), .ref (ad (q + 7)), .ref (ad (q + 8)), .int (nI em), .ref (ad (q + 9)), .ref (ad (q + 10)), .ref (ad (q + 11)), .ref (ad (q + 12))]) ∧ E2 (q + 1) = eI G 508 (cmF s pg pk) ∧ E2 (q + 4) = eI G 8128 (ntF pa pm s) ∧ (∀ j, j ≠ q → j ≠ (q + 1) → j ≠ (q + 4) → E2 j = E j) ∧ r = if tkB s pk then 1 else 0) := by
  refine MI_of RX8 rfl (by decide) rfl (Nat.le_of_ble_eq_true rfl) ?_
  intro pp_ ee_ ss_ mm_ aa_ bb_ me_ cc_ A ls C hw hl
  have hx := C.1
  have hb := C.2.1
  have hown := C.2.2.2.2.1
  have hts := C.2.2.2.2.2.1
  have hl : lv_has ls 1 [(0, .ref (ad q))] := hl
  have hinX8 : ∀ w ∈ u_ws RX8 TX8 17, w ∈ wsX8_comes := by decide +kernel
  refine lv_aload_n hx hb dX8_comes_0 rfl (lv_at hl 0 rfl) ?_
  refine r_vV C hw hl.1 (i := q) (by omega) hE0 (T := TX8) (n := 17) rfl [] 0 rfl (c_X8_notes (l := l) (G := G) (tC := tC) (ad := ad) (N := N) (E := E) (q := q) (co := co) (pm := pm) (em := em) (th := th) (se := se) (s := s) (pa := pa) (by omega) hE0 hE1 hE3 (by first | assumption | omega)) gX8_comes_X8_notes rfl ⟨rfl, rfl⟩ (by decide +kernel) ⟨Nat.le_of_ble_eq_true rfl, Nat.le_of_ble_eq_true rfl⟩ (rest := []) rfl (Nat.le_of_ble_eq_true rfl) dX8_comes_1 ⟨Nat.zero_le _, Nat.zero_le _⟩ (fun zE1 zH1 zL1 zp1 zw1 => ?_)
  obtain ⟨zg1_0, zg1_1, zf1⟩ := zp1
  have zh1_0 : zE1 q = .inr (5, [.int th, .ref (ad (q + 1)), .long se, .ref (ad (q + 2)), .ref (ad (q + 3)), .int (nI co), .ref (ad (q + 4)), .int (nI (ntK pm + 1)), .ref (ad (q + 5)), .ref (ad (q + 6)), .ref (ad (q + 7)), .ref (ad (q + 8)), .int (nI em), .ref (ad (q + 9)), .ref (ad (q + 10)), .ref (ad (q + 11)), .ref (ad (q + 12))]) := zg1_0
  have zh1_1 : zE1 (q + 4) = eI G 8128 (ntF pa pm s) := zg1_1
  have zk1_0 : zE1 (q + 1) = eI G 508 s := (zf1 _ (by omega) (by omega)).trans hE1
  have zk1_1 : zE1 (q + 2) = eI G 10 pt := (zf1 _ (by omega) (by omega)).trans hE2
  have zfr1 : ∀ j, j ≠ q → j ≠ (q + 4) → zE1 j = E j := fun j zm0 zm1 => zf1 j zm0 zm1
  refine lv_aload_n hx hb dX8_comes_4 rfl (lv_at hl 0 rfl) ?_
  refine r_get C zw1 RX8 TX8 17 5 hinX8 (i := q) (by omega) zh1_0 rfl 1 (by decide) (by decide +kernel) rfl (v := .ref (ad (q + 1))) rfl dX8_comes_5 ?_
  refine lv_iconst (v := nI 1) hx hb dX8_comes_8 rfl ?_
  refine lv_dup2_11 hx hb dX8_comes_9 rfl rfl ?_
  refine r_iaN C zw1 (i := (q + 1)) (by omega) zk1_0 (j := 1) (by omega) (by omega) dX8_comes_10 ?_
  refine lv_iconst (v := nI 1) hx hb dX8_comes_11 rfl ?_
  refine lv_iadd hx hb dX8_comes_12 ?_
  refine r_iasN C zw1 (i := (q + 1)) (by omega) zk1_0 (j := 1) (by omega) (by omega) dX8_comes_13 (fun zE2 zH2 zL2 zg2 zf2 zw2 => ?_)
  have zh2_0 : zE2 (q + 1) = eI G 508 (upd s 1 ((s 1) + (nI 1))) := zg2
  have zk2_0 : zE2 (q + 2) = eI G 10 pt := (zf2 _ (by omega)).trans zk1_1
  have zk2_1 : zE2 q = .inr (5, [.int th, .ref (ad (q + 1)), .long se, .ref (ad (q + 2)), .ref (ad (q + 3)), .int (nI co), .ref (ad (q + 4)), .int (nI (ntK pm + 1)), .ref (ad (q + 5)), .ref (ad (q + 6)), .ref (ad (q + 7)), .ref (ad (q + 8)), .int (nI em), .ref (ad (q + 9)), .ref (ad (q + 10)), .ref (ad (q + 11)), .ref (ad (q + 12))]) := (zf2 _ (by omega)).trans zh1_0
  have zk2_2 : zE2 (q + 4) = eI G 8128 (ntF pa pm s) := (zf2 _ (by omega)).trans zh1_1
  have zfr2 : ∀ j, j ≠ q → j ≠ (q + 4) → j ≠ (q + 1) → zE2 j = E j := fun j zm0 zm1 zm2 => (zf2 j zm2).trans (zfr1 j zm0 zm1)
  refine lv_aload_n hx hb dX8_comes_14 rfl (lv_at hl 0 rfl) ?_
  refine r_vI C zw2 hl.1 (i := q) (by omega) zk2_1 (T := TX8) (n := 17) rfl [] 0 rfl (c_X8_takes (l := l) (G := G) (tC := tC) (ad := ad) (N := N) (E := zE2) (q := q) (co := co) (pm := ntK pm + 1) (em := em) (th := th) (se := se) (pg := pg) (s := upd s 1 ((s 1) + (nI 1))) (pt := pt) (pk := pk) (by omega) zk2_1 zh2_0 zk2_0 (by simp only [upd]; exact hs0) (by first | assumption | omega) (by first | assumption | omega) (fun zb zh => by rw [upd_n _ _ (by omega)]; exact hop zb zh)) gX8_comes_X8_takes rfl ⟨rfl, rfl⟩ (by decide +kernel) ⟨Nat.le_of_ble_eq_true rfl, Nat.le_of_ble_eq_true rfl⟩ (rest := []) rfl (Nat.le_of_ble_eq_true rfl) dX8_comes_15 ⟨Nat.zero_le _, Nat.zero_le _⟩ (fun zr3 zE3 zH3 zL3 zp3 zw3 => ?_)
  obtain ⟨zg3_0, zf3, zq3⟩ := zp3
  have zh3_0 : zE3 (q + 1) = eI G 508 (tkF (upd s 1 ((s 1) + (nI 1))) pg pk) := zg3_0
  have zk3_0 : zE3 (q + 2) = eI G 10 pt := (zf3 _ (by omega)).trans zk2_0
  have zk3_1 : zE3 q = .inr (5, [.int th, .ref (ad (q + 1)), .long se, .ref (ad (q + 2)), .ref (ad (q + 3)), .int (nI co), .ref (ad (q + 4)), .int (nI (ntK pm + 1)), .ref (ad (q + 5)), .ref (ad (q + 6)), .ref (ad (q + 7)), .ref (ad (q + 8)), .int (nI em), .ref (ad (q + 9)), .ref (ad (q + 10)), .ref (ad (q + 11)), .ref (ad (q + 12))]) := (zf3 _ (by omega)).trans zk2_1
  have zk3_2 : zE3 (q + 4) = eI G 8128 (ntF pa pm s) := (zf3 _ (by omega)).trans zk2_2
  have zfr3 : ∀ j, j ≠ q → j ≠ (q + 4) → j ≠ (q + 1) → zE3 j = E j := fun j zm0 zm1 zm2 => (zf3 j zm2).trans (zfr2 j zm0 zm1 zm2)
  rw [zq3]
  have ztk : tkB (upd s 1 (s 1 + nI 1)) pk ↔ tkB s pk := by unfold tkB; rw [upd_n _ _ (by omega)]
  refine b_if_eq (tgt := 23) hx hb dX8_comes_18 (by decide) (fun zc18 => ?_) (fun zc18 => ?_)
  · refine lv_aload_n hx hb dX8_comes_23 rfl (lv_at hl 0 rfl) ?_
    refine r_get C zw3 RX8 TX8 17 5 hinX8 (i := q) (by omega) zk3_1 rfl 1 (by decide) (by decide +kernel) rfl (v := .ref (ad (q + 1))) rfl dX8_comes_24 ?_
    refine lv_iconst (v := nI 2) hx hb dX8_comes_27 rfl ?_
    refine lv_dup2_11 hx hb dX8_comes_28 rfl rfl ?_
    refine r_iaN C zw3 (i := (q + 1)) (by omega) zh3_0 (j := 2) (by omega) (by omega) dX8_comes_29 ?_
    refine lv_iconst (v := nI 1) hx hb dX8_comes_30 rfl ?_
    refine lv_iadd hx hb dX8_comes_31 ?_
    refine r_iasN C zw3 (i := (q + 1)) (by omega) zh3_0 (j := 2) (by omega) (by omega) dX8_comes_32 (fun zE4 zH4 zL4 zg4 zf4 zw4 => ?_)
    have zh4_0 : zE4 (q + 1) = eI G 508 (upd (tkF (upd s 1 ((s 1) + (nI 1))) pg pk) 2 (((tkF (upd s 1 ((s 1) + (nI 1))) pg pk) 2) + (nI 1))) := zg4
    have zk4_0 : zE4 (q + 2) = eI G 10 pt := (zf4 _ (by omega)).trans zk3_0
    have zk4_1 : zE4 q = .inr (5, [.int th, .ref (ad (q + 1)), .long se, .ref (ad (q + 2)), .ref (ad (q + 3)), .int (nI co), .ref (ad (q + 4)), .int (nI (ntK pm + 1)), .ref (ad (q + 5)), .ref (ad (q + 6)), .ref (ad (q + 7)), .ref (ad (q + 8)), .int (nI em), .ref (ad (q + 9)), .ref (ad (q + 10)), .ref (ad (q + 11)), .ref (ad (q + 12))]) := (zf4 _ (by omega)).trans zk3_1
    have zk4_2 : zE4 (q + 4) = eI G 8128 (ntF pa pm s) := (zf4 _ (by omega)).trans zk3_2
    have zfr4 : ∀ j, j ≠ q → j ≠ (q + 4) → j ≠ (q + 1) → zE4 j = E j := fun j zm0 zm1 zm2 => (zf4 j zm2).trans (zfr3 j zm0 zm1 zm2)
    refine lv_iconst (v := nI 0) hx hb dX8_comes_33 rfl ?_
    exact r_iret C zw4 dX8_comes_34 ⟨zk4_1, (zh4_0.trans (by rw [cmF, if_neg (fun zq => zc18 (ztk.mpr zq))]; rfl)), zk4_2, (fun j zm0 zm1 zm2 => zfr4 j zm0 zm2 zm1), (by rw [if_neg (fun zq => zc18 (ztk.mpr zq))]; rfl)⟩
  · refine lv_iconst (v := nI 1) hx hb dX8_comes_21 rfl ?_
    exact r_iret C zw3 dX8_comes_22 ⟨zk3_1, (zh3_0.trans (by rw [cmF, if_pos (ztk.mp zc18)]; rfl)), zk3_2, (fun j zm0 zm1 zm2 => zfr3 j zm0 zm2 zm1), (by rw [if_pos (ztk.mp zc18)]; rfl)⟩

set_option maxHeartbeats 4000000 in
set_option maxRecDepth 100000 in
theorem c_X8_laid {l : Launch} {G : vG} {tC : Nat} {ad : Nat → Nat} {N : Nat} {E : Nat → va_E} {kd v : Nat} (hkd : kd < 16) (hv : v < 16) : MI l yX8_laid wsX8_laid ({ frames := 2, cells := 0, slots := 0, locals := 48 } : Room) G tC ad N E [.int (nI kd), .int (nI v)] (fun r E2 => E2 = E ∧ r = nI (laidN kd v)) := by
  refine MI_of RX8 rfl (by decide) rfl (Nat.le_of_ble_eq_true rfl) ?_
  intro pp_ ee_ ss_ mm_ aa_ bb_ me_ cc_ A ls C hw hl
  have hx := C.1
  have hb := C.2.1
  have hown := C.2.2.2.2.1
  have hts := C.2.2.2.2.2.1
  have hl : lv_has ls 2 [(0, .int (nI kd)), (1, .int (nI v))] := hl
  refine lv_iload_n hx hb dX8_laid_0 rfl (lv_at hl 0 rfl) ?_
  refine n_if_eq (tgt := 10) hx hb dX8_laid_1 (by decide) (by omega) (fun zc1 => ?_) (fun zc1 => ?_)
  · refine lv_iload_n hx hb dX8_laid_10 rfl (lv_at hl 1 rfl) ?_
    refine r_sI C hw hl.1 [.int (nI v)] 1 rfl (c_X8_codeOf (l := l) (G := G) (tC := tC) (ad := ad) (N := N) (E := E) (v := v)   (by first | assumption | omega)) gX8_laid_X8_codeOf rfl ⟨rfl, rfl⟩ (by decide +kernel) ⟨Nat.le_of_ble_eq_true rfl, Nat.le_of_ble_eq_true rfl⟩ (rest := []) rfl (Nat.le_of_ble_eq_true rfl) dX8_laid_11 ⟨Nat.zero_le _, Nat.zero_le _⟩ (fun zr1 zE1 zH1 zL1 zp1 zw1 => ?_)
    obtain ⟨ze1, zq1⟩ := zp1
    rw [ze1] at zw1
    clear ze1
    rw [zq1]
    refine lv_goto (tgt := 24) hx hb dX8_laid_14 (by decide) ?_
    exact r_iret C zw1 dX8_laid_24 ⟨rfl, (by rw [laidN, if_pos (by first | exact Or.inl zc1 | exact Or.inr zc7)])⟩
  · refine lv_iload_n hx hb dX8_laid_4 rfl (lv_at hl 0 rfl) ?_
    refine lv_bipush (v := nI 6) hx hb dX8_laid_5 rfl ?_
    refine n_icmp_ne (tgt := 17) hx hb dX8_laid_7 (by decide) (by omega) (by omega) (fun zc7 => ?_) (fun zc7 => ?_)
    · refine lv_bipush (v := nI 64) hx hb dX8_laid_17 rfl ?_
      refine lv_iload_n hx hb dX8_laid_19 rfl (lv_at hl 1 rfl) ?_
      refine lv_iadd hx hb dX8_laid_20 ?_
      refine r_nat (64 + v) (nI_add _ _) ?_
      refine r_sI C hw hl.1 [.int (nI (64 + v))] 1 rfl (c_X8_lettered (l := l) (G := G) (tC := tC) (ad := ad) (N := N) (E := E) (n := 64 + v)   (by first | assumption | omega)) gX8_laid_X8_lettered rfl ⟨rfl, rfl⟩ (by decide +kernel) ⟨Nat.le_of_ble_eq_true rfl, Nat.le_of_ble_eq_true rfl⟩ (rest := []) rfl (Nat.le_of_ble_eq_true rfl) dX8_laid_21 ⟨Nat.zero_le _, Nat.zero_le _⟩ (fun zr2 zE2 zH2 zL2 zp2 zw2 => ?_)
      obtain ⟨ze2, zq2⟩ := zp2
      rw [ze2] at zw2
      clear ze2
      rw [zq2]
      exact r_iret C zw2 dX8_laid_24 ⟨rfl, (by show nI (ltr (64 + v)) = nI (laidN kd v); rw [laidN, if_neg (fun (zq : kd = 0 ∨ kd = 6) => zq.elim zc1 zc7)])⟩
    · refine lv_iload_n hx hb dX8_laid_10 rfl (lv_at hl 1 rfl) ?_
      refine r_sI C hw hl.1 [.int (nI v)] 1 rfl (c_X8_codeOf (l := l) (G := G) (tC := tC) (ad := ad) (N := N) (E := E) (v := v)   (by first | assumption | omega)) gX8_laid_X8_codeOf rfl ⟨rfl, rfl⟩ (by decide +kernel) ⟨Nat.le_of_ble_eq_true rfl, Nat.le_of_ble_eq_true rfl⟩ (rest := []) rfl (Nat.le_of_ble_eq_true rfl) dX8_laid_11 ⟨Nat.zero_le _, Nat.zero_le _⟩ (fun zr3 zE3 zH3 zL3 zp3 zw3 => ?_)
      obtain ⟨ze3, zq3⟩ := zp3
      rw [ze3] at zw3
      clear ze3
      rw [zq3]
      refine lv_goto (tgt := 24) hx hb dX8_laid_14 (by decide) ?_
      exact r_iret C zw3 dX8_laid_24 ⟨rfl, (by rw [laidN, if_pos (by first | exact Or.inl zc1 | exact Or.inr zc7)])⟩

