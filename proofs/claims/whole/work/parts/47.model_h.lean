set_option maxHeartbeats 4000000 in
set_option maxRecDepth 100000 in
theorem c_X8_drifts {l : Launch} {G : vG} {tC : Nat} {ad : Nat → Nat} {N : Nat} {E : Nat → va_E} {q co pm em sd : Nat} {th : Int32} {pg : Nat} {s pt pa : Nat → Int32} (hN0 : q + 13 ≤ N) (hE0 : E q = .inr (5, [.int th, .ref (ad (q + 1)), .long (lN sd), .ref (ad (q + 2)), .ref (ad (q + 3)), .int (nI co), .ref (ad (q + 4)), .int (nI pm), .ref (ad (q + 5)), .ref (ad (q + 6)), .ref (ad (q + 7)), .ref (ad (q + 8)), .int (nI em), .ref (ad (q + 9)), .ref (ad (q + 10)), .ref (ad (q + 11)), .ref (ad (q + 12))])) (hE1 : E (q + 1) = eI G 508 s) (hE2 : E (q + 2) = eI G 10 pt) (hE3 : E (q + 4) = eI G 8128 pa) (hs0 : s 0 = nI pg) (hpg : pg ≤ 10) (hop : opOk s pg) (hpm : pm ≤ 16) (hsd : sd < 2147483648) : MV l yX8_drifts wsX8_drifts ({ frames := 8, cells := 0, slots := 0, locals := 181 } : Room) G tC ad N E [.ref (ad q)] (fun E2 => ∃ pt2 : Nat → Int32, E2 q = .inr (5, [.int th, .ref (ad (q + 1)), .long (lN (lcgI sd 11)), .ref (ad (q + 2)), .ref (ad (q + 3)), .int (nI co), .ref (ad (q + 4)), .int (nI (ntK pm + 1)), .ref (ad (q + 5)), .ref (ad (q + 6)), .ref (ad (q + 7)), .ref (ad (q + 8)), .int (nI em), .ref (ad (q + 9)), .ref (ad (q + 10)), .ref (ad (q + 11)), .ref (ad (q + 12))]) ∧ E2 (q + 1) = eI G 508 (cmF s pg (dpk sd)) ∧ E2 (q + 2) = eI G 10 pt2 ∧ E2 (q + 4) = eI G 8128 (ntF pa pm s) ∧ (∀ j, j ≠ q → j ≠ (q + 1) → j ≠ (q + 2) → j ≠ (q + 4) → E2 j = E j)) := by
  refine MV_of RX8 rfl (by decide) rfl (Nat.le_of_ble_eq_true rfl) ?_
  intro pp_ ee_ ss_ mm_ aa_ bb_ me_ cc_ A ls C hw hl
  have hx := C.1
  have hb := C.2.1
  have hown := C.2.2.2.2.1
  have hts := C.2.2.2.2.2.1
  have hl : lv_has ls 4 [(0, .ref (ad q))] := hl
  have hinX8 : ∀ w ∈ u_ws RX8 TX8 17, w ∈ wsX8_drifts := by decide +kernel
  refine lv_aload_n hx hb dX8_drifts_0 rfl (lv_at hl 0 rfl) ?_
  refine lv_iconst (v := nI 4) hx hb dX8_drifts_1 rfl ?_
  refine r_vI C hw hl.1 (i := q) (by omega) hE0 (T := TX8) (n := 17) rfl [.int (nI 4)] 1 rfl (c_X8_draw (l := l) (G := G) (tC := tC) (ad := ad) (N := N) (E := E) (q := q) (co := co) (pm := pm) (em := em) (sd := sd) (n := 4) (th := th) (by omega) hE0 (by first | assumption | omega) (by first | assumption | omega) (by first | assumption | omega)) gX8_drifts_X8_draw rfl ⟨rfl, rfl⟩ (by decide +kernel) ⟨Nat.le_of_ble_eq_true rfl, Nat.le_of_ble_eq_true rfl⟩ (rest := []) rfl (Nat.le_of_ble_eq_true rfl) dX8_drifts_2 ⟨Nat.zero_le _, Nat.zero_le _⟩ (fun zr1 zE1 zH1 zL1 zp1 zw1 => ?_)
  obtain ⟨zg1_0, zf1, zq1⟩ := zp1
  have zh1_0 : zE1 q = .inr (5, [.int th, .ref (ad (q + 1)), .long (lN (lcg sd)), .ref (ad (q + 2)), .ref (ad (q + 3)), .int (nI co), .ref (ad (q + 4)), .int (nI pm), .ref (ad (q + 5)), .ref (ad (q + 6)), .ref (ad (q + 7)), .ref (ad (q + 8)), .int (nI em), .ref (ad (q + 9)), .ref (ad (q + 10)), .ref (ad (q + 11)), .ref (ad (q + 12))]) := zg1_0
  have zk1_0 : zE1 (q + 1) = eI G 508 s := (zf1 _ (by omega)).trans hE1
  have zk1_1 : zE1 (q + 2) = eI G 10 pt := (zf1 _ (by omega)).trans hE2
  have zk1_2 : zE1 (q + 4) = eI G 8128 pa := (zf1 _ (by omega)).trans hE3
  have zfr1 : ∀ j, j ≠ q → zE1 j = E j := fun j zm0 => zf1 j zm0
  rw [zq1]
  refine lv_istore_n (lv' := [(1, .int (nI (lcg sd / 65536 % 4))), (0, .ref (ad q))]) hx hb dX8_drifts_5 rfl hl (by decide) rfl (fun ls hl => ?_)
  refine lv_aload_n hx hb dX8_drifts_6 rfl (lv_at hl 1 rfl) ?_
  refine lv_bipush (v := nI 8) hx hb dX8_drifts_7 rfl ?_
  refine r_vI C zw1 hl.1 (i := q) (by omega) zh1_0 (T := TX8) (n := 17) rfl [.int (nI 8)] 1 rfl (c_X8_draw (l := l) (G := G) (tC := tC) (ad := ad) (N := N) (E := zE1) (q := q) (co := co) (pm := pm) (em := em) (sd := lcg sd) (n := 8) (th := th) (by omega) zh1_0 (lcg_lt _) (by first | assumption | omega) (by first | assumption | omega)) gX8_drifts_X8_draw rfl ⟨rfl, rfl⟩ (by decide +kernel) ⟨Nat.le_of_ble_eq_true rfl, Nat.le_of_ble_eq_true rfl⟩ (rest := []) rfl (Nat.le_of_ble_eq_true rfl) dX8_drifts_9 ⟨Nat.zero_le _, Nat.zero_le _⟩ (fun zr2 zE2 zH2 zL2 zp2 zw2 => ?_)
  obtain ⟨zg2_0, zf2, zq2⟩ := zp2
  have zh2_0 : zE2 q = .inr (5, [.int th, .ref (ad (q + 1)), .long (lN (lcg (lcg sd))), .ref (ad (q + 2)), .ref (ad (q + 3)), .int (nI co), .ref (ad (q + 4)), .int (nI pm), .ref (ad (q + 5)), .ref (ad (q + 6)), .ref (ad (q + 7)), .ref (ad (q + 8)), .int (nI em), .ref (ad (q + 9)), .ref (ad (q + 10)), .ref (ad (q + 11)), .ref (ad (q + 12))]) := zg2_0
  have zk2_0 : zE2 (q + 1) = eI G 508 s := (zf2 _ (by omega)).trans zk1_0
  have zk2_1 : zE2 (q + 2) = eI G 10 pt := (zf2 _ (by omega)).trans zk1_1
  have zk2_2 : zE2 (q + 4) = eI G 8128 pa := (zf2 _ (by omega)).trans zk1_2
  have zfr2 : ∀ j, j ≠ q → zE2 j = E j := fun j zm0 => (zf2 j zm0).trans (zfr1 j zm0)
  rw [zq2]
  refine lv_istore_n (lv' := [(2, .int (nI (lcg (lcg sd) / 65536 % 8))), (1, .int (nI (lcg sd / 65536 % 4))), (0, .ref (ad q))]) hx hb dX8_drifts_12 rfl hl (by decide) rfl (fun ls hl => ?_)
  refine lv_aload_n hx hb dX8_drifts_13 rfl (lv_at hl 2 rfl) ?_
  refine r_get C zw2 RX8 TX8 17 5 hinX8 (i := q) (by omega) zh2_0 rfl 3 (by decide) (by decide +kernel) rfl (v := .ref (ad (q + 2))) rfl dX8_drifts_14 ?_
  refine lv_iconst (v := nI 0) hx hb dX8_drifts_17 rfl ?_
  refine lv_iload_n hx hb dX8_drifts_18 rfl (lv_at hl 1 rfl) ?_
  refine r_sI C zw2 hl.1 [.int (nI (lcg sd / 65536 % 4))] 1 rfl (c_X8_codeOf (l := l) (G := G) (tC := tC) (ad := ad) (N := N) (E := zE2) (v := lcg sd / 65536 % 4)   (by first | assumption | omega)) gX8_drifts_X8_codeOf rfl ⟨rfl, rfl⟩ (by decide +kernel) ⟨Nat.le_of_ble_eq_true rfl, Nat.le_of_ble_eq_true rfl⟩ (rest := [.int (nI 0), .ref (ad (q + 2))]) rfl (Nat.le_of_ble_eq_true rfl) dX8_drifts_19 ⟨Nat.zero_le _, Nat.zero_le _⟩ (fun zr3 zE3 zH3 zL3 zp3 zw3 => ?_)
  obtain ⟨ze3, zq3⟩ := zp3
  rw [ze3] at zw3
  clear ze3
  rw [zq3]
  refine r_iasN C zw3 (i := (q + 2)) (by omega) zk2_1 (j := 0) (by omega) (by omega) dX8_drifts_22 (fun zE4 zH4 zL4 zg4 zf4 zw4 => ?_)
  have zh4_0 : zE4 (q + 2) = eI G 10 (upd pt 0 (nI (codeN (lcg sd / 65536 % 4)))) := zg4
  have zk4_0 : zE4 (q + 1) = eI G 508 s := (zf4 _ (by omega)).trans zk2_0
  have zk4_1 : zE4 (q + 4) = eI G 8128 pa := (zf4 _ (by omega)).trans zk2_2
  have zk4_2 : zE4 q = .inr (5, [.int th, .ref (ad (q + 1)), .long (lN (lcg (lcg sd))), .ref (ad (q + 2)), .ref (ad (q + 3)), .int (nI co), .ref (ad (q + 4)), .int (nI pm), .ref (ad (q + 5)), .ref (ad (q + 6)), .ref (ad (q + 7)), .ref (ad (q + 8)), .int (nI em), .ref (ad (q + 9)), .ref (ad (q + 10)), .ref (ad (q + 11)), .ref (ad (q + 12))]) := (zf4 _ (by omega)).trans zh2_0
  have zfr4 : ∀ j, j ≠ q → j ≠ (q + 2) → zE4 j = E j := fun j zm0 zm1 => (zf4 j zm1).trans (zfr2 j zm0)
  refine lv_aload_n hx hb dX8_drifts_23 rfl (lv_at hl 2 rfl) ?_
  refine r_get C zw4 RX8 TX8 17 5 hinX8 (i := q) (by omega) zk4_2 rfl 3 (by decide) (by decide +kernel) rfl (v := .ref (ad (q + 2))) rfl dX8_drifts_24 ?_
  refine lv_iconst (v := nI 1) hx hb dX8_drifts_27 rfl ?_
  refine lv_iload_n hx hb dX8_drifts_28 rfl (lv_at hl 0 rfl) ?_
  refine r_sI C zw4 hl.1 [.int (nI (lcg (lcg sd) / 65536 % 8))] 1 rfl (c_X8_codeOf (l := l) (G := G) (tC := tC) (ad := ad) (N := N) (E := zE4) (v := lcg (lcg sd) / 65536 % 8)   (by first | assumption | omega)) gX8_drifts_X8_codeOf rfl ⟨rfl, rfl⟩ (by decide +kernel) ⟨Nat.le_of_ble_eq_true rfl, Nat.le_of_ble_eq_true rfl⟩ (rest := [.int (nI 1), .ref (ad (q + 2))]) rfl (Nat.le_of_ble_eq_true rfl) dX8_drifts_29 ⟨Nat.zero_le _, Nat.zero_le _⟩ (fun zr5 zE5 zH5 zL5 zp5 zw5 => ?_)
  obtain ⟨ze5, zq5⟩ := zp5
  rw [ze5] at zw5
  clear ze5
  rw [zq5]
  refine r_iasN C zw5 (i := (q + 2)) (by omega) zh4_0 (j := 1) (by omega) (by omega) dX8_drifts_32 (fun zE6 zH6 zL6 zg6 zf6 zw6 => ?_)
  have zh6_0 : zE6 (q + 2) = eI G 10 (upd (upd pt 0 (nI (codeN (lcg sd / 65536 % 4)))) 1 (nI (codeN (lcg (lcg sd) / 65536 % 8)))) := zg6
  have zk6_0 : zE6 (q + 1) = eI G 508 s := (zf6 _ (by omega)).trans zk4_0
  have zk6_1 : zE6 (q + 4) = eI G 8128 pa := (zf6 _ (by omega)).trans zk4_1
  have zk6_2 : zE6 q = .inr (5, [.int th, .ref (ad (q + 1)), .long (lN (lcg (lcg sd))), .ref (ad (q + 2)), .ref (ad (q + 3)), .int (nI co), .ref (ad (q + 4)), .int (nI pm), .ref (ad (q + 5)), .ref (ad (q + 6)), .ref (ad (q + 7)), .ref (ad (q + 8)), .int (nI em), .ref (ad (q + 9)), .ref (ad (q + 10)), .ref (ad (q + 11)), .ref (ad (q + 12))]) := (zf6 _ (by omega)).trans zk4_2
  have zfr6 : ∀ j, j ≠ q → j ≠ (q + 2) → zE6 j = E j := fun j zm0 zm1 => (zf6 j zm1).trans (zfr4 j zm0 zm1)
  refine lv_iconst (v := nI 2) hx hb dX8_drifts_33 rfl ?_
  refine lv_istore_n (lv' := [(3, .int (nI 2)), (2, .int (nI (lcg (lcg sd) / 65536 % 8))), (1, .int (nI (lcg sd / 65536 % 4))), (0, .ref (ad q))]) hx hb dX8_drifts_34 rfl hl (by decide) rfl (fun ls hl => ?_)
  have zlp35 : ∀ (zn : Nat) (j : Nat) (g : Nat → Int32), 10 - j < zn → (2 ≤ j) → (j ≤ 10) → (∀ x, x < j → g x = nI (dp0 sd x)) → ∀ (E9 : Nat → va_E) (H9 : Heap) (L9 : List Loc), E9 (q + 1) = eI G 508 s → E9 (q + 4) = eI G 8128 pa → E9 q = .inr (5, [.int th, .ref (ad (q + 1)), .long (lN (lcgI sd j)), .ref (ad (q + 2)), .ref (ad (q + 3)), .int (nI co), .ref (ad (q + 4)), .int (nI pm), .ref (ad (q + 5)), .ref (ad (q + 6)), .ref (ad (q + 7)), .ref (ad (q + 8)), .int (nI em), .ref (ad (q + 9)), .ref (ad (q + 10)), .ref (ad (q + 11)), .ref (ad (q + 12))]) → E9 (q + 2) = eI G 10 g → (∀ j, j ≠ q → j ≠ (q + 2) → E9 j = E j) → Wd G A ss_.heap H9 L9 ad E9 N → ∀ (ls : Array Slot), lv_has ls 4 [(0, .ref (ad q)), (2, .int (nI (drK sd))), (3, .int (nI j))] → W pp_ l ee_ ({ frames := 8, cells := 0, slots := 0, locals := 181 } : Room) ss_ mm_ aa_ bb_ me_ cc_ H9 L9 0 0 (QV bb_ aa_ ss_ G ad N A (fun E2 => ∃ pt2 : Nat → Int32, E2 q = .inr (5, [.int th, .ref (ad (q + 1)), .long (lN (lcgI sd 11)), .ref (ad (q + 2)), .ref (ad (q + 3)), .int (nI co), .ref (ad (q + 4)), .int (nI (ntK pm + 1)), .ref (ad (q + 5)), .ref (ad (q + 6)), .ref (ad (q + 7)), .ref (ad (q + 8)), .int (nI em), .ref (ad (q + 9)), .ref (ad (q + 10)), .ref (ad (q + 11)), .ref (ad (q + 12))]) ∧ E2 (q + 1) = eI G 508 (cmF s pg (dpk sd)) ∧ E2 (q + 2) = eI G 10 pt2 ∧ E2 (q + 4) = eI G 8128 (ntF pa pm s) ∧ (∀ j, j ≠ q → j ≠ (q + 1) → j ≠ (q + 2) → j ≠ (q + 4) → E2 j = E j))) (F0 mm_ 35 ls []) := by
    intro zn
    induction zn with
    | zero => intro j g zhm; exact absurd zhm (Nat.not_lt_zero _)
    | succ zn zih35 =>
      intro j g zhm35 hj2 hj hg zE_35 zH_35 zL_35 zl35_0 zl35_1 zl35_2 zl35_3 zlf35  zlw35 ls hl
      refine lv_iload_n hx hb dX8_drifts_35 rfl (lv_at hl 2 rfl) ?_
      refine lv_bipush (v := nI 10) hx hb dX8_drifts_36 rfl ?_
      refine n_icmp_ge (tgt := 63) hx hb dX8_drifts_38 (by decide) (by omega) (by omega) (fun zc38 => ?_) (fun zc38 => ?_)
      · refine lv_aload_n hx hb dX8_drifts_63 rfl (lv_at hl 0 rfl) ?_
        refine lv_bipush (v := nI 80) hx hb dX8_drifts_64 rfl ?_
        refine r_vI C zlw35 hl.1 (i := q) (by omega) zl35_2 (T := TX8) (n := 17) rfl [.int (nI 80)] 1 rfl (c_X8_draw (l := l) (G := G) (tC := tC) (ad := ad) (N := N) (E := zE_35) (q := q) (co := co) (pm := pm) (em := em) (sd := lcgI sd j) (n := 80) (th := th) (by omega) zl35_2 (lcgI_lt hsd j) (by first | assumption | omega) (by first | assumption | omega)) gX8_drifts_X8_draw rfl ⟨rfl, rfl⟩ (by decide +kernel) ⟨Nat.le_of_ble_eq_true rfl, Nat.le_of_ble_eq_true rfl⟩ (rest := []) rfl (Nat.le_of_ble_eq_true rfl) dX8_drifts_66 ⟨Nat.zero_le _, Nat.zero_le _⟩ (fun zr7 zE7 zH7 zL7 zp7 zw7 => ?_)
        obtain ⟨zg7_0, zf7, zq7⟩ := zp7
        have zh7_0 : zE7 q = .inr (5, [.int th, .ref (ad (q + 1)), .long (lN (lcg (lcgI sd j))), .ref (ad (q + 2)), .ref (ad (q + 3)), .int (nI co), .ref (ad (q + 4)), .int (nI pm), .ref (ad (q + 5)), .ref (ad (q + 6)), .ref (ad (q + 7)), .ref (ad (q + 8)), .int (nI em), .ref (ad (q + 9)), .ref (ad (q + 10)), .ref (ad (q + 11)), .ref (ad (q + 12))]) := zg7_0
        have zk7_0 : zE7 (q + 1) = eI G 508 s := (zf7 _ (by omega)).trans zl35_0
        have zk7_1 : zE7 (q + 4) = eI G 8128 pa := (zf7 _ (by omega)).trans zl35_1
        have zk7_2 : zE7 (q + 2) = eI G 10 g := (zf7 _ (by omega)).trans zl35_3
        have zfr7 : ∀ j, j ≠ q → j ≠ (q + 2) → zE7 j = E j := fun j zm0 zm1 => (zf7 j zm0).trans (zlf35 j zm0 zm1)
        rw [zq7]
        refine r_nat (drT sd) (by rw [show j = 10 by omega]; rfl) ?_
        refine lv_istore_n (lv' := [(3, .int (nI (drT sd))), (0, .ref (ad q)), (2, .int (nI (drK sd)))]) hx hb dX8_drifts_69 rfl hl (by decide) rfl (fun ls hl => ?_)
        have zt9 : drT sd < 80 := Nat.mod_lt _ (by omega)
        refine lv_aload_n hx hb dX8_drifts_70 rfl (lv_at hl 1 rfl) ?_
        refine r_get C zw7 RX8 TX8 17 5 hinX8 (i := q) (by omega) zh7_0 rfl 3 (by decide) (by decide +kernel) rfl (v := .ref (ad (q + 2))) rfl dX8_drifts_71 ?_
        refine lv_iload_n hx hb dX8_drifts_74 rfl (lv_at hl 0 rfl) ?_
        refine lv_bipush (v := nI 8) hx hb dX8_drifts_75 rfl ?_
        refine lv_idiv hx hb dX8_drifts_77 (by decide) ?_
        refine r_nat (drT sd / 8) (pk_div (by omega) (by omega) (by omega)) ?_
        refine lv_dup2_11 hx hb dX8_drifts_78 rfl rfl ?_
        refine r_iaN C zw7 (i := (q + 2)) (by omega) zk7_2 (j := drT sd / 8) (by omega) (by omega) dX8_drifts_79 ?_
        refine r_nat (dp0 sd (drT sd / 8)) (hg _ (by omega)) ?_
        refine lv_iconst (v := nI 1) hx hb dX8_drifts_80 rfl ?_
        refine lv_iload_n hx hb dX8_drifts_81 rfl (lv_at hl 0 rfl) ?_
        refine lv_bipush (v := nI 8) hx hb dX8_drifts_82 rfl ?_
        refine lv_irem hx hb dX8_drifts_84 (by decide) ?_
        refine r_nat (drT sd % 8) (pk_rem (by omega) (by omega) (by omega)) ?_
        refine lv_ishl hx hb dX8_drifts_85 ?_
        refine r_nat (2 ^ (drT sd % 8)) (shl1 _ (Nat.mod_lt _ (by omega))) ?_
        refine lv_ixor hx hb dX8_drifts_86 ?_
        refine r_nat (dp0 sd (drT sd / 8) ^^^ 2 ^ (drT sd % 8)) (xor_nI _ _) ?_
        refine r_iasN C zw7 (i := (q + 2)) (by omega) zk7_2 (j := drT sd / 8) (by omega) (by omega) dX8_drifts_87 (fun zE8 zH8 zL8 zg8 zf8 zw8 => ?_)
        have zh8_0 : zE8 (q + 2) = eI G 10 (upd g (drT sd / 8) (nI (dp0 sd (drT sd / 8) ^^^ 2 ^ (drT sd % 8)))) := zg8
        have zk8_0 : zE8 (q + 1) = eI G 508 s := (zf8 _ (by omega)).trans zk7_0
        have zk8_1 : zE8 (q + 4) = eI G 8128 pa := (zf8 _ (by omega)).trans zk7_1
        have zk8_2 : zE8 q = .inr (5, [.int th, .ref (ad (q + 1)), .long (lN (lcg (lcgI sd j))), .ref (ad (q + 2)), .ref (ad (q + 3)), .int (nI co), .ref (ad (q + 4)), .int (nI pm), .ref (ad (q + 5)), .ref (ad (q + 6)), .ref (ad (q + 7)), .ref (ad (q + 8)), .int (nI em), .ref (ad (q + 9)), .ref (ad (q + 10)), .ref (ad (q + 11)), .ref (ad (q + 12))]) := (zf8 _ (by omega)).trans zh7_0
        have zfr8 : ∀ j, j ≠ q → j ≠ (q + 2) → zE8 j = E j := fun j zm0 zm1 => (zf8 j zm1).trans (zfr7 j zm0 zm1)
        refine lv_aload_n hx hb dX8_drifts_88 rfl (lv_at hl 1 rfl) ?_
        refine r_vI C zw8 hl.1 (i := q) (by omega) zk8_2 (T := TX8) (n := 17) rfl [] 0 rfl (c_X8_comes (l := l) (G := G) (tC := tC) (ad := ad) (N := N) (E := zE8) (q := q) (co := co) (pm := pm) (em := em) (th := th) (se := lN (lcg (lcgI sd j))) (pg := pg) (s := s) (pt := upd g (drT sd / 8) (nI (dp0 sd (drT sd / 8) ^^^ 2 ^ (drT sd % 8)))) (pk := dpk sd) (pa := pa) (by omega) zk8_2 zk8_0 zh8_0 zk8_1 (by first | assumption | omega) (by first | assumption | omega) (dpk_ok (fun x hx => hg x (by omega))) (by first | assumption | omega) (by first | assumption | omega)) gX8_drifts_X8_comes rfl ⟨rfl, rfl⟩ (by decide +kernel) ⟨Nat.le_of_ble_eq_true rfl, Nat.le_of_ble_eq_true rfl⟩ (rest := []) rfl (Nat.le_of_ble_eq_true rfl) dX8_drifts_89 ⟨Nat.zero_le _, Nat.zero_le _⟩ (fun zr9 zE9 zH9 zL9 zp9 zw9 => ?_)
        obtain ⟨zg9_0, zg9_1, zg9_2, zf9, zq9⟩ := zp9
        have zh9_0 : zE9 q = .inr (5, [.int th, .ref (ad (q + 1)), .long (lN (lcg (lcgI sd j))), .ref (ad (q + 2)), .ref (ad (q + 3)), .int (nI co), .ref (ad (q + 4)), .int (nI (ntK pm + 1)), .ref (ad (q + 5)), .ref (ad (q + 6)), .ref (ad (q + 7)), .ref (ad (q + 8)), .int (nI em), .ref (ad (q + 9)), .ref (ad (q + 10)), .ref (ad (q + 11)), .ref (ad (q + 12))]) := zg9_0
        have zh9_1 : zE9 (q + 1) = eI G 508 (cmF s pg (dpk sd)) := zg9_1
        have zh9_2 : zE9 (q + 4) = eI G 8128 (ntF pa pm s) := zg9_2
        have zk9_0 : zE9 (q + 2) = eI G 10 (upd g (drT sd / 8) (nI (dp0 sd (drT sd / 8) ^^^ 2 ^ (drT sd % 8)))) := (zf9 _ (by omega) (by omega) (by omega)).trans zh8_0
        have zfr9 : ∀ j, j ≠ q → j ≠ (q + 2) → j ≠ (q + 1) → j ≠ (q + 4) → zE9 j = E j := fun j zm0 zm1 zm2 zm3 => (zf9 j zm0 zm2 zm3).trans (zfr8 j zm0 zm1)
        rw [zq9]
        refine lv_pop hx hb dX8_drifts_92 rfl ?_
        exact r_vret C zw9 dX8_drifts_93 ⟨upd g (drT sd / 8) (nI (dp0 sd (drT sd / 8) ^^^ 2 ^ (drT sd % 8))), (zh9_0.trans (by rw [show j = 10 by omega]; rfl)), zh9_1, zk9_0, zh9_2, (fun j zm0 zm1 zm2 zm3 => zfr9 j zm0 zm2 zm1 zm3)⟩
      · refine lv_aload_n hx hb dX8_drifts_41 rfl (lv_at hl 0 rfl) ?_
        refine r_get C zlw35 RX8 TX8 17 5 hinX8 (i := q) (by omega) zl35_2 rfl 3 (by decide) (by decide +kernel) rfl (v := .ref (ad (q + 2))) rfl dX8_drifts_42 ?_
        refine lv_iload_n hx hb dX8_drifts_45 rfl (lv_at hl 2 rfl) ?_
        refine lv_iload_n hx hb dX8_drifts_46 rfl (lv_at hl 1 rfl) ?_
        refine lv_aload_n hx hb dX8_drifts_47 rfl (lv_at hl 0 rfl) ?_
        refine lv_bipush (v := nI 10) hx hb dX8_drifts_48 rfl ?_
        refine r_vI C zlw35 hl.1 (i := q) (by omega) zl35_2 (T := TX8) (n := 17) rfl [.int (nI 10)] 1 rfl (c_X8_draw (l := l) (G := G) (tC := tC) (ad := ad) (N := N) (E := zE_35) (q := q) (co := co) (pm := pm) (em := em) (sd := lcgI sd j) (n := 10) (th := th) (by omega) zl35_2 (lcgI_lt hsd j) (by first | assumption | omega) (by first | assumption | omega)) gX8_drifts_X8_draw rfl ⟨rfl, rfl⟩ (by decide +kernel) ⟨Nat.le_of_ble_eq_true rfl, Nat.le_of_ble_eq_true rfl⟩ (rest := [.int (nI (drK sd)), .int (nI j), .ref (ad (q + 2))]) rfl (Nat.le_of_ble_eq_true rfl) dX8_drifts_50 ⟨Nat.zero_le _, Nat.zero_le _⟩ (fun zr10 zE10 zH10 zL10 zp10 zw10 => ?_)
        obtain ⟨zg10_0, zf10, zq10⟩ := zp10
        have zh10_0 : zE10 q = .inr (5, [.int th, .ref (ad (q + 1)), .long (lN (lcg (lcgI sd j))), .ref (ad (q + 2)), .ref (ad (q + 3)), .int (nI co), .ref (ad (q + 4)), .int (nI pm), .ref (ad (q + 5)), .ref (ad (q + 6)), .ref (ad (q + 7)), .ref (ad (q + 8)), .int (nI em), .ref (ad (q + 9)), .ref (ad (q + 10)), .ref (ad (q + 11)), .ref (ad (q + 12))]) := zg10_0
        have zk10_0 : zE10 (q + 1) = eI G 508 s := (zf10 _ (by omega)).trans zl35_0
        have zk10_1 : zE10 (q + 4) = eI G 8128 pa := (zf10 _ (by omega)).trans zl35_1
        have zk10_2 : zE10 (q + 2) = eI G 10 g := (zf10 _ (by omega)).trans zl35_3
        have zfr10 : ∀ j, j ≠ q → j ≠ (q + 2) → zE10 j = E j := fun j zm0 zm1 => (zf10 j zm0).trans (zlf35 j zm0 zm1)
        rw [zq10]
        refine r_sI C zw10 hl.1 [.int (nI (drK sd)), .int (nI (lcg (lcgI sd j) / 65536 % 10))] 2 rfl (c_X8_laid (l := l) (G := G) (tC := tC) (ad := ad) (N := N) (E := zE10) (kd := drK sd) (v := lcg (lcgI sd j) / 65536 % 10)   (Nat.lt_of_lt_of_le (Nat.mod_lt _ (by omega)) (by omega)) (by first | assumption | omega)) gX8_drifts_X8_laid rfl ⟨rfl, rfl⟩ (by decide +kernel) ⟨Nat.le_of_ble_eq_true rfl, Nat.le_of_ble_eq_true rfl⟩ (rest := [.int (nI j), .ref (ad (q + 2))]) rfl (Nat.le_of_ble_eq_true rfl) dX8_drifts_53 ⟨Nat.zero_le _, Nat.zero_le _⟩ (fun zr11 zE11 zH11 zL11 zp11 zw11 => ?_)
        obtain ⟨ze11, zq11⟩ := zp11
        rw [ze11] at zw11
        clear ze11
        rw [zq11]
        refine r_iasN C zw11 (i := (q + 2)) (by omega) zk10_2 (j := j) (by omega) (by omega) dX8_drifts_56 (fun zE12 zH12 zL12 zg12 zf12 zw12 => ?_)
        have zh12_0 : zE12 (q + 2) = eI G 10 (upd g j (nI (laidN (drK sd) (lcg (lcgI sd j) / 65536 % 10)))) := zg12
        have zk12_0 : zE12 (q + 1) = eI G 508 s := (zf12 _ (by omega)).trans zk10_0
        have zk12_1 : zE12 (q + 4) = eI G 8128 pa := (zf12 _ (by omega)).trans zk10_1
        have zk12_2 : zE12 q = .inr (5, [.int th, .ref (ad (q + 1)), .long (lN (lcg (lcgI sd j))), .ref (ad (q + 2)), .ref (ad (q + 3)), .int (nI co), .ref (ad (q + 4)), .int (nI pm), .ref (ad (q + 5)), .ref (ad (q + 6)), .ref (ad (q + 7)), .ref (ad (q + 8)), .int (nI em), .ref (ad (q + 9)), .ref (ad (q + 10)), .ref (ad (q + 11)), .ref (ad (q + 12))]) := (zf12 _ (by omega)).trans zh10_0
        have zfr12 : ∀ j, j ≠ q → j ≠ (q + 2) → zE12 j = E j := fun j zm0 zm1 => (zf12 j zm1).trans (zfr10 j zm0 zm1)
        refine lv_iinc (v := nI (j + 1)) (lv' := [(3, .int (nI (j + 1))), (0, .ref (ad q)), (2, .int (nI (drK sd)))]) hx hb dX8_drifts_57 hl (k := 2) rfl (by rw [show Int32.ofInt 1 = nI 1 from rfl, nI_add]) (by decide) rfl (fun ls hl => ?_)
        refine lv_goto (tgt := 35) hx hb dX8_drifts_60 (by decide) ?_
        exact zih35 (j + 1) (upd g j (nI (laidN (drK sd) (lcg (lcgI sd j) / 65536 % 10)))) (by omega) (by omega) (by omega) (by exact dp_s hj2 hg) _ _ _ zk12_0 zk12_1 zk12_2 zh12_0 (fun j zm0 zm1 => zfr12 j zm0 zm1) zw12 _ (lv_sub hl [1, 2, 0] rfl)
  exact zlp35 _ 2 (upd (upd pt 0 (nI (codeN (lcg sd / 65536 % 4)))) 1 (nI (codeN (lcg (lcg sd) / 65536 % 8)))) (Nat.lt_succ_self _) (by omega) (by omega) (by exact dp_init) _ _ _ zk6_0 zk6_1 zk6_2 zh6_0 (fun j zm0 zm1 => zfr6 j zm0 zm1) zw6 _ (lv_sub hl [3, 1, 0] rfl)

set_option maxHeartbeats 4000000 in
set_option maxRecDepth 100000 in
theorem c_X8_drift_y {l : Launch} {G : vG} {tC : Nat} {ad : Nat → Nat} {N : Nat} {E : Nat → va_E} {q co pm em sd : Nat} {th : Int32} {n : Nat} {s pt pa : Nat → Int32} (hN0 : q + 13 ≤ N) (hE0 : E q = .inr (5, [.int th, .ref (ad (q + 1)), .long (lN sd), .ref (ad (q + 2)), .ref (ad (q + 3)), .int (nI co), .ref (ad (q + 4)), .int (nI pm), .ref (ad (q + 5)), .ref (ad (q + 6)), .ref (ad (q + 7)), .ref (ad (q + 8)), .int (nI em), .ref (ad (q + 9)), .ref (ad (q + 10)), .ref (ad (q + 11)), .ref (ad (q + 12))])) (hE1 : E (q + 1) = eI G 508 s) (hE2 : E (q + 2) = eI G 10 pt) (hE3 : E (q + 4) = eI G 8128 pa) (hn1 : 1 ≤ n) (hn : n ≤ 16) (hok : okS s) (hpm : pm ≤ 16) (hsd : sd < 2147483648) : MI l yX8_drift wsX8_drift ({ frames := 9, cells := 0, slots := 0, locals := 204 } : Room) G tC ad N E [.ref (ad q), .int (nI n)] (fun r E2 => ∃ g : Nat → Int32, ∃ pb : Nat → Int32, ∃ pt2 : Nat → Int32, ∃ pm2 : Nat, ∃ sd2 : Nat, E2 q = .inr (5, [.int (nI 0), .ref (ad (q + 1)), .long (lN sd2), .ref (ad (q + 2)), .ref (ad (q + 3)), .int (nI co), .ref (ad (q + 4)), .int (nI pm2), .ref (ad (q + 5)), .ref (ad (q + 6)), .ref (ad (q + 7)), .ref (ad (q + 8)), .int (nI em), .ref (ad (q + 9)), .ref (ad (q + 10)), .ref (ad (q + 11)), .ref (ad (q + 12))]) ∧ E2 (q + 1) = eI G 508 g ∧ E2 (q + 2) = eI G 10 pt2 ∧ E2 (q + 4) = eI G 8128 pb ∧ (∀ j, j ≠ q → j ≠ (q + 1) → j ≠ (q + 2) → j ≠ (q + 4) → E2 j = E j) ∧ (g, pb, pm2, sd2) = dfI (s, pa, pm, sd) n ∧ r = g 0) := by
  refine MI_of RX8 rfl (by decide) rfl (Nat.le_of_ble_eq_true rfl) ?_
  intro pp_ ee_ ss_ mm_ aa_ bb_ me_ cc_ A ls C hw hl
  have hx := C.1
  have hb := C.2.1
  have hown := C.2.2.2.2.1
  have hts := C.2.2.2.2.2.1
  have hl : lv_has ls 3 [(0, .ref (ad q)), (1, .int (nI n))] := hl
  have hinX8 : ∀ w ∈ u_ws RX8 TX8 17, w ∈ wsX8_drift := by decide +kernel
  refine lv_aload_n hx hb dX8_drift_0 rfl (lv_at hl 0 rfl) ?_
  refine lv_iconst (v := nI 0) hx hb dX8_drift_1 rfl ?_
  refine r_put C hw RX8 TX8 17 5 hinX8 tyX8 tyX8_ok nmX8 (i := q) (by omega) hE0 rfl 0 (by decide) (by decide +kernel) rfl rfl (v := .int (nI 0)) rfl rfl (Nat.le_of_ble_eq_true rfl) dX8_drift_2 (fun zE1 zH1 zL1 zg1 zf1 zw1 => ?_)
  have zh1_0 : zE1 q = .inr (5, [.int (nI 0), .ref (ad (q + 1)), .long (lN sd), .ref (ad (q + 2)), .ref (ad (q + 3)), .int (nI co), .ref (ad (q + 4)), .int (nI pm), .ref (ad (q + 5)), .ref (ad (q + 6)), .ref (ad (q + 7)), .ref (ad (q + 8)), .int (nI em), .ref (ad (q + 9)), .ref (ad (q + 10)), .ref (ad (q + 11)), .ref (ad (q + 12))]) := zg1
  have zk1_0 : zE1 (q + 1) = eI G 508 s := (zf1 _ (by omega)).trans hE1
  have zk1_1 : zE1 (q + 2) = eI G 10 pt := (zf1 _ (by omega)).trans hE2
  have zk1_2 : zE1 (q + 4) = eI G 8128 pa := (zf1 _ (by omega)).trans hE3
  have zfr1 : ∀ j, j ≠ q → zE1 j = E j := fun j zm0 => zf1 j zm0
  refine lv_iload_n hx hb dX8_drift_5 rfl (lv_at hl 1 rfl) ?_
  refine lv_i2l (v := (nI n).toInt64) hx hb dX8_drift_6 rfl ?_
  refine lv_lconst (v := (nI 1).toInt64) hx hb dX8_drift_7 (by decide) ?_
  refine lv_ldc2 (v := 16) hx hb hown (hts (.constantLong RX8 145 (16)) (by decide +kernel)) dX8_drift_8 ?_
  refine r_asL (nI 16).toInt64 (by decide) ?_
  refine r_sI C zw1 hl.1 [.long ((nI n).toInt64), .long ((nI 1).toInt64), .long ((nI 16).toInt64)] 3 rfl (c_X8_in (l := l) (G := G) (tC := tC) (ad := ad) (N := N) (E := zE1) (x := (nI n)) (a := (nI 1)) (b := (nI 16))   ) gX8_drift_X8_in rfl ⟨rfl, rfl⟩ (by decide +kernel) ⟨Nat.le_of_ble_eq_true rfl, Nat.le_of_ble_eq_true rfl⟩ (rest := []) rfl (Nat.le_of_ble_eq_true rfl) dX8_drift_11 ⟨Nat.zero_le _, Nat.zero_le _⟩ (fun zr2 zE2 zH2 zL2 zp2 zw2 => ?_)
  obtain ⟨ze2, zq2⟩ := zp2
  rw [ze2] at zw2
  clear ze2
  rw [zq2]
  refine b_if_ne (tgt := 20) hx hb dX8_drift_14 (by decide) (fun zc14 => ?_) (fun zc14 => ?_)
  · refine lv_iconst (v := nI 0) hx hb dX8_drift_20 rfl ?_
    refine lv_istore_n (lv' := [(2, .int (nI 0)), (0, .ref (ad q)), (1, .int (nI n))]) hx hb dX8_drift_21 rfl hl (by decide) rfl (fun ls hl => ?_)
    have zlp22 : ∀ (zn : Nat) (i : Nat) (g1 p1 t1 : Nat → Int32) (pm1 sd1 : Nat), n - i < zn → (i ≤ n) → ((g1, p1, pm1, sd1) = dfI (s, pa, pm, sd) i) → (okS g1) → (sd1 < 2147483648) → (pm1 ≤ 16) → ∀ (E9 : Nat → va_E) (H9 : Heap) (L9 : List Loc), E9 (q + 1) = eI G 508 g1 → E9 (q + 2) = eI G 10 t1 → E9 (q + 4) = eI G 8128 p1 → E9 q = .inr (5, [.int (nI 0), .ref (ad (q + 1)), .long (lN sd1), .ref (ad (q + 2)), .ref (ad (q + 3)), .int (nI co), .ref (ad (q + 4)), .int (nI pm1), .ref (ad (q + 5)), .ref (ad (q + 6)), .ref (ad (q + 7)), .ref (ad (q + 8)), .int (nI em), .ref (ad (q + 9)), .ref (ad (q + 10)), .ref (ad (q + 11)), .ref (ad (q + 12))]) → (∀ j, j ≠ q → j ≠ (q + 1) → j ≠ (q + 2) → j ≠ (q + 4) → E9 j = E j) → Wd G A ss_.heap H9 L9 ad E9 N → ∀ (ls : Array Slot), lv_has ls 3 [(0, .ref (ad q)), (1, .int (nI n)), (2, .int (nI i))] → W pp_ l ee_ ({ frames := 9, cells := 0, slots := 0, locals := 204 } : Room) ss_ mm_ aa_ bb_ me_ cc_ H9 L9 0 0 (QI bb_ aa_ ss_ G ad N A (fun r E2 => ∃ g : Nat → Int32, ∃ pb : Nat → Int32, ∃ pt2 : Nat → Int32, ∃ pm2 : Nat, ∃ sd2 : Nat, E2 q = .inr (5, [.int (nI 0), .ref (ad (q + 1)), .long (lN sd2), .ref (ad (q + 2)), .ref (ad (q + 3)), .int (nI co), .ref (ad (q + 4)), .int (nI pm2), .ref (ad (q + 5)), .ref (ad (q + 6)), .ref (ad (q + 7)), .ref (ad (q + 8)), .int (nI em), .ref (ad (q + 9)), .ref (ad (q + 10)), .ref (ad (q + 11)), .ref (ad (q + 12))]) ∧ E2 (q + 1) = eI G 508 g ∧ E2 (q + 2) = eI G 10 pt2 ∧ E2 (q + 4) = eI G 8128 pb ∧ (∀ j, j ≠ q → j ≠ (q + 1) → j ≠ (q + 2) → j ≠ (q + 4) → E2 j = E j) ∧ (g, pb, pm2, sd2) = dfI (s, pa, pm, sd) n ∧ r = g 0)) (F0 mm_ 22 ls []) := by
      intro zn
      induction zn with
      | zero => intro i g1 p1 t1 pm1 sd1 zhm; exact absurd zhm (Nat.not_lt_zero _)
      | succ zn zih22 =>
        intro i g1 p1 t1 pm1 sd1 zhm22 hi hD hok1 hsd1 hpm1 zE_22 zH_22 zL_22 zl22_0 zl22_1 zl22_2 zl22_3 zlf22  zlw22 ls hl
        refine lv_iload_n hx hb dX8_drift_22 rfl (lv_at hl 2 rfl) ?_
        refine lv_iload_n hx hb dX8_drift_23 rfl (lv_at hl 1 rfl) ?_
        refine n_icmp_ge (tgt := 37) hx hb dX8_drift_24 (by decide) (by omega) (by omega) (fun zc24 => ?_) (fun zc24 => ?_)
        · refine lv_aload_n hx hb dX8_drift_37 rfl (lv_at hl 0 rfl) ?_
          refine r_get C zlw22 RX8 TX8 17 5 hinX8 (i := q) (by omega) zl22_3 rfl 1 (by decide) (by decide +kernel) rfl (v := .ref (ad (q + 1))) rfl dX8_drift_38 ?_
          refine lv_iconst (v := nI 0) hx hb dX8_drift_41 rfl ?_
          refine r_iaN C zlw22 (i := (q + 1)) (by omega) zl22_0 (j := 0) (by omega) (by omega) dX8_drift_42 ?_
          exact r_iret C zlw22 dX8_drift_43 ⟨g1, p1, t1, pm1, sd1, zl22_3, zl22_0, zl22_1, zl22_2, (fun j zm0 zm1 zm2 zm3 => zlf22 j zm0 zm1 zm2 zm3), (by rw [show n = i by omega]; exact ⟨hD, rfl⟩)⟩
        · refine lv_aload_n hx hb dX8_drift_27 rfl (lv_at hl 0 rfl) ?_
          refine r_vV C zlw22 hl.1 (i := q) (by omega) zl22_3 (T := TX8) (n := 17) rfl [] 0 rfl (c_X8_drifts (l := l) (G := G) (tC := tC) (ad := ad) (N := N) (E := zE_22) (q := q) (co := co) (pm := pm1) (em := em) (sd := sd1) (th := nI 0) (pg := pgS g1) (s := g1) (pt := t1) (pa := p1) (by omega) zl22_3 zl22_0 zl22_1 zl22_2 hok1.1 hok1.2.1 hok1.2.2 hpm1 hsd1) gX8_drift_X8_drifts rfl ⟨rfl, rfl⟩ (by decide +kernel) ⟨Nat.le_of_ble_eq_true rfl, Nat.le_of_ble_eq_true rfl⟩ (rest := []) rfl (Nat.le_of_ble_eq_true rfl) dX8_drift_28 ⟨Nat.zero_le _, Nat.zero_le _⟩ (fun zE3 zH3 zL3 zp3 zw3 => ?_)
          obtain ⟨zpt23, zg3_0, zg3_1, zg3_2, zg3_3, zf3⟩ := zp3
          have zh3_0 : zE3 q = .inr (5, [.int (nI 0), .ref (ad (q + 1)), .long (lN (lcgI sd1 11)), .ref (ad (q + 2)), .ref (ad (q + 3)), .int (nI co), .ref (ad (q + 4)), .int (nI (ntK pm1 + 1)), .ref (ad (q + 5)), .ref (ad (q + 6)), .ref (ad (q + 7)), .ref (ad (q + 8)), .int (nI em), .ref (ad (q + 9)), .ref (ad (q + 10)), .ref (ad (q + 11)), .ref (ad (q + 12))]) := zg3_0
          have zh3_1 : zE3 (q + 1) = eI G 508 (cmF g1 (pgS g1) (dpk sd1)) := zg3_1
          have zh3_2 : zE3 (q + 2) = eI G 10 zpt23 := zg3_2
          have zh3_3 : zE3 (q + 4) = eI G 8128 (ntF p1 pm1 g1) := zg3_3
          have zfr3 : ∀ j, j ≠ q → j ≠ (q + 1) → j ≠ (q + 2) → j ≠ (q + 4) → zE3 j = E j := fun j zm0 zm1 zm2 zm3 => (zf3 j zm0 zm1 zm2 zm3).trans (zlf22 j zm0 zm1 zm2 zm3)
          refine lv_iinc (v := nI (i + 1)) (lv' := [(2, .int (nI (i + 1))), (0, .ref (ad q)), (1, .int (nI n))]) hx hb dX8_drift_31 hl (k := 2) rfl (by rw [show Int32.ofInt 1 = nI 1 from rfl, nI_add]) (by decide) rfl (fun ls hl => ?_)
          refine lv_goto (tgt := 22) hx hb dX8_drift_34 (by decide) ?_
          exact zih22 (i + 1) (cmF g1 (pgS g1) (dpk sd1)) (ntF p1 pm1 g1) zpt23 (ntK pm1 + 1) (lcgI sd1 11) (by omega) (by omega) (by rw [dfI, ← hD]; rfl) (by exact cmF_ok _ hok1) (by exact lcgI_lt hsd1 11) (by exact ntK_le hpm1) _ _ _ zh3_1 zh3_2 zh3_3 zh3_0 (fun j zm0 zm1 zm2 zm3 => zfr3 j zm0 zm1 zm2 zm3) zw3 _ (lv_sub hl [1, 2, 0] rfl)
    exact zlp22 _ 0 s pa pt pm sd (Nat.lt_succ_self _) (by omega) (by rfl) (by exact hok) (by exact hsd) (by exact hpm) _ _ _ zk1_0 zk1_1 zk1_2 zh1_0 (fun j zm0 zm1 zm2 zm3 => zfr1 j zm0) zw2 _ (lv_sub hl [1, 2, 0] rfl)
  · exact absurd ⟨nI_le hn1 (by omega), nI_le hn (by omega)⟩ zc14

set_option maxHeartbeats 4000000 in
set_option maxRecDepth 100000 in
theorem c_X8_drift_n {l : Launch} {G : vG} {tC : Nat} {ad : Nat → Nat} {N : Nat} {E : Nat → va_E} {q co pm em : Nat} {th : Int32} {se : Int64} {n : Int32} (hN0 : q + 13 ≤ N) (hE0 : E q = .inr (5, [.int th, .ref (ad (q + 1)), .long se, .ref (ad (q + 2)), .ref (ad (q + 3)), .int (nI co), .ref (ad (q + 4)), .int (nI pm), .ref (ad (q + 5)), .ref (ad (q + 6)), .ref (ad (q + 7)), .ref (ad (q + 8)), .int (nI em), .ref (ad (q + 9)), .ref (ad (q + 10)), .ref (ad (q + 11)), .ref (ad (q + 12))])) (hno : ¬ (nI 1 ≤ n ∧ n ≤ nI 16)) : MI l yX8_drift wsX8_drift ({ frames := 9, cells := 0, slots := 0, locals := 204 } : Room) G tC ad N E [.ref (ad q), .int n] (fun r E2 => E2 q = .inr (5, [.int (nI 0), .ref (ad (q + 1)), .long se, .ref (ad (q + 2)), .ref (ad (q + 3)), .int (nI co), .ref (ad (q + 4)), .int (nI pm), .ref (ad (q + 5)), .ref (ad (q + 6)), .ref (ad (q + 7)), .ref (ad (q + 8)), .int (nI em), .ref (ad (q + 9)), .ref (ad (q + 10)), .ref (ad (q + 11)), .ref (ad (q + 12))]) ∧ (∀ j, j ≠ q → E2 j = E j) ∧ r = -1000000002) := by
  refine MI_of RX8 rfl (by decide) rfl (Nat.le_of_ble_eq_true rfl) ?_
  intro pp_ ee_ ss_ mm_ aa_ bb_ me_ cc_ A ls C hw hl
  have hx := C.1
  have hb := C.2.1
  have hown := C.2.2.2.2.1
  have hts := C.2.2.2.2.2.1
  have hl : lv_has ls 3 [(0, .ref (ad q)), (1, .int n)] := hl
  have hinX8 : ∀ w ∈ u_ws RX8 TX8 17, w ∈ wsX8_drift := by decide +kernel
  refine lv_aload_n hx hb dX8_drift_0 rfl (lv_at hl 0 rfl) ?_
  refine lv_iconst (v := nI 0) hx hb dX8_drift_1 rfl ?_
  refine r_put C hw RX8 TX8 17 5 hinX8 tyX8 tyX8_ok nmX8 (i := q) (by omega) hE0 rfl 0 (by decide) (by decide +kernel) rfl rfl (v := .int (nI 0)) rfl rfl (Nat.le_of_ble_eq_true rfl) dX8_drift_2 (fun zE1 zH1 zL1 zg1 zf1 zw1 => ?_)
  have zh1_0 : zE1 q = .inr (5, [.int (nI 0), .ref (ad (q + 1)), .long se, .ref (ad (q + 2)), .ref (ad (q + 3)), .int (nI co), .ref (ad (q + 4)), .int (nI pm), .ref (ad (q + 5)), .ref (ad (q + 6)), .ref (ad (q + 7)), .ref (ad (q + 8)), .int (nI em), .ref (ad (q + 9)), .ref (ad (q + 10)), .ref (ad (q + 11)), .ref (ad (q + 12))]) := zg1
  have zfr1 : ∀ j, j ≠ q → zE1 j = E j := fun j zm0 => zf1 j zm0
  refine lv_iload_n hx hb dX8_drift_5 rfl (lv_at hl 1 rfl) ?_
  refine lv_i2l (v := n.toInt64) hx hb dX8_drift_6 rfl ?_
  refine lv_lconst (v := (nI 1).toInt64) hx hb dX8_drift_7 (by decide) ?_
  refine lv_ldc2 (v := 16) hx hb hown (hts (.constantLong RX8 145 (16)) (by decide +kernel)) dX8_drift_8 ?_
  refine r_asL (nI 16).toInt64 (by decide) ?_
  refine r_sI C zw1 hl.1 [.long n.toInt64, .long ((nI 1).toInt64), .long ((nI 16).toInt64)] 3 rfl (c_X8_in (l := l) (G := G) (tC := tC) (ad := ad) (N := N) (E := zE1) (x := n) (a := (nI 1)) (b := (nI 16))   ) gX8_drift_X8_in rfl ⟨rfl, rfl⟩ (by decide +kernel) ⟨Nat.le_of_ble_eq_true rfl, Nat.le_of_ble_eq_true rfl⟩ (rest := []) rfl (Nat.le_of_ble_eq_true rfl) dX8_drift_11 ⟨Nat.zero_le _, Nat.zero_le _⟩ (fun zr2 zE2 zH2 zL2 zp2 zw2 => ?_)
  obtain ⟨ze2, zq2⟩ := zp2
  rw [ze2] at zw2
  clear ze2
  rw [zq2]
  refine b_if_ne (tgt := 20) hx hb dX8_drift_14 (by decide) (fun zc14 => ?_) (fun zc14 => ?_)
  · exact absurd zc14 hno
  · refine lv_ldc (v := -1000000002) hx hb hown (hts (.constant RX8 74 (-1000000002)) (by decide +kernel)) dX8_drift_17 ?_
    exact r_iret C zw2 dX8_drift_19 ⟨zh1_0, (fun j zm0 => zfr1 j zm0), (by rfl)⟩

set_option maxHeartbeats 4000000 in
set_option maxRecDepth 100000 in
theorem c_X8_packet_y {l : Launch} {G : vG} {tC : Nat} {ad : Nat → Nat} {N : Nat} {E : Nat → va_E} {q co pm em : Nat} {th : Int32} {se : Int64} {pg : Nat} {s : Nat → Int32} {b kd e : Nat} {pt pa : Nat → Int32} (hN0 : q + 13 ≤ N) (hE0 : E q = .inr (5, [.int th, .ref (ad (q + 1)), .long se, .ref (ad (q + 2)), .ref (ad (q + 3)), .int (nI co), .ref (ad (q + 4)), .int (nI pm), .ref (ad (q + 5)), .ref (ad (q + 6)), .ref (ad (q + 7)), .ref (ad (q + 8)), .int (nI em), .ref (ad (q + 9)), .ref (ad (q + 10)), .ref (ad (q + 11)), .ref (ad (q + 12))])) (hE1 : E (q + 1) = eI G 508 s) (hE2 : E (q + 2) = eI G 10 pt) (hE3 : E (q + 4) = eI G 8128 pa) (hb3 : b ≤ 3) (hkd : kd ≤ 7) (he : e < 9223372036854775808) (hok : okS s) (hpm : pm ≤ 16) (hpg0 : pg = pgS s) : MI l yX8_packet wsX8_packet ({ frames := 8, cells := 0, slots := 0, locals := 181 } : Room) G tC ad N E [.ref (ad q), .int (nI b), .int (nI kd), .long (lN e)] (fun r E2 => ∃ pt2 : Nat → Int32, E2 q = .inr (5, [.int (nI 0), .ref (ad (q + 1)), .long se, .ref (ad (q + 2)), .ref (ad (q + 3)), .int (nI co), .ref (ad (q + 4)), .int (nI (ntK pm + 1)), .ref (ad (q + 5)), .ref (ad (q + 6)), .ref (ad (q + 7)), .ref (ad (q + 8)), .int (nI em), .ref (ad (q + 9)), .ref (ad (q + 10)), .ref (ad (q + 11)), .ref (ad (q + 12))]) ∧ E2 (q + 1) = eI G 508 (cmF s pg (kpk b kd e)) ∧ E2 (q + 2) = eI G 10 pt2 ∧ E2 (q + 4) = eI G 8128 (ntF pa pm s) ∧ (∀ j, j ≠ q → j ≠ (q + 1) → j ≠ (q + 2) → j ≠ (q + 4) → E2 j = E j) ∧ r = if tkB s (kpk b kd e) then 1 else 0) := by
  refine MI_of RX8 rfl (by decide) rfl (Nat.le_of_ble_eq_true rfl) ?_
  intro pp_ ee_ ss_ mm_ aa_ bb_ me_ cc_ A ls C hw hl
  have hx := C.1
  have hb := C.2.1
  have hown := C.2.2.2.2.1
  have hts := C.2.2.2.2.2.1
  have hl : lv_has ls 8 [(0, .ref (ad q)), (1, .int (nI b)), (2, .int (nI kd)), (3, .long (lN e))] := hl
  have hinX8 : ∀ w ∈ u_ws RX8 TX8 17, w ∈ wsX8_packet := by decide +kernel
  refine lv_aload_n hx hb dX8_packet_0 rfl (lv_at hl 0 rfl) ?_
  refine lv_iconst (v := nI 0) hx hb dX8_packet_1 rfl ?_
  refine r_put C hw RX8 TX8 17 5 hinX8 tyX8 tyX8_ok nmX8 (i := q) (by omega) hE0 rfl 0 (by decide) (by decide +kernel) rfl rfl (v := .int (nI 0)) rfl rfl (Nat.le_of_ble_eq_true rfl) dX8_packet_2 (fun zE1 zH1 zL1 zg1 zf1 zw1 => ?_)
  have zh1_0 : zE1 q = .inr (5, [.int (nI 0), .ref (ad (q + 1)), .long se, .ref (ad (q + 2)), .ref (ad (q + 3)), .int (nI co), .ref (ad (q + 4)), .int (nI pm), .ref (ad (q + 5)), .ref (ad (q + 6)), .ref (ad (q + 7)), .ref (ad (q + 8)), .int (nI em), .ref (ad (q + 9)), .ref (ad (q + 10)), .ref (ad (q + 11)), .ref (ad (q + 12))]) := zg1
  have zk1_0 : zE1 (q + 1) = eI G 508 s := (zf1 _ (by omega)).trans hE1
  have zk1_1 : zE1 (q + 2) = eI G 10 pt := (zf1 _ (by omega)).trans hE2
  have zk1_2 : zE1 (q + 4) = eI G 8128 pa := (zf1 _ (by omega)).trans hE3
  have zfr1 : ∀ j, j ≠ q → zE1 j = E j := fun j zm0 => zf1 j zm0
  refine lv_iload_n hx hb dX8_packet_5 rfl (lv_at hl 1 rfl) ?_
  refine lv_i2l (v := (nI b).toInt64) hx hb dX8_packet_6 rfl ?_
  refine lv_lconst (v := (nI 0).toInt64) hx hb dX8_packet_7 (by decide) ?_
  refine lv_ldc2 (v := 3) hx hb hown (hts (.constantLong RX8 115 (3)) (by decide +kernel)) dX8_packet_8 ?_
  refine r_asL (nI 3).toInt64 (by decide) ?_
  refine r_sI C zw1 hl.1 [.long ((nI b).toInt64), .long ((nI 0).toInt64), .long ((nI 3).toInt64)] 3 rfl (c_X8_in (l := l) (G := G) (tC := tC) (ad := ad) (N := N) (E := zE1) (x := (nI b)) (a := (nI 0)) (b := (nI 3))   ) gX8_packet_X8_in rfl ⟨rfl, rfl⟩ (by decide +kernel) ⟨Nat.le_of_ble_eq_true rfl, Nat.le_of_ble_eq_true rfl⟩ (rest := []) rfl (Nat.le_of_ble_eq_true rfl) dX8_packet_11 ⟨Nat.zero_le _, Nat.zero_le _⟩ (fun zr2 zE2 zH2 zL2 zp2 zw2 => ?_)
  obtain ⟨ze2, zq2⟩ := zp2
  rw [ze2] at zw2
  clear ze2
  rw [zq2]
  refine b_if_eq (tgt := 35) hx hb dX8_packet_14 (by decide) (fun zc14 => ?_) (fun zc14 => ?_)
  · exact absurd (in_nI (by omega) (by omega)) zc14
  · refine lv_iload_n hx hb dX8_packet_17 rfl (lv_at hl 2 rfl) ?_
    refine lv_i2l (v := (nI kd).toInt64) hx hb dX8_packet_18 rfl ?_
    refine lv_lconst (v := (nI 0).toInt64) hx hb dX8_packet_19 (by decide) ?_
    refine lv_ldc2 (v := 7) hx hb hown (hts (.constantLong RX8 102 (7)) (by decide +kernel)) dX8_packet_20 ?_
    refine r_asL (nI 7).toInt64 (by decide) ?_
    refine r_sI C zw2 hl.1 [.long ((nI kd).toInt64), .long ((nI 0).toInt64), .long ((nI 7).toInt64)] 3 rfl (c_X8_in (l := l) (G := G) (tC := tC) (ad := ad) (N := N) (E := zE1) (x := (nI kd)) (a := (nI 0)) (b := (nI 7))   ) gX8_packet_X8_in rfl ⟨rfl, rfl⟩ (by decide +kernel) ⟨Nat.le_of_ble_eq_true rfl, Nat.le_of_ble_eq_true rfl⟩ (rest := []) rfl (Nat.le_of_ble_eq_true rfl) dX8_packet_23 ⟨Nat.zero_le _, Nat.zero_le _⟩ (fun zr3 zE3 zH3 zL3 zp3 zw3 => ?_)
    obtain ⟨ze3, zq3⟩ := zp3
    rw [ze3] at zw3
    clear ze3
    rw [zq3]
    refine b_if_eq (tgt := 35) hx hb dX8_packet_26 (by decide) (fun zc26 => ?_) (fun zc26 => ?_)
    · exact absurd (in_nI (by omega) (by omega)) zc26
    · refine lv_lload_n hx hb dX8_packet_29 rfl (lv_at hl 3 rfl) ?_
      refine lv_lconst (v := (nI 0).toInt64) hx hb dX8_packet_30 (by decide) ?_
      refine W.lcmp hx hb dX8_packet_31 ?_
      refine lv_if_ge (tgt := 38) hx hb dX8_packet_32 (by decide) (fun zc32 => ?_) (fun zc32 => ?_)
      · refine lv_aload_n hx hb dX8_packet_38 rfl (lv_at hl 0 rfl) ?_
        refine r_get C zw3 RX8 TX8 17 5 hinX8 (i := q) (by omega) zh1_0 rfl 3 (by decide) (by decide +kernel) rfl (v := .ref (ad (q + 2))) rfl dX8_packet_39 ?_
        refine lv_iconst (v := nI 0) hx hb dX8_packet_42 rfl ?_
        refine lv_iload_n hx hb dX8_packet_43 rfl (lv_at hl 1 rfl) ?_
        refine r_sI C zw3 hl.1 [.int (nI b)] 1 rfl (c_X8_codeOf (l := l) (G := G) (tC := tC) (ad := ad) (N := N) (E := zE1) (v := b)   (by first | assumption | omega)) gX8_packet_X8_codeOf rfl ⟨rfl, rfl⟩ (by decide +kernel) ⟨Nat.le_of_ble_eq_true rfl, Nat.le_of_ble_eq_true rfl⟩ (rest := [.int (nI 0), .ref (ad (q + 2))]) rfl (Nat.le_of_ble_eq_true rfl) dX8_packet_44 ⟨Nat.zero_le _, Nat.zero_le _⟩ (fun zr4 zE4 zH4 zL4 zp4 zw4 => ?_)
        obtain ⟨ze4, zq4⟩ := zp4
        rw [ze4] at zw4
        clear ze4
        rw [zq4]
        refine r_iasN C zw4 (i := (q + 2)) (by omega) zk1_1 (j := 0) (by omega) (by omega) dX8_packet_47 (fun zE5 zH5 zL5 zg5 zf5 zw5 => ?_)
        have zh5_0 : zE5 (q + 2) = eI G 10 (upd pt 0 (nI (codeN b))) := zg5
        have zk5_0 : zE5 (q + 1) = eI G 508 s := (zf5 _ (by omega)).trans zk1_0
        have zk5_1 : zE5 (q + 4) = eI G 8128 pa := (zf5 _ (by omega)).trans zk1_2
        have zk5_2 : zE5 q = .inr (5, [.int (nI 0), .ref (ad (q + 1)), .long se, .ref (ad (q + 2)), .ref (ad (q + 3)), .int (nI co), .ref (ad (q + 4)), .int (nI pm), .ref (ad (q + 5)), .ref (ad (q + 6)), .ref (ad (q + 7)), .ref (ad (q + 8)), .int (nI em), .ref (ad (q + 9)), .ref (ad (q + 10)), .ref (ad (q + 11)), .ref (ad (q + 12))]) := (zf5 _ (by omega)).trans zh1_0
        have zfr5 : ∀ j, j ≠ q → j ≠ (q + 2) → zE5 j = E j := fun j zm0 zm1 => (zf5 j zm1).trans (zfr1 j zm0)
        refine lv_aload_n hx hb dX8_packet_48 rfl (lv_at hl 0 rfl) ?_
        refine r_get C zw5 RX8 TX8 17 5 hinX8 (i := q) (by omega) zk5_2 rfl 3 (by decide) (by decide +kernel) rfl (v := .ref (ad (q + 2))) rfl dX8_packet_49 ?_
        refine lv_iconst (v := nI 1) hx hb dX8_packet_52 rfl ?_
        refine lv_iload_n hx hb dX8_packet_53 rfl (lv_at hl 2 rfl) ?_
        refine r_sI C zw5 hl.1 [.int (nI kd)] 1 rfl (c_X8_codeOf (l := l) (G := G) (tC := tC) (ad := ad) (N := N) (E := zE5) (v := kd)   (by first | assumption | omega)) gX8_packet_X8_codeOf rfl ⟨rfl, rfl⟩ (by decide +kernel) ⟨Nat.le_of_ble_eq_true rfl, Nat.le_of_ble_eq_true rfl⟩ (rest := [.int (nI 1), .ref (ad (q + 2))]) rfl (Nat.le_of_ble_eq_true rfl) dX8_packet_54 ⟨Nat.zero_le _, Nat.zero_le _⟩ (fun zr6 zE6 zH6 zL6 zp6 zw6 => ?_)
        obtain ⟨ze6, zq6⟩ := zp6
        rw [ze6] at zw6
        clear ze6
        rw [zq6]
        refine r_iasN C zw6 (i := (q + 2)) (by omega) zh5_0 (j := 1) (by omega) (by omega) dX8_packet_57 (fun zE7 zH7 zL7 zg7 zf7 zw7 => ?_)
        have zh7_0 : zE7 (q + 2) = eI G 10 (upd (upd pt 0 (nI (codeN b))) 1 (nI (codeN kd))) := zg7
        have zk7_0 : zE7 (q + 1) = eI G 508 s := (zf7 _ (by omega)).trans zk5_0
        have zk7_1 : zE7 (q + 4) = eI G 8128 pa := (zf7 _ (by omega)).trans zk5_1
        have zk7_2 : zE7 q = .inr (5, [.int (nI 0), .ref (ad (q + 1)), .long se, .ref (ad (q + 2)), .ref (ad (q + 3)), .int (nI co), .ref (ad (q + 4)), .int (nI pm), .ref (ad (q + 5)), .ref (ad (q + 6)), .ref (ad (q + 7)), .ref (ad (q + 8)), .int (nI em), .ref (ad (q + 9)), .ref (ad (q + 10)), .ref (ad (q + 11)), .ref (ad (q + 12))]) := (zf7 _ (by omega)).trans zk5_2
        have zfr7 : ∀ j, j ≠ q → j ≠ (q + 2) → zE7 j = E j := fun j zm0 zm1 => (zf7 j zm1).trans (zfr5 j zm0 zm1)
        refine lv_lload_n hx hb dX8_packet_58 rfl (lv_at hl 3 rfl) ?_
        refine lv_lstore (lv' := [(5, .long (lN e)), (0, .ref (ad q)), (1, .int (nI b)), (2, .int (nI kd)), (3, .long (lN e))]) hx hb dX8_packet_59 hl (by decide) rfl (fun ls hl => ?_)
        refine lv_bipush (v := nI 9) hx hb dX8_packet_61 rfl ?_
        refine lv_istore (lv' := [(7, .int (nI 9)), (5, .long (lN e)), (0, .ref (ad q)), (1, .int (nI b)), (2, .int (nI kd)), (3, .long (lN e))]) hx hb dX8_packet_63 hl (by decide) rfl (fun ls hl => ?_)
        have zlp65 : ∀ (zn : Nat) (k : Nat) (x : Int64) (g : Nat → Int32), k < zn → (1 ≤ k) → (k ≤ 9) → (x = lN (e / 16 ^ (9 - k))) → (∀ j, j < 10 → (j < 2 ∨ k < j) → g j = nI (kpk b kd e j)) → ∀ (E9 : Nat → va_E) (H9 : Heap) (L9 : List Loc), E9 (q + 1) = eI G 508 s → E9 (q + 4) = eI G 8128 pa → E9 q = .inr (5, [.int (nI 0), .ref (ad (q + 1)), .long se, .ref (ad (q + 2)), .ref (ad (q + 3)), .int (nI co), .ref (ad (q + 4)), .int (nI pm), .ref (ad (q + 5)), .ref (ad (q + 6)), .ref (ad (q + 7)), .ref (ad (q + 8)), .int (nI em), .ref (ad (q + 9)), .ref (ad (q + 10)), .ref (ad (q + 11)), .ref (ad (q + 12))]) → E9 (q + 2) = eI G 10 g → (∀ j, j ≠ q → j ≠ (q + 2) → E9 j = E j) → Wd G A ss_.heap H9 L9 ad E9 N → ∀ (ls : Array Slot), lv_has ls 8 [(0, .ref (ad q)), (2, .int (nI kd)), (5, .long x), (7, .int (nI k))] → W pp_ l ee_ ({ frames := 8, cells := 0, slots := 0, locals := 181 } : Room) ss_ mm_ aa_ bb_ me_ cc_ H9 L9 0 0 (QI bb_ aa_ ss_ G ad N A (fun r E2 => ∃ pt2 : Nat → Int32, E2 q = .inr (5, [.int (nI 0), .ref (ad (q + 1)), .long se, .ref (ad (q + 2)), .ref (ad (q + 3)), .int (nI co), .ref (ad (q + 4)), .int (nI (ntK pm + 1)), .ref (ad (q + 5)), .ref (ad (q + 6)), .ref (ad (q + 7)), .ref (ad (q + 8)), .int (nI em), .ref (ad (q + 9)), .ref (ad (q + 10)), .ref (ad (q + 11)), .ref (ad (q + 12))]) ∧ E2 (q + 1) = eI G 508 (cmF s pg (kpk b kd e)) ∧ E2 (q + 2) = eI G 10 pt2 ∧ E2 (q + 4) = eI G 8128 (ntF pa pm s) ∧ (∀ j, j ≠ q → j ≠ (q + 1) → j ≠ (q + 2) → j ≠ (q + 4) → E2 j = E j) ∧ r = if tkB s (kpk b kd e) then 1 else 0)) (F0 mm_ 65 ls []) := by
          intro zn
          induction zn with
          | zero => intro k x g zhm; exact absurd zhm (Nat.not_lt_zero _)
          | succ zn zih65 =>
            intro k x g zhm65 hk1 hk9 hx9 hg zE_65 zH_65 zL_65 zl65_0 zl65_1 zl65_2 zl65_3 zlf65  zlw65 ls hl
            refine lv_iload hx hb dX8_packet_65 (lv_at hl 3 rfl) ?_
            refine lv_iconst (v := nI 2) hx hb dX8_packet_67 rfl ?_
            refine n_icmp_lt (tgt := 103) hx hb dX8_packet_68 (by decide) (by omega) (by omega) (fun zc68 => ?_) (fun zc68 => ?_)
            · refine lv_aload_n hx hb dX8_packet_103 rfl (lv_at hl 0 rfl) ?_
              refine r_vI C zlw65 hl.1 (i := q) (by omega) zl65_2 (T := TX8) (n := 17) rfl [] 0 rfl (c_X8_comes (l := l) (G := G) (tC := tC) (ad := ad) (N := N) (E := zE_65) (q := q) (co := co) (pm := pm) (em := em) (th := nI 0) (se := se) (pg := pg) (s := s) (pt := g) (pk := kpk b kd e) (pa := pa) (by omega) zl65_2 zl65_0 zl65_3 zl65_1 (by rw [hpg0]; exact hok.1) (by rw [hpg0]; exact hok.2.1) (fun j hj => ⟨hg j hj (by omega), kpk_lt e (by omega) (by omega) j⟩) (by rw [hpg0]; exact hok.2.2) (by first | assumption | omega)) gX8_packet_X8_comes rfl ⟨rfl, rfl⟩ (by decide +kernel) ⟨Nat.le_of_ble_eq_true rfl, Nat.le_of_ble_eq_true rfl⟩ (rest := []) rfl (Nat.le_of_ble_eq_true rfl) dX8_packet_104 ⟨Nat.zero_le _, Nat.zero_le _⟩ (fun zr8 zE8 zH8 zL8 zp8 zw8 => ?_)
              obtain ⟨zg8_0, zg8_1, zg8_2, zf8, zq8⟩ := zp8
              have zh8_0 : zE8 q = .inr (5, [.int (nI 0), .ref (ad (q + 1)), .long se, .ref (ad (q + 2)), .ref (ad (q + 3)), .int (nI co), .ref (ad (q + 4)), .int (nI (ntK pm + 1)), .ref (ad (q + 5)), .ref (ad (q + 6)), .ref (ad (q + 7)), .ref (ad (q + 8)), .int (nI em), .ref (ad (q + 9)), .ref (ad (q + 10)), .ref (ad (q + 11)), .ref (ad (q + 12))]) := zg8_0
              have zh8_1 : zE8 (q + 1) = eI G 508 (cmF s pg (kpk b kd e)) := zg8_1
              have zh8_2 : zE8 (q + 4) = eI G 8128 (ntF pa pm s) := zg8_2
              have zk8_0 : zE8 (q + 2) = eI G 10 g := (zf8 _ (by omega) (by omega) (by omega)).trans zl65_3
              have zfr8 : ∀ j, j ≠ q → j ≠ (q + 2) → j ≠ (q + 1) → j ≠ (q + 4) → zE8 j = E j := fun j zm0 zm1 zm2 zm3 => (zf8 j zm0 zm2 zm3).trans (zlf65 j zm0 zm1)
              rw [zq8]
              exact r_iret C zw8 dX8_packet_107 ⟨g, zh8_0, zh8_1, zk8_0, zh8_2, (fun j zm0 zm1 zm2 zm3 => zfr8 j zm0 zm2 zm1 zm3), (by rfl)⟩
            · refine lv_aload_n hx hb dX8_packet_71 rfl (lv_at hl 0 rfl) ?_
              refine r_get C zlw65 RX8 TX8 17 5 hinX8 (i := q) (by omega) zl65_2 rfl 3 (by decide) (by decide +kernel) rfl (v := .ref (ad (q + 2))) rfl dX8_packet_72 ?_
              refine lv_iload hx hb dX8_packet_75 (lv_at hl 3 rfl) ?_
              refine lv_iload_n hx hb dX8_packet_77 rfl (lv_at hl 1 rfl) ?_
              refine lv_lload hx hb dX8_packet_78 (lv_at hl 2 rfl) ?_
              refine lv_ldc2 (v := 16) hx hb hown (hts (.constantLong RX8 145 (16)) (by decide +kernel)) dX8_packet_80 ?_
              refine lv_lrem hx hb dX8_packet_83 (by decide) ?_
              refine r_asL (lN (e / 16 ^ (9 - k) % 16)) (by rw [hx9]; exact lx_rem (Nat.lt_of_le_of_lt (Nat.div_le_self _ _) he)) ?_
              refine lv_l2i (v := (lN (e / 16 ^ (9 - k) % 16)).toInt32) hx hb dX8_packet_84 rfl ?_
              refine r_nat (e / 16 ^ (9 - k) % 16) (lN_i _) ?_
              refine r_sI C zlw65 hl.1 [.int (nI kd), .int (nI (e / 16 ^ (9 - k) % 16))] 2 rfl (c_X8_laid (l := l) (G := G) (tC := tC) (ad := ad) (N := N) (E := zE_65) (kd := kd) (v := e / 16 ^ (9 - k) % 16)   (by first | assumption | omega) (by first | assumption | omega)) gX8_packet_X8_laid rfl ⟨rfl, rfl⟩ (by decide +kernel) ⟨Nat.le_of_ble_eq_true rfl, Nat.le_of_ble_eq_true rfl⟩ (rest := [.int (nI k), .ref (ad (q + 2))]) rfl (Nat.le_of_ble_eq_true rfl) dX8_packet_85 ⟨Nat.zero_le _, Nat.zero_le _⟩ (fun zr9 zE9 zH9 zL9 zp9 zw9 => ?_)
              obtain ⟨ze9, zq9⟩ := zp9
              rw [ze9] at zw9
              clear ze9
              rw [zq9]
              refine r_iasN C zw9 (i := (q + 2)) (by omega) zl65_3 (j := k) (by omega) (by omega) dX8_packet_88 (fun zE10 zH10 zL10 zg10 zf10 zw10 => ?_)
              have zh10_0 : zE10 (q + 2) = eI G 10 (upd g k (nI (laidN kd (e / 16 ^ (9 - k) % 16)))) := zg10
              have zk10_0 : zE10 (q + 1) = eI G 508 s := (zf10 _ (by omega)).trans zl65_0
              have zk10_1 : zE10 (q + 4) = eI G 8128 pa := (zf10 _ (by omega)).trans zl65_1
              have zk10_2 : zE10 q = .inr (5, [.int (nI 0), .ref (ad (q + 1)), .long se, .ref (ad (q + 2)), .ref (ad (q + 3)), .int (nI co), .ref (ad (q + 4)), .int (nI pm), .ref (ad (q + 5)), .ref (ad (q + 6)), .ref (ad (q + 7)), .ref (ad (q + 8)), .int (nI em), .ref (ad (q + 9)), .ref (ad (q + 10)), .ref (ad (q + 11)), .ref (ad (q + 12))]) := (zf10 _ (by omega)).trans zl65_2
              have zfr10 : ∀ j, j ≠ q → j ≠ (q + 2) → zE10 j = E j := fun j zm0 zm1 => (zf10 j zm1).trans (zlf65 j zm0 zm1)
              refine lv_lload hx hb dX8_packet_89 (lv_at hl 2 rfl) ?_
              refine lv_ldc2 (v := 16) hx hb hown (hts (.constantLong RX8 145 (16)) (by decide +kernel)) dX8_packet_91 ?_
              refine lv_ldiv hx hb dX8_packet_94 (by decide) ?_
              refine lv_lstore (lv' := [(5, .long (x / (16 : Int64))), (0, .ref (ad q)), (2, .int (nI kd)), (7, .int (nI k))]) hx hb dX8_packet_95 hl (by decide) rfl (fun ls hl => ?_)
              refine lv_iinc (v := nI (k - 1)) (lv' := [(7, .int (nI (k - 1))), (5, .long (x / (16 : Int64))), (0, .ref (ad q)), (2, .int (nI kd))]) hx hb dX8_packet_97 hl (k := 3) rfl (by rw [show nI k + Int32.ofInt (-1) = nI k + (-1) from rfl, show k = (k - 1) + 1 by omega]; exact pk_m1 _) (by decide) rfl (fun ls hl => ?_)
              refine lv_goto (tgt := 65) hx hb dX8_packet_100 (by decide) ?_
              exact zih65 (k - 1) (x / (16 : Int64)) (upd g k (nI (laidN kd (e / 16 ^ (9 - k) % 16)))) (by omega) (by omega) (by omega) (by rw [hx9, lx_div (Nat.lt_of_le_of_lt (Nat.div_le_self _ _) he), div16 e hk1 hk9]) (by exact kp_s (by omega) hg) _ _ _ zk10_0 zk10_1 zk10_2 zh10_0 (fun j zm0 zm1 => zfr10 j zm0 zm1) zw10 _ (lv_sub hl [2, 3, 1, 0] rfl)
        exact zlp65 _ 9 (lN e) (upd (upd pt 0 (nI (codeN b))) 1 (nI (codeN kd))) (Nat.lt_succ_self _) (by omega) (by omega) (by rw [show 9 - 9 = 0 by omega, Nat.pow_zero, Nat.div_one]) (by exact kp_init) _ _ _ zk7_0 zk7_1 zk7_2 zh7_0 (fun j zm0 zm1 => zfr7 j zm0 zm1) zw7 _ (lv_sub hl [2, 4, 1, 0] rfl)
      · exact absurd ((lg_cmp_ge _ _).mpr (lN0_le he)) zc32

set_option maxHeartbeats 4000000 in
set_option maxRecDepth 100000 in
theorem c_X8_packet_n {l : Launch} {G : vG} {tC : Nat} {ad : Nat → Nat} {N : Nat} {E : Nat → va_E} {q co pm em : Nat} {th : Int32} {se : Int64} {b kd : Int32} {e : Int64} (hN0 : q + 13 ≤ N) (hE0 : E q = .inr (5, [.int th, .ref (ad (q + 1)), .long se, .ref (ad (q + 2)), .ref (ad (q + 3)), .int (nI co), .ref (ad (q + 4)), .int (nI pm), .ref (ad (q + 5)), .ref (ad (q + 6)), .ref (ad (q + 7)), .ref (ad (q + 8)), .int (nI em), .ref (ad (q + 9)), .ref (ad (q + 10)), .ref (ad (q + 11)), .ref (ad (q + 12))])) (hno : ¬ ((nI 0 ≤ b ∧ b ≤ nI 3) ∧ (nI 0 ≤ kd ∧ kd ≤ nI 7) ∧ (nI 0).toInt64 ≤ e)) : MI l yX8_packet wsX8_packet ({ frames := 8, cells := 0, slots := 0, locals := 181 } : Room) G tC ad N E [.ref (ad q), .int b, .int kd, .long e] (fun r E2 => E2 q = .inr (5, [.int (nI 0), .ref (ad (q + 1)), .long se, .ref (ad (q + 2)), .ref (ad (q + 3)), .int (nI co), .ref (ad (q + 4)), .int (nI pm), .ref (ad (q + 5)), .ref (ad (q + 6)), .ref (ad (q + 7)), .ref (ad (q + 8)), .int (nI em), .ref (ad (q + 9)), .ref (ad (q + 10)), .ref (ad (q + 11)), .ref (ad (q + 12))]) ∧ (∀ j, j ≠ q → E2 j = E j) ∧ r = -1000000002) := by
  refine MI_of RX8 rfl (by decide) rfl (Nat.le_of_ble_eq_true rfl) ?_
  intro pp_ ee_ ss_ mm_ aa_ bb_ me_ cc_ A ls C hw hl
  have hx := C.1
  have hb := C.2.1
  have hown := C.2.2.2.2.1
  have hts := C.2.2.2.2.2.1
  have hl : lv_has ls 8 [(0, .ref (ad q)), (1, .int b), (2, .int kd), (3, .long e)] := hl
  have hinX8 : ∀ w ∈ u_ws RX8 TX8 17, w ∈ wsX8_packet := by decide +kernel
  refine lv_aload_n hx hb dX8_packet_0 rfl (lv_at hl 0 rfl) ?_
  refine lv_iconst (v := nI 0) hx hb dX8_packet_1 rfl ?_
  refine r_put C hw RX8 TX8 17 5 hinX8 tyX8 tyX8_ok nmX8 (i := q) (by omega) hE0 rfl 0 (by decide) (by decide +kernel) rfl rfl (v := .int (nI 0)) rfl rfl (Nat.le_of_ble_eq_true rfl) dX8_packet_2 (fun zE1 zH1 zL1 zg1 zf1 zw1 => ?_)
  have zh1_0 : zE1 q = .inr (5, [.int (nI 0), .ref (ad (q + 1)), .long se, .ref (ad (q + 2)), .ref (ad (q + 3)), .int (nI co), .ref (ad (q + 4)), .int (nI pm), .ref (ad (q + 5)), .ref (ad (q + 6)), .ref (ad (q + 7)), .ref (ad (q + 8)), .int (nI em), .ref (ad (q + 9)), .ref (ad (q + 10)), .ref (ad (q + 11)), .ref (ad (q + 12))]) := zg1
  have zfr1 : ∀ j, j ≠ q → zE1 j = E j := fun j zm0 => zf1 j zm0
  refine lv_iload_n hx hb dX8_packet_5 rfl (lv_at hl 1 rfl) ?_
  refine lv_i2l (v := b.toInt64) hx hb dX8_packet_6 rfl ?_
  refine lv_lconst (v := (nI 0).toInt64) hx hb dX8_packet_7 (by decide) ?_
  refine lv_ldc2 (v := 3) hx hb hown (hts (.constantLong RX8 115 (3)) (by decide +kernel)) dX8_packet_8 ?_
  refine r_asL (nI 3).toInt64 (by decide) ?_
  refine r_sI C zw1 hl.1 [.long b.toInt64, .long ((nI 0).toInt64), .long ((nI 3).toInt64)] 3 rfl (c_X8_in (l := l) (G := G) (tC := tC) (ad := ad) (N := N) (E := zE1) (x := b) (a := (nI 0)) (b := (nI 3))   ) gX8_packet_X8_in rfl ⟨rfl, rfl⟩ (by decide +kernel) ⟨Nat.le_of_ble_eq_true rfl, Nat.le_of_ble_eq_true rfl⟩ (rest := []) rfl (Nat.le_of_ble_eq_true rfl) dX8_packet_11 ⟨Nat.zero_le _, Nat.zero_le _⟩ (fun zr2 zE2 zH2 zL2 zp2 zw2 => ?_)
  obtain ⟨ze2, zq2⟩ := zp2
  rw [ze2] at zw2
  clear ze2
  rw [zq2]
  refine b_if_eq (tgt := 35) hx hb dX8_packet_14 (by decide) (fun zc14 => ?_) (fun zc14 => ?_)
  · refine lv_ldc (v := -1000000002) hx hb hown (hts (.constant RX8 74 (-1000000002)) (by decide +kernel)) dX8_packet_35 ?_
    exact r_iret C zw2 dX8_packet_37 ⟨zh1_0, (fun j zm0 => zfr1 j zm0), (by rfl)⟩
  · refine lv_iload_n hx hb dX8_packet_17 rfl (lv_at hl 2 rfl) ?_
    refine lv_i2l (v := kd.toInt64) hx hb dX8_packet_18 rfl ?_
    refine lv_lconst (v := (nI 0).toInt64) hx hb dX8_packet_19 (by decide) ?_
    refine lv_ldc2 (v := 7) hx hb hown (hts (.constantLong RX8 102 (7)) (by decide +kernel)) dX8_packet_20 ?_
    refine r_asL (nI 7).toInt64 (by decide) ?_
    refine r_sI C zw2 hl.1 [.long kd.toInt64, .long ((nI 0).toInt64), .long ((nI 7).toInt64)] 3 rfl (c_X8_in (l := l) (G := G) (tC := tC) (ad := ad) (N := N) (E := zE1) (x := kd) (a := (nI 0)) (b := (nI 7))   ) gX8_packet_X8_in rfl ⟨rfl, rfl⟩ (by decide +kernel) ⟨Nat.le_of_ble_eq_true rfl, Nat.le_of_ble_eq_true rfl⟩ (rest := []) rfl (Nat.le_of_ble_eq_true rfl) dX8_packet_23 ⟨Nat.zero_le _, Nat.zero_le _⟩ (fun zr3 zE3 zH3 zL3 zp3 zw3 => ?_)
    obtain ⟨ze3, zq3⟩ := zp3
    rw [ze3] at zw3
    clear ze3
    rw [zq3]
    refine b_if_eq (tgt := 35) hx hb dX8_packet_26 (by decide) (fun zc26 => ?_) (fun zc26 => ?_)
    · refine lv_ldc (v := -1000000002) hx hb hown (hts (.constant RX8 74 (-1000000002)) (by decide +kernel)) dX8_packet_35 ?_
      exact r_iret C zw3 dX8_packet_37 ⟨zh1_0, (fun j zm0 => zfr1 j zm0), (by rfl)⟩
    · refine lv_lload_n hx hb dX8_packet_29 rfl (lv_at hl 3 rfl) ?_
      refine lv_lconst (v := (nI 0).toInt64) hx hb dX8_packet_30 (by decide) ?_
      refine W.lcmp hx hb dX8_packet_31 ?_
      refine lv_if_ge (tgt := 38) hx hb dX8_packet_32 (by decide) (fun zc32 => ?_) (fun zc32 => ?_)
      · exact absurd ⟨zc14, zc26, (lg_cmp_ge _ _).mp zc32⟩ hno
      · refine lv_ldc (v := -1000000002) hx hb hown (hts (.constant RX8 74 (-1000000002)) (by decide +kernel)) dX8_packet_35 ?_
        exact r_iret C zw3 dX8_packet_37 ⟨zh1_0, (fun j zm0 => zfr1 j zm0), (by rfl)⟩

set_option maxHeartbeats 4000000 in
set_option maxRecDepth 100000 in
theorem c_X8_octet_n {l : Launch} {G : vG} {tC : Nat} {ad : Nat → Nat} {N : Nat} {E : Nat → va_E} {q co pm em : Nat} {th : Int32} {se : Int64} {v : Int32} (hN0 : q + 13 ≤ N) (hE0 : E q = .inr (5, [.int th, .ref (ad (q + 1)), .long se, .ref (ad (q + 2)), .ref (ad (q + 3)), .int (nI co), .ref (ad (q + 4)), .int (nI pm), .ref (ad (q + 5)), .ref (ad (q + 6)), .ref (ad (q + 7)), .ref (ad (q + 8)), .int (nI em), .ref (ad (q + 9)), .ref (ad (q + 10)), .ref (ad (q + 11)), .ref (ad (q + 12))])) (hno : ¬ (nI 0 ≤ v ∧ v ≤ nI 255)) : MI l yX8_octet wsX8_octet ({ frames := 8, cells := 0, slots := 0, locals := 181 } : Room) G tC ad N E [.ref (ad q), .int v] (fun r E2 => E2 q = .inr (5, [.int (nI 0), .ref (ad (q + 1)), .long se, .ref (ad (q + 2)), .ref (ad (q + 3)), .int (nI co), .ref (ad (q + 4)), .int (nI pm), .ref (ad (q + 5)), .ref (ad (q + 6)), .ref (ad (q + 7)), .ref (ad (q + 8)), .int (nI em), .ref (ad (q + 9)), .ref (ad (q + 10)), .ref (ad (q + 11)), .ref (ad (q + 12))]) ∧ (∀ j, j ≠ q → E2 j = E j) ∧ r = -1000000002) := by
  refine MI_of RX8 rfl (by decide) rfl (Nat.le_of_ble_eq_true rfl) ?_
  intro pp_ ee_ ss_ mm_ aa_ bb_ me_ cc_ A ls C hw hl
  have hx := C.1
  have hb := C.2.1
  have hown := C.2.2.2.2.1
  have hts := C.2.2.2.2.2.1
  have hl : lv_has ls 3 [(0, .ref (ad q)), (1, .int v)] := hl
  have hinX8 : ∀ w ∈ u_ws RX8 TX8 17, w ∈ wsX8_octet := by decide +kernel
  refine lv_aload_n hx hb dX8_octet_0 rfl (lv_at hl 0 rfl) ?_
  refine lv_iconst (v := nI 0) hx hb dX8_octet_1 rfl ?_
  refine r_put C hw RX8 TX8 17 5 hinX8 tyX8 tyX8_ok nmX8 (i := q) (by omega) hE0 rfl 0 (by decide) (by decide +kernel) rfl rfl (v := .int (nI 0)) rfl rfl (Nat.le_of_ble_eq_true rfl) dX8_octet_2 (fun zE1 zH1 zL1 zg1 zf1 zw1 => ?_)
  have zh1_0 : zE1 q = .inr (5, [.int (nI 0), .ref (ad (q + 1)), .long se, .ref (ad (q + 2)), .ref (ad (q + 3)), .int (nI co), .ref (ad (q + 4)), .int (nI pm), .ref (ad (q + 5)), .ref (ad (q + 6)), .ref (ad (q + 7)), .ref (ad (q + 8)), .int (nI em), .ref (ad (q + 9)), .ref (ad (q + 10)), .ref (ad (q + 11)), .ref (ad (q + 12))]) := zg1
  have zfr1 : ∀ j, j ≠ q → zE1 j = E j := fun j zm0 => zf1 j zm0
  refine lv_iload_n hx hb dX8_octet_5 rfl (lv_at hl 1 rfl) ?_
  refine lv_i2l (v := v.toInt64) hx hb dX8_octet_6 rfl ?_
  refine lv_lconst (v := (nI 0).toInt64) hx hb dX8_octet_7 (by decide) ?_
  refine lv_ldc2 (v := 255) hx hb hown (hts (.constantLong RX8 75 (255)) (by decide +kernel)) dX8_octet_8 ?_
  refine r_asL (nI 255).toInt64 (by decide) ?_
  refine r_sI C zw1 hl.1 [.long v.toInt64, .long ((nI 0).toInt64), .long ((nI 255).toInt64)] 3 rfl (c_X8_in (l := l) (G := G) (tC := tC) (ad := ad) (N := N) (E := zE1) (x := v) (a := (nI 0)) (b := (nI 255))   ) gX8_octet_X8_in rfl ⟨rfl, rfl⟩ (by decide +kernel) ⟨Nat.le_of_ble_eq_true rfl, Nat.le_of_ble_eq_true rfl⟩ (rest := []) rfl (Nat.le_of_ble_eq_true rfl) dX8_octet_11 ⟨Nat.zero_le _, Nat.zero_le _⟩ (fun zr2 zE2 zH2 zL2 zp2 zw2 => ?_)
  obtain ⟨ze2, zq2⟩ := zp2
  rw [ze2] at zw2
  clear ze2
  rw [zq2]
  refine b_if_ne (tgt := 20) hx hb dX8_octet_14 (by decide) (fun zc14 => ?_) (fun zc14 => ?_)
  · exact absurd zc14 hno
  · refine lv_ldc (v := -1000000002) hx hb hown (hts (.constant RX8 74 (-1000000002)) (by decide +kernel)) dX8_octet_17 ?_
    exact r_iret C zw2 dX8_octet_19 ⟨zh1_0, (fun j zm0 => zfr1 j zm0), (by rfl)⟩

set_option maxHeartbeats 4000000 in
set_option maxRecDepth 100000 in
theorem c_X8_octet_y {l : Launch} {G : vG} {tC : Nat} {ad : Nat → Nat} {N : Nat} {E : Nat → va_E} {q co pm em : Nat} {th : Int32} {se : Int64} {v : Nat} {cg : Nat → Int32} (hN0 : q + 13 ≤ N) (hE0 : E q = .inr (5, [.int th, .ref (ad (q + 1)), .long se, .ref (ad (q + 2)), .ref (ad (q + 3)), .int (nI co), .ref (ad (q + 4)), .int (nI pm), .ref (ad (q + 5)), .ref (ad (q + 6)), .ref (ad (q + 7)), .ref (ad (q + 8)), .int (nI em), .ref (ad (q + 9)), .ref (ad (q + 10)), .ref (ad (q + 11)), .ref (ad (q + 12))])) (hE1 : E (q + 3) = eI G 10 cg) (hv : v ≤ 255) (hco : co < 9) : MI l yX8_octet wsX8_octet ({ frames := 8, cells := 0, slots := 0, locals := 181 } : Room) G tC ad N E [.ref (ad q), .int (nI v)] (fun r E2 => E2 q = .inr (5, [.int (nI 0), .ref (ad (q + 1)), .long se, .ref (ad (q + 2)), .ref (ad (q + 3)), .int (nI (co + 1)), .ref (ad (q + 4)), .int (nI pm), .ref (ad (q + 5)), .ref (ad (q + 6)), .ref (ad (q + 7)), .ref (ad (q + 8)), .int (nI em), .ref (ad (q + 9)), .ref (ad (q + 10)), .ref (ad (q + 11)), .ref (ad (q + 12))]) ∧ E2 (q + 3) = eI G 10 (upd cg co (nI v)) ∧ (∀ j, j ≠ q → j ≠ (q + 3) → E2 j = E j) ∧ r = nI (co + 1)) := by
  refine MI_of RX8 rfl (by decide) rfl (Nat.le_of_ble_eq_true rfl) ?_
  intro pp_ ee_ ss_ mm_ aa_ bb_ me_ cc_ A ls C hw hl
  have hx := C.1
  have hb := C.2.1
  have hown := C.2.2.2.2.1
  have hts := C.2.2.2.2.2.1
  have hl : lv_has ls 3 [(0, .ref (ad q)), (1, .int (nI v))] := hl
  have hinX8 : ∀ w ∈ u_ws RX8 TX8 17, w ∈ wsX8_octet := by decide +kernel
  refine lv_aload_n hx hb dX8_octet_0 rfl (lv_at hl 0 rfl) ?_
  refine lv_iconst (v := nI 0) hx hb dX8_octet_1 rfl ?_
  refine r_put C hw RX8 TX8 17 5 hinX8 tyX8 tyX8_ok nmX8 (i := q) (by omega) hE0 rfl 0 (by decide) (by decide +kernel) rfl rfl (v := .int (nI 0)) rfl rfl (Nat.le_of_ble_eq_true rfl) dX8_octet_2 (fun zE1 zH1 zL1 zg1 zf1 zw1 => ?_)
  have zh1_0 : zE1 q = .inr (5, [.int (nI 0), .ref (ad (q + 1)), .long se, .ref (ad (q + 2)), .ref (ad (q + 3)), .int (nI co), .ref (ad (q + 4)), .int (nI pm), .ref (ad (q + 5)), .ref (ad (q + 6)), .ref (ad (q + 7)), .ref (ad (q + 8)), .int (nI em), .ref (ad (q + 9)), .ref (ad (q + 10)), .ref (ad (q + 11)), .ref (ad (q + 12))]) := zg1
  have zk1_0 : zE1 (q + 3) = eI G 10 cg := (zf1 _ (by omega)).trans hE1
  have zfr1 : ∀ j, j ≠ q → zE1 j = E j := fun j zm0 => zf1 j zm0
  refine lv_iload_n hx hb dX8_octet_5 rfl (lv_at hl 1 rfl) ?_
  refine lv_i2l (v := (nI v).toInt64) hx hb dX8_octet_6 rfl ?_
  refine lv_lconst (v := (nI 0).toInt64) hx hb dX8_octet_7 (by decide) ?_
  refine lv_ldc2 (v := 255) hx hb hown (hts (.constantLong RX8 75 (255)) (by decide +kernel)) dX8_octet_8 ?_
  refine r_asL (nI 255).toInt64 (by decide) ?_
  refine r_sI C zw1 hl.1 [.long ((nI v).toInt64), .long ((nI 0).toInt64), .long ((nI 255).toInt64)] 3 rfl (c_X8_in (l := l) (G := G) (tC := tC) (ad := ad) (N := N) (E := zE1) (x := (nI v)) (a := (nI 0)) (b := (nI 255))   ) gX8_octet_X8_in rfl ⟨rfl, rfl⟩ (by decide +kernel) ⟨Nat.le_of_ble_eq_true rfl, Nat.le_of_ble_eq_true rfl⟩ (rest := []) rfl (Nat.le_of_ble_eq_true rfl) dX8_octet_11 ⟨Nat.zero_le _, Nat.zero_le _⟩ (fun zr2 zE2 zH2 zL2 zp2 zw2 => ?_)
  obtain ⟨ze2, zq2⟩ := zp2
  rw [ze2] at zw2
  clear ze2
  rw [zq2]
  refine b_if_ne (tgt := 20) hx hb dX8_octet_14 (by decide) (fun zc14 => ?_) (fun zc14 => ?_)
  · refine lv_aload_n hx hb dX8_octet_20 rfl (lv_at hl 0 rfl) ?_
    refine r_get C zw2 RX8 TX8 17 5 hinX8 (i := q) (by omega) zh1_0 rfl 4 (by decide) (by decide +kernel) rfl (v := .ref (ad (q + 3))) rfl dX8_octet_21 ?_
    refine lv_aload_n hx hb dX8_octet_24 rfl (lv_at hl 0 rfl) ?_
    refine r_get C zw2 RX8 TX8 17 5 hinX8 (i := q) (by omega) zh1_0 rfl 5 (by decide) (by decide +kernel) rfl (v := .int (nI co)) rfl dX8_octet_25 ?_
    refine lv_iload_n hx hb dX8_octet_28 rfl (lv_at hl 1 rfl) ?_
    refine r_iasN C zw2 (i := (q + 3)) (by omega) zk1_0 (j := co) (by omega) (by omega) dX8_octet_29 (fun zE3 zH3 zL3 zg3 zf3 zw3 => ?_)
    have zh3_0 : zE3 (q + 3) = eI G 10 (upd cg co (nI v)) := zg3
    have zk3_0 : zE3 q = .inr (5, [.int (nI 0), .ref (ad (q + 1)), .long se, .ref (ad (q + 2)), .ref (ad (q + 3)), .int (nI co), .ref (ad (q + 4)), .int (nI pm), .ref (ad (q + 5)), .ref (ad (q + 6)), .ref (ad (q + 7)), .ref (ad (q + 8)), .int (nI em), .ref (ad (q + 9)), .ref (ad (q + 10)), .ref (ad (q + 11)), .ref (ad (q + 12))]) := (zf3 _ (by omega)).trans zh1_0
    have zfr3 : ∀ j, j ≠ q → j ≠ (q + 3) → zE3 j = E j := fun j zm0 zm1 => (zf3 j zm1).trans (zfr1 j zm0)
    refine lv_aload_n hx hb dX8_octet_30 rfl (lv_at hl 0 rfl) ?_
    refine lv_dup hx hb dX8_octet_31 rfl ?_
    refine r_get C zw3 RX8 TX8 17 5 hinX8 (i := q) (by omega) zk3_0 rfl 5 (by decide) (by decide +kernel) rfl (v := .int (nI co)) rfl dX8_octet_32 ?_
    refine lv_iconst (v := nI 1) hx hb dX8_octet_35 rfl ?_
    refine lv_iadd hx hb dX8_octet_36 ?_
    refine r_nat (co + 1) (nI_add _ _) ?_
    refine r_put C zw3 RX8 TX8 17 5 hinX8 tyX8 tyX8_ok nmX8 (i := q) (by omega) zk3_0 rfl 5 (by decide) (by decide +kernel) rfl rfl (v := .int (nI (co + 1))) rfl rfl (Nat.le_of_ble_eq_true rfl) dX8_octet_37 (fun zE4 zH4 zL4 zg4 zf4 zw4 => ?_)
    have zh4_0 : zE4 q = .inr (5, [.int (nI 0), .ref (ad (q + 1)), .long se, .ref (ad (q + 2)), .ref (ad (q + 3)), .int (nI (co + 1)), .ref (ad (q + 4)), .int (nI pm), .ref (ad (q + 5)), .ref (ad (q + 6)), .ref (ad (q + 7)), .ref (ad (q + 8)), .int (nI em), .ref (ad (q + 9)), .ref (ad (q + 10)), .ref (ad (q + 11)), .ref (ad (q + 12))]) := zg4
    have zk4_0 : zE4 (q + 3) = eI G 10 (upd cg co (nI v)) := (zf4 _ (by omega)).trans zh3_0
    have zfr4 : ∀ j, j ≠ q → j ≠ (q + 3) → zE4 j = E j := fun j zm0 zm1 => (zf4 j zm0).trans (zfr3 j zm0 zm1)
    refine lv_aload_n hx hb dX8_octet_40 rfl (lv_at hl 0 rfl) ?_
    refine r_get C zw4 RX8 TX8 17 5 hinX8 (i := q) (by omega) zh4_0 rfl 5 (by decide) (by decide +kernel) rfl (v := .int (nI (co + 1))) rfl dX8_octet_41 ?_
    refine lv_bipush (v := nI 10) hx hb dX8_octet_44 rfl ?_
    refine n_icmp_ne (tgt := 85) hx hb dX8_octet_46 (by decide) (by omega) (by omega) (fun zc46 => ?_) (fun zc46 => ?_)
    · refine lv_aload_n hx hb dX8_octet_85 rfl (lv_at hl 0 rfl) ?_
      refine r_get C zw4 RX8 TX8 17 5 hinX8 (i := q) (by omega) zh4_0 rfl 5 (by decide) (by decide +kernel) rfl (v := .int (nI (co + 1))) rfl dX8_octet_86 ?_
      exact r_iret C zw4 dX8_octet_89 ⟨zh4_0, zk4_0, (fun j zm0 zm1 => zfr4 j zm0 zm1), (by rfl)⟩
    · exact absurd zc46 (by omega)
  · exact absurd (in_nI (by omega) (by omega)) zc14

set_option maxHeartbeats 4000000 in
set_option maxRecDepth 100000 in
theorem c_X8_octet_f {l : Launch} {G : vG} {tC : Nat} {ad : Nat → Nat} {N : Nat} {E : Nat → va_E} {q co pm em : Nat} {th : Int32} {se : Int64} {pg : Nat} {s : Nat → Int32} {cg : Nat → Int32} {ck : Nat → Nat} {v : Nat} {pt pa : Nat → Int32} (hN0 : q + 13 ≤ N) (hE0 : E q = .inr (5, [.int th, .ref (ad (q + 1)), .long se, .ref (ad (q + 2)), .ref (ad (q + 3)), .int (nI co), .ref (ad (q + 4)), .int (nI pm), .ref (ad (q + 5)), .ref (ad (q + 6)), .ref (ad (q + 7)), .ref (ad (q + 8)), .int (nI em), .ref (ad (q + 9)), .ref (ad (q + 10)), .ref (ad (q + 11)), .ref (ad (q + 12))])) (hE1 : E (q + 1) = eI G 508 s) (hE2 : E (q + 2) = eI G 10 pt) (hE3 : E (q + 3) = eI G 10 cg) (hE4 : E (q + 4) = eI G 8128 pa) (hv : v ≤ 255) (hco : co = 9) (hok : okS s) (hpm : pm ≤ 16) (hpg0 : pg = pgS s) (hck : ∀ j, j < 9 → cg j = nI (ck j) ∧ ck j < 256) : MI l yX8_octet wsX8_octet ({ frames := 8, cells := 0, slots := 0, locals := 181 } : Room) G tC ad N E [.ref (ad q), .int (nI v)] (fun r E2 => ∃ pt2 : Nat → Int32, E2 q = .inr (5, [.int (nI 0), .ref (ad (q + 1)), .long se, .ref (ad (q + 2)), .ref (ad (q + 3)), .int (nI 0), .ref (ad (q + 4)), .int (nI (ntK pm + 1)), .ref (ad (q + 5)), .ref (ad (q + 6)), .ref (ad (q + 7)), .ref (ad (q + 8)), .int (nI em), .ref (ad (q + 9)), .ref (ad (q + 10)), .ref (ad (q + 11)), .ref (ad (q + 12))]) ∧ E2 (q + 1) = eI G 508 (cmF s pg (ckV ck v)) ∧ E2 (q + 2) = eI G 10 pt2 ∧ E2 (q + 3) = eI G 10 (upd cg 9 (nI v)) ∧ E2 (q + 4) = eI G 8128 (ntF pa pm s) ∧ (∀ j, j ≠ q → j ≠ (q + 1) → j ≠ (q + 2) → j ≠ (q + 3) → j ≠ (q + 4) → E2 j = E j) ∧ r = nI 0) := by
  refine MI_of RX8 rfl (by decide) rfl (Nat.le_of_ble_eq_true rfl) ?_
  intro pp_ ee_ ss_ mm_ aa_ bb_ me_ cc_ A ls C hw hl
  have hx := C.1
  have hb := C.2.1
  have hown := C.2.2.2.2.1
  have hts := C.2.2.2.2.2.1
  have hl : lv_has ls 3 [(0, .ref (ad q)), (1, .int (nI v))] := hl
  have hinX8 : ∀ w ∈ u_ws RX8 TX8 17, w ∈ wsX8_octet := by decide +kernel
  refine lv_aload_n hx hb dX8_octet_0 rfl (lv_at hl 0 rfl) ?_
  refine lv_iconst (v := nI 0) hx hb dX8_octet_1 rfl ?_
  refine r_put C hw RX8 TX8 17 5 hinX8 tyX8 tyX8_ok nmX8 (i := q) (by omega) hE0 rfl 0 (by decide) (by decide +kernel) rfl rfl (v := .int (nI 0)) rfl rfl (Nat.le_of_ble_eq_true rfl) dX8_octet_2 (fun zE1 zH1 zL1 zg1 zf1 zw1 => ?_)
  have zh1_0 : zE1 q = .inr (5, [.int (nI 0), .ref (ad (q + 1)), .long se, .ref (ad (q + 2)), .ref (ad (q + 3)), .int (nI co), .ref (ad (q + 4)), .int (nI pm), .ref (ad (q + 5)), .ref (ad (q + 6)), .ref (ad (q + 7)), .ref (ad (q + 8)), .int (nI em), .ref (ad (q + 9)), .ref (ad (q + 10)), .ref (ad (q + 11)), .ref (ad (q + 12))]) := zg1
  have zk1_0 : zE1 (q + 1) = eI G 508 s := (zf1 _ (by omega)).trans hE1
  have zk1_1 : zE1 (q + 2) = eI G 10 pt := (zf1 _ (by omega)).trans hE2
  have zk1_2 : zE1 (q + 3) = eI G 10 cg := (zf1 _ (by omega)).trans hE3
  have zk1_3 : zE1 (q + 4) = eI G 8128 pa := (zf1 _ (by omega)).trans hE4
  have zfr1 : ∀ j, j ≠ q → zE1 j = E j := fun j zm0 => zf1 j zm0
  refine lv_iload_n hx hb dX8_octet_5 rfl (lv_at hl 1 rfl) ?_
  refine lv_i2l (v := (nI v).toInt64) hx hb dX8_octet_6 rfl ?_
  refine lv_lconst (v := (nI 0).toInt64) hx hb dX8_octet_7 (by decide) ?_
  refine lv_ldc2 (v := 255) hx hb hown (hts (.constantLong RX8 75 (255)) (by decide +kernel)) dX8_octet_8 ?_
  refine r_asL (nI 255).toInt64 (by decide) ?_
  refine r_sI C zw1 hl.1 [.long ((nI v).toInt64), .long ((nI 0).toInt64), .long ((nI 255).toInt64)] 3 rfl (c_X8_in (l := l) (G := G) (tC := tC) (ad := ad) (N := N) (E := zE1) (x := (nI v)) (a := (nI 0)) (b := (nI 255))   ) gX8_octet_X8_in rfl ⟨rfl, rfl⟩ (by decide +kernel) ⟨Nat.le_of_ble_eq_true rfl, Nat.le_of_ble_eq_true rfl⟩ (rest := []) rfl (Nat.le_of_ble_eq_true rfl) dX8_octet_11 ⟨Nat.zero_le _, Nat.zero_le _⟩ (fun zr2 zE2 zH2 zL2 zp2 zw2 => ?_)
  obtain ⟨ze2, zq2⟩ := zp2
  rw [ze2] at zw2
  clear ze2
  rw [zq2]
  refine b_if_ne (tgt := 20) hx hb dX8_octet_14 (by decide) (fun zc14 => ?_) (fun zc14 => ?_)
  · refine lv_aload_n hx hb dX8_octet_20 rfl (lv_at hl 0 rfl) ?_
    refine r_get C zw2 RX8 TX8 17 5 hinX8 (i := q) (by omega) zh1_0 rfl 4 (by decide) (by decide +kernel) rfl (v := .ref (ad (q + 3))) rfl dX8_octet_21 ?_
    refine lv_aload_n hx hb dX8_octet_24 rfl (lv_at hl 0 rfl) ?_
    refine r_get C zw2 RX8 TX8 17 5 hinX8 (i := q) (by omega) zh1_0 rfl 5 (by decide) (by decide +kernel) rfl (v := .int (nI co)) rfl dX8_octet_25 ?_
    refine lv_iload_n hx hb dX8_octet_28 rfl (lv_at hl 1 rfl) ?_
    refine r_iasN C zw2 (i := (q + 3)) (by omega) zk1_2 (j := co) (by omega) (by omega) dX8_octet_29 (fun zE3 zH3 zL3 zg3 zf3 zw3 => ?_)
    have zh3_0 : zE3 (q + 3) = eI G 10 (upd cg co (nI v)) := zg3
    have zk3_0 : zE3 (q + 1) = eI G 508 s := (zf3 _ (by omega)).trans zk1_0
    have zk3_1 : zE3 (q + 2) = eI G 10 pt := (zf3 _ (by omega)).trans zk1_1
    have zk3_2 : zE3 (q + 4) = eI G 8128 pa := (zf3 _ (by omega)).trans zk1_3
    have zk3_3 : zE3 q = .inr (5, [.int (nI 0), .ref (ad (q + 1)), .long se, .ref (ad (q + 2)), .ref (ad (q + 3)), .int (nI co), .ref (ad (q + 4)), .int (nI pm), .ref (ad (q + 5)), .ref (ad (q + 6)), .ref (ad (q + 7)), .ref (ad (q + 8)), .int (nI em), .ref (ad (q + 9)), .ref (ad (q + 10)), .ref (ad (q + 11)), .ref (ad (q + 12))]) := (zf3 _ (by omega)).trans zh1_0
    have zfr3 : ∀ j, j ≠ q → j ≠ (q + 3) → zE3 j = E j := fun j zm0 zm1 => (zf3 j zm1).trans (zfr1 j zm0)
    refine lv_aload_n hx hb dX8_octet_30 rfl (lv_at hl 0 rfl) ?_
    refine lv_dup hx hb dX8_octet_31 rfl ?_
    refine r_get C zw3 RX8 TX8 17 5 hinX8 (i := q) (by omega) zk3_3 rfl 5 (by decide) (by decide +kernel) rfl (v := .int (nI co)) rfl dX8_octet_32 ?_
    refine lv_iconst (v := nI 1) hx hb dX8_octet_35 rfl ?_
    refine lv_iadd hx hb dX8_octet_36 ?_
    refine r_nat (co + 1) (nI_add _ _) ?_
    refine r_put C zw3 RX8 TX8 17 5 hinX8 tyX8 tyX8_ok nmX8 (i := q) (by omega) zk3_3 rfl 5 (by decide) (by decide +kernel) rfl rfl (v := .int (nI (co + 1))) rfl rfl (Nat.le_of_ble_eq_true rfl) dX8_octet_37 (fun zE4 zH4 zL4 zg4 zf4 zw4 => ?_)
    have zh4_0 : zE4 q = .inr (5, [.int (nI 0), .ref (ad (q + 1)), .long se, .ref (ad (q + 2)), .ref (ad (q + 3)), .int (nI (co + 1)), .ref (ad (q + 4)), .int (nI pm), .ref (ad (q + 5)), .ref (ad (q + 6)), .ref (ad (q + 7)), .ref (ad (q + 8)), .int (nI em), .ref (ad (q + 9)), .ref (ad (q + 10)), .ref (ad (q + 11)), .ref (ad (q + 12))]) := zg4
    have zk4_0 : zE4 (q + 1) = eI G 508 s := (zf4 _ (by omega)).trans zk3_0
    have zk4_1 : zE4 (q + 2) = eI G 10 pt := (zf4 _ (by omega)).trans zk3_1
    have zk4_2 : zE4 (q + 4) = eI G 8128 pa := (zf4 _ (by omega)).trans zk3_2
    have zk4_3 : zE4 (q + 3) = eI G 10 (upd cg co (nI v)) := (zf4 _ (by omega)).trans zh3_0
    have zfr4 : ∀ j, j ≠ q → j ≠ (q + 3) → zE4 j = E j := fun j zm0 zm1 => (zf4 j zm0).trans (zfr3 j zm0 zm1)
    refine lv_aload_n hx hb dX8_octet_40 rfl (lv_at hl 0 rfl) ?_
    refine r_get C zw4 RX8 TX8 17 5 hinX8 (i := q) (by omega) zh4_0 rfl 5 (by decide) (by decide +kernel) rfl (v := .int (nI (co + 1))) rfl dX8_octet_41 ?_
    refine lv_bipush (v := nI 10) hx hb dX8_octet_44 rfl ?_
    refine n_icmp_ne (tgt := 85) hx hb dX8_octet_46 (by decide) (by omega) (by omega) (fun zc46 => ?_) (fun zc46 => ?_)
    · exact absurd zc46 (by omega)
    · refine lv_aload_n hx hb dX8_octet_49 rfl (lv_at hl 0 rfl) ?_
      refine lv_iconst (v := nI 0) hx hb dX8_octet_50 rfl ?_
      refine r_put C zw4 RX8 TX8 17 5 hinX8 tyX8 tyX8_ok nmX8 (i := q) (by omega) zh4_0 rfl 5 (by decide) (by decide +kernel) rfl rfl (v := .int (nI 0)) rfl rfl (Nat.le_of_ble_eq_true rfl) dX8_octet_51 (fun zE5 zH5 zL5 zg5 zf5 zw5 => ?_)
      have zh5_0 : zE5 q = .inr (5, [.int (nI 0), .ref (ad (q + 1)), .long se, .ref (ad (q + 2)), .ref (ad (q + 3)), .int (nI 0), .ref (ad (q + 4)), .int (nI pm), .ref (ad (q + 5)), .ref (ad (q + 6)), .ref (ad (q + 7)), .ref (ad (q + 8)), .int (nI em), .ref (ad (q + 9)), .ref (ad (q + 10)), .ref (ad (q + 11)), .ref (ad (q + 12))]) := zg5
      have zk5_0 : zE5 (q + 1) = eI G 508 s := (zf5 _ (by omega)).trans zk4_0
      have zk5_1 : zE5 (q + 2) = eI G 10 pt := (zf5 _ (by omega)).trans zk4_1
      have zk5_2 : zE5 (q + 4) = eI G 8128 pa := (zf5 _ (by omega)).trans zk4_2
      have zk5_3 : zE5 (q + 3) = eI G 10 (upd cg co (nI v)) := (zf5 _ (by omega)).trans zk4_3
      have zfr5 : ∀ j, j ≠ q → j ≠ (q + 3) → zE5 j = E j := fun j zm0 zm1 => (zf5 j zm0).trans (zfr4 j zm0 zm1)
      refine lv_iconst (v := nI 0) hx hb dX8_octet_54 rfl ?_
      refine lv_istore_n (lv' := [(2, .int (nI 0)), (0, .ref (ad q)), (1, .int (nI v))]) hx hb dX8_octet_55 rfl hl (by decide) rfl (fun ls hl => ?_)
      have zlp56 : ∀ (zn : Nat) (i : Nat) (g : Nat → Int32), 10 - i < zn → (i ≤ 10) → (g = va_cpy (upd cg 9 (nI v)) pt 0 0 i) → ∀ (E9 : Nat → va_E) (H9 : Heap) (L9 : List Loc), E9 (q + 1) = eI G 508 s → E9 (q + 2) = eI G 10 g → E9 (q + 4) = eI G 8128 pa → E9 (q + 3) = eI G 10 (upd cg co (nI v)) → E9 q = .inr (5, [.int (nI 0), .ref (ad (q + 1)), .long se, .ref (ad (q + 2)), .ref (ad (q + 3)), .int (nI 0), .ref (ad (q + 4)), .int (nI pm), .ref (ad (q + 5)), .ref (ad (q + 6)), .ref (ad (q + 7)), .ref (ad (q + 8)), .int (nI em), .ref (ad (q + 9)), .ref (ad (q + 10)), .ref (ad (q + 11)), .ref (ad (q + 12))]) → (∀ j, j ≠ q → j ≠ (q + 3) → j ≠ (q + 2) → E9 j = E j) → Wd G A ss_.heap H9 L9 ad E9 N → ∀ (ls : Array Slot), lv_has ls 3 [(0, .ref (ad q)), (2, .int (nI i))] → W pp_ l ee_ ({ frames := 8, cells := 0, slots := 0, locals := 181 } : Room) ss_ mm_ aa_ bb_ me_ cc_ H9 L9 0 0 (QI bb_ aa_ ss_ G ad N A (fun r E2 => ∃ pt2 : Nat → Int32, E2 q = .inr (5, [.int (nI 0), .ref (ad (q + 1)), .long se, .ref (ad (q + 2)), .ref (ad (q + 3)), .int (nI 0), .ref (ad (q + 4)), .int (nI (ntK pm + 1)), .ref (ad (q + 5)), .ref (ad (q + 6)), .ref (ad (q + 7)), .ref (ad (q + 8)), .int (nI em), .ref (ad (q + 9)), .ref (ad (q + 10)), .ref (ad (q + 11)), .ref (ad (q + 12))]) ∧ E2 (q + 1) = eI G 508 (cmF s pg (ckV ck v)) ∧ E2 (q + 2) = eI G 10 pt2 ∧ E2 (q + 3) = eI G 10 (upd cg 9 (nI v)) ∧ E2 (q + 4) = eI G 8128 (ntF pa pm s) ∧ (∀ j, j ≠ q → j ≠ (q + 1) → j ≠ (q + 2) → j ≠ (q + 3) → j ≠ (q + 4) → E2 j = E j) ∧ r = nI 0)) (F0 mm_ 56 ls []) := by
        intro zn
        induction zn with
        | zero => intro i g zhm; exact absurd zhm (Nat.not_lt_zero _)
        | succ zn zih56 =>
          intro i g zhm56 hi hg zE_56 zH_56 zL_56 zl56_0 zl56_1 zl56_2 zl56_3 zl56_4 zlf56  zlw56 ls hl
          refine lv_iload_n hx hb dX8_octet_56 rfl (lv_at hl 1 rfl) ?_
          refine lv_bipush (v := nI 10) hx hb dX8_octet_57 rfl ?_
          refine n_icmp_ge (tgt := 80) hx hb dX8_octet_59 (by decide) (by omega) (by omega) (fun zc59 => ?_) (fun zc59 => ?_)
          · refine lv_aload_n hx hb dX8_octet_80 rfl (lv_at hl 0 rfl) ?_
            refine r_vI C zlw56 hl.1 (i := q) (by omega) zl56_4 (T := TX8) (n := 17) rfl [] 0 rfl (c_X8_comes (l := l) (G := G) (tC := tC) (ad := ad) (N := N) (E := zE_56) (q := q) (co := 0) (pm := pm) (em := em) (th := nI 0) (se := se) (pg := pg) (s := s) (pt := g) (pk := ckV ck v) (pa := pa) (by omega) zl56_4 zl56_0 zl56_1 zl56_2 (by rw [hpg0]; exact hok.1) (by rw [hpg0]; exact hok.2.1) (ck_ok (by omega) hck (by rw [hg, show i = 10 by omega]; exact cpy_idem _ _ _)) (by rw [hpg0]; exact hok.2.2) (by first | assumption | omega)) gX8_octet_X8_comes rfl ⟨rfl, rfl⟩ (by decide +kernel) ⟨Nat.le_of_ble_eq_true rfl, Nat.le_of_ble_eq_true rfl⟩ (rest := []) rfl (Nat.le_of_ble_eq_true rfl) dX8_octet_81 ⟨Nat.zero_le _, Nat.zero_le _⟩ (fun zr6 zE6 zH6 zL6 zp6 zw6 => ?_)
            obtain ⟨zg6_0, zg6_1, zg6_2, zf6, zq6⟩ := zp6
            have zh6_0 : zE6 q = .inr (5, [.int (nI 0), .ref (ad (q + 1)), .long se, .ref (ad (q + 2)), .ref (ad (q + 3)), .int (nI 0), .ref (ad (q + 4)), .int (nI (ntK pm + 1)), .ref (ad (q + 5)), .ref (ad (q + 6)), .ref (ad (q + 7)), .ref (ad (q + 8)), .int (nI em), .ref (ad (q + 9)), .ref (ad (q + 10)), .ref (ad (q + 11)), .ref (ad (q + 12))]) := zg6_0
            have zh6_1 : zE6 (q + 1) = eI G 508 (cmF s pg (ckV ck v)) := zg6_1
            have zh6_2 : zE6 (q + 4) = eI G 8128 (ntF pa pm s) := zg6_2
            have zk6_0 : zE6 (q + 2) = eI G 10 g := (zf6 _ (by omega) (by omega) (by omega)).trans zl56_1
            have zk6_1 : zE6 (q + 3) = eI G 10 (upd cg co (nI v)) := (zf6 _ (by omega) (by omega) (by omega)).trans zl56_3
            have zfr6 : ∀ j, j ≠ q → j ≠ (q + 3) → j ≠ (q + 2) → j ≠ (q + 1) → j ≠ (q + 4) → zE6 j = E j := fun j zm0 zm1 zm2 zm3 zm4 => (zf6 j zm0 zm3 zm4).trans (zlf56 j zm0 zm1 zm2)
            rw [zq6]
            refine lv_pop hx hb dX8_octet_84 rfl ?_
            refine lv_aload_n hx hb dX8_octet_85 rfl (lv_at hl 0 rfl) ?_
            refine r_get C zw6 RX8 TX8 17 5 hinX8 (i := q) (by omega) zh6_0 rfl 5 (by decide) (by decide +kernel) rfl (v := .int (nI 0)) rfl dX8_octet_86 ?_
            exact r_iret C zw6 dX8_octet_89 ⟨g, zh6_0, zh6_1, zk6_0, (zk6_1.trans (by rw [hco])), zh6_2, (fun j zm0 zm1 zm2 zm3 zm4 => zfr6 j zm0 zm3 zm2 zm1 zm4), (by rfl)⟩
          · refine lv_aload_n hx hb dX8_octet_62 rfl (lv_at hl 0 rfl) ?_
            refine r_get C zlw56 RX8 TX8 17 5 hinX8 (i := q) (by omega) zl56_4 rfl 3 (by decide) (by decide +kernel) rfl (v := .ref (ad (q + 2))) rfl dX8_octet_63 ?_
            refine lv_iload_n hx hb dX8_octet_66 rfl (lv_at hl 1 rfl) ?_
            refine lv_aload_n hx hb dX8_octet_67 rfl (lv_at hl 0 rfl) ?_
            refine r_get C zlw56 RX8 TX8 17 5 hinX8 (i := q) (by omega) zl56_4 rfl 4 (by decide) (by decide +kernel) rfl (v := .ref (ad (q + 3))) rfl dX8_octet_68 ?_
            refine lv_iload_n hx hb dX8_octet_71 rfl (lv_at hl 1 rfl) ?_
            refine r_iaN C zlw56 (i := (q + 3)) (by omega) zl56_3 (j := i) (by omega) (by omega) dX8_octet_72 ?_
            refine r_iasN C zlw56 (i := (q + 2)) (by omega) zl56_1 (j := i) (by omega) (by omega) dX8_octet_73 (fun zE7 zH7 zL7 zg7 zf7 zw7 => ?_)
            have zh7_0 : zE7 (q + 2) = eI G 10 (upd g i ((upd cg co (nI v)) i)) := zg7
            have zk7_0 : zE7 (q + 1) = eI G 508 s := (zf7 _ (by omega)).trans zl56_0
            have zk7_1 : zE7 (q + 4) = eI G 8128 pa := (zf7 _ (by omega)).trans zl56_2
            have zk7_2 : zE7 (q + 3) = eI G 10 (upd cg co (nI v)) := (zf7 _ (by omega)).trans zl56_3
            have zk7_3 : zE7 q = .inr (5, [.int (nI 0), .ref (ad (q + 1)), .long se, .ref (ad (q + 2)), .ref (ad (q + 3)), .int (nI 0), .ref (ad (q + 4)), .int (nI pm), .ref (ad (q + 5)), .ref (ad (q + 6)), .ref (ad (q + 7)), .ref (ad (q + 8)), .int (nI em), .ref (ad (q + 9)), .ref (ad (q + 10)), .ref (ad (q + 11)), .ref (ad (q + 12))]) := (zf7 _ (by omega)).trans zl56_4
            have zfr7 : ∀ j, j ≠ q → j ≠ (q + 3) → j ≠ (q + 2) → zE7 j = E j := fun j zm0 zm1 zm2 => (zf7 j zm2).trans (zlf56 j zm0 zm1 zm2)
            refine lv_iinc (v := nI (i + 1)) (lv' := [(2, .int (nI (i + 1))), (0, .ref (ad q))]) hx hb dX8_octet_74 hl (k := 1) rfl (by rw [show Int32.ofInt 1 = nI 1 from rfl, nI_add]) (by decide) rfl (fun ls hl => ?_)
            refine lv_goto (tgt := 56) hx hb dX8_octet_77 (by decide) ?_
            exact zih56 (i + 1) (upd g i ((upd cg co (nI v)) i)) (by omega) (by omega) (by rw [hg, hco]; have zc9 := cpy_s (upd cg 9 (nI v)) pt 0 0 i; rw [Nat.zero_add] at zc9; exact zc9) _ _ _ zk7_0 zh7_0 zk7_1 zk7_2 zk7_3 (fun j zm0 zm1 zm2 => zfr7 j zm0 zm1 zm2) zw7 _ (lv_sub hl [1, 0] rfl)
      exact zlp56 _ 0 pt (Nat.lt_succ_self _) (by omega) (by exact (cpy_0 _ _ _ _).symm) _ _ _ zk5_0 zk5_1 zk5_2 zk5_3 zh5_0 (fun j zm0 zm1 zm2 => zfr5 j zm0 zm1) zw5 _ (lv_sub hl [1, 0] rfl)
  · exact absurd (in_nI (by omega) (by omega)) zc14

set_option maxHeartbeats 4000000 in
set_option maxRecDepth 100000 in
theorem c_X8_weight_y {l : Launch} {G : vG} {tC : Nat} {ad : Nat → Nat} {N : Nat} {E : Nat → va_E} {q co pm em : Nat} {th : Int32} {se : Int64} {pg : Nat} {s : Nat → Int32} {k v : Nat} {pa : Nat → Int32} (hN0 : q + 13 ≤ N) (hE0 : E q = .inr (5, [.int th, .ref (ad (q + 1)), .long se, .ref (ad (q + 2)), .ref (ad (q + 3)), .int (nI co), .ref (ad (q + 4)), .int (nI pm), .ref (ad (q + 5)), .ref (ad (q + 6)), .ref (ad (q + 7)), .ref (ad (q + 8)), .int (nI em), .ref (ad (q + 9)), .ref (ad (q + 10)), .ref (ad (q + 11)), .ref (ad (q + 12))])) (hE1 : E (q + 1) = eI G 508 s) (hE2 : E (q + 4) = eI G 8128 pa) (hs0 : s 0 = nI pg) (hpg : pg ≤ 10) (hk : k < pg) (hv1 : 1 ≤ v) (hv : v ≤ 9) (hpm : pm ≤ 16) : MI l yX8_weight wsX8_weight ({ frames := 2, cells := 0, slots := 0, locals := 46 } : Room) G tC ad N E [.ref (ad q), .int (nI k), .int (nI v)] (fun r E2 => E2 q = .inr (5, [.int (nI 0), .ref (ad (q + 1)), .long se, .ref (ad (q + 2)), .ref (ad (q + 3)), .int (nI co), .ref (ad (q + 4)), .int (nI (ntK pm + 1)), .ref (ad (q + 5)), .ref (ad (q + 6)), .ref (ad (q + 7)), .ref (ad (q + 8)), .int (nI em), .ref (ad (q + 9)), .ref (ad (q + 10)), .ref (ad (q + 11)), .ref (ad (q + 12))]) ∧ E2 (q + 1) = eI G 508 (upd s (8 + 50 * k + 4) (nI v)) ∧ E2 (q + 4) = eI G 8128 (ntF pa pm s) ∧ (∀ j, j ≠ q → j ≠ (q + 1) → j ≠ (q + 4) → E2 j = E j) ∧ r = s (8 + 50 * k + 4)) := by
  refine MI_of RX8 rfl (by decide) rfl (Nat.le_of_ble_eq_true rfl) ?_
  intro pp_ ee_ ss_ mm_ aa_ bb_ me_ cc_ A ls C hw hl
  have hx := C.1
  have hb := C.2.1
  have hown := C.2.2.2.2.1
  have hts := C.2.2.2.2.2.1
  have hl : lv_has ls 4 [(0, .ref (ad q)), (1, .int (nI k)), (2, .int (nI v))] := hl
  have hinX8 : ∀ w ∈ u_ws RX8 TX8 17, w ∈ wsX8_weight := by decide +kernel
  refine lv_aload_n hx hb dX8_weight_0 rfl (lv_at hl 0 rfl) ?_
  refine lv_iconst (v := nI 0) hx hb dX8_weight_1 rfl ?_
  refine r_put C hw RX8 TX8 17 5 hinX8 tyX8 tyX8_ok nmX8 (i := q) (by omega) hE0 rfl 0 (by decide) (by decide +kernel) rfl rfl (v := .int (nI 0)) rfl rfl (Nat.le_of_ble_eq_true rfl) dX8_weight_2 (fun zE1 zH1 zL1 zg1 zf1 zw1 => ?_)
  have zh1_0 : zE1 q = .inr (5, [.int (nI 0), .ref (ad (q + 1)), .long se, .ref (ad (q + 2)), .ref (ad (q + 3)), .int (nI co), .ref (ad (q + 4)), .int (nI pm), .ref (ad (q + 5)), .ref (ad (q + 6)), .ref (ad (q + 7)), .ref (ad (q + 8)), .int (nI em), .ref (ad (q + 9)), .ref (ad (q + 10)), .ref (ad (q + 11)), .ref (ad (q + 12))]) := zg1
  have zk1_0 : zE1 (q + 1) = eI G 508 s := (zf1 _ (by omega)).trans hE1
  have zk1_1 : zE1 (q + 4) = eI G 8128 pa := (zf1 _ (by omega)).trans hE2
  have zfr1 : ∀ j, j ≠ q → zE1 j = E j := fun j zm0 => zf1 j zm0
  refine lv_aload_n hx hb dX8_weight_5 rfl (lv_at hl 0 rfl) ?_
  refine lv_iload_n hx hb dX8_weight_6 rfl (lv_at hl 1 rfl) ?_
  refine r_vI C zw1 hl.1 (i := q) (by omega) zh1_0 (T := TX8) (n := 17) rfl [.int (nI k)] 1 rfl (c_X8_isPage (l := l) (G := G) (tC := tC) (ad := ad) (N := N) (E := zE1) (q := q) (co := co) (pm := pm) (em := em) (th := nI 0) (se := se) (pg := pg) (s := s) (k := nI k) (by omega) zh1_0 zk1_0 (by first | assumption | omega) (by first | assumption | omega)) gX8_weight_X8_isPage rfl ⟨rfl, rfl⟩ (by decide +kernel) ⟨Nat.le_of_ble_eq_true rfl, Nat.le_of_ble_eq_true rfl⟩ (rest := []) rfl (Nat.le_of_ble_eq_true rfl) dX8_weight_7 ⟨Nat.zero_le _, Nat.zero_le _⟩ (fun zr2 zE2 zH2 zL2 zp2 zw2 => ?_)
  obtain ⟨ze2, zq2⟩ := zp2
  rw [ze2] at zw2
  clear ze2
  rw [zq2]
  refine b_if_ne (tgt := 16) hx hb dX8_weight_10 (by decide) (fun zc10 => ?_) (fun zc10 => ?_)
  · refine lv_iload_n hx hb dX8_weight_16 rfl (lv_at hl 2 rfl) ?_
    refine lv_i2l (v := (nI v).toInt64) hx hb dX8_weight_17 rfl ?_
    refine lv_lconst (v := (nI 1).toInt64) hx hb dX8_weight_18 (by decide) ?_
    refine lv_ldc2 (v := 9) hx hb hown (hts (.constantLong RX8 100 (9)) (by decide +kernel)) dX8_weight_19 ?_
    refine r_asL (nI 9).toInt64 (by decide) ?_
    refine r_sI C zw2 hl.1 [.long ((nI v).toInt64), .long ((nI 1).toInt64), .long ((nI 9).toInt64)] 3 rfl (c_X8_in (l := l) (G := G) (tC := tC) (ad := ad) (N := N) (E := zE1) (x := (nI v)) (a := (nI 1)) (b := (nI 9))   ) gX8_weight_X8_in rfl ⟨rfl, rfl⟩ (by decide +kernel) ⟨Nat.le_of_ble_eq_true rfl, Nat.le_of_ble_eq_true rfl⟩ (rest := []) rfl (Nat.le_of_ble_eq_true rfl) dX8_weight_22 ⟨Nat.zero_le _, Nat.zero_le _⟩ (fun zr3 zE3 zH3 zL3 zp3 zw3 => ?_)
    obtain ⟨ze3, zq3⟩ := zp3
    rw [ze3] at zw3
    clear ze3
    rw [zq3]
    refine b_if_ne (tgt := 31) hx hb dX8_weight_25 (by decide) (fun zc25 => ?_) (fun zc25 => ?_)
    · refine lv_aload_n hx hb dX8_weight_31 rfl (lv_at hl 0 rfl) ?_
      refine r_vV C zw3 hl.1 (i := q) (by omega) zh1_0 (T := TX8) (n := 17) rfl [] 0 rfl (c_X8_notes (l := l) (G := G) (tC := tC) (ad := ad) (N := N) (E := zE1) (q := q) (co := co) (pm := pm) (em := em) (th := nI 0) (se := se) (s := s) (pa := pa) (by omega) zh1_0 zk1_0 zk1_1 (by first | assumption | omega)) gX8_weight_X8_notes rfl ⟨rfl, rfl⟩ (by decide +kernel) ⟨Nat.le_of_ble_eq_true rfl, Nat.le_of_ble_eq_true rfl⟩ (rest := []) rfl (Nat.le_of_ble_eq_true rfl) dX8_weight_32 ⟨Nat.zero_le _, Nat.zero_le _⟩ (fun zE4 zH4 zL4 zp4 zw4 => ?_)
      obtain ⟨zg4_0, zg4_1, zf4⟩ := zp4
      have zh4_0 : zE4 q = .inr (5, [.int (nI 0), .ref (ad (q + 1)), .long se, .ref (ad (q + 2)), .ref (ad (q + 3)), .int (nI co), .ref (ad (q + 4)), .int (nI (ntK pm + 1)), .ref (ad (q + 5)), .ref (ad (q + 6)), .ref (ad (q + 7)), .ref (ad (q + 8)), .int (nI em), .ref (ad (q + 9)), .ref (ad (q + 10)), .ref (ad (q + 11)), .ref (ad (q + 12))]) := zg4_0
      have zh4_1 : zE4 (q + 4) = eI G 8128 (ntF pa pm s) := zg4_1
      have zk4_0 : zE4 (q + 1) = eI G 508 s := (zf4 _ (by omega) (by omega)).trans zk1_0
      have zfr4 : ∀ j, j ≠ q → j ≠ (q + 4) → zE4 j = E j := fun j zm0 zm1 => (zf4 j zm0 zm1).trans (zfr1 j zm0)
      refine lv_aload_n hx hb dX8_weight_35 rfl (lv_at hl 0 rfl) ?_
      refine lv_iload_n hx hb dX8_weight_36 rfl (lv_at hl 1 rfl) ?_
      refine lv_iconst (v := nI 4) hx hb dX8_weight_37 rfl ?_
      refine r_vI C zw4 hl.1 (i := q) (by omega) zh4_0 (T := TX8) (n := 17) rfl [.int (nI k), .int (nI 4)] 2 rfl (c_X8_of (l := l) (G := G) (tC := tC) (ad := ad) (N := N) (E := zE4) (q := q) (co := co) (pm := ntK pm + 1) (em := em) (th := nI 0) (se := se) (s := s) (k := k) (w := 4) (by omega) zh4_0 zk4_0 (by first | assumption | omega)) gX8_weight_X8_of rfl ⟨rfl, rfl⟩ (by decide +kernel) ⟨Nat.le_of_ble_eq_true rfl, Nat.le_of_ble_eq_true rfl⟩ (rest := []) rfl (Nat.le_of_ble_eq_true rfl) dX8_weight_38 ⟨Nat.zero_le _, Nat.zero_le _⟩ (fun zr5 zE5 zH5 zL5 zp5 zw5 => ?_)
      obtain ⟨ze5, zq5⟩ := zp5
      rw [ze5] at zw5
      clear ze5
      rw [zq5]
      refine lv_istore_n (lv' := [(3, .int (s (8 + 50 * k + 4))), (0, .ref (ad q)), (1, .int (nI k)), (2, .int (nI v))]) hx hb dX8_weight_41 rfl hl (by decide) rfl (fun ls hl => ?_)
      refine lv_aload_n hx hb dX8_weight_42 rfl (lv_at hl 1 rfl) ?_
      refine r_get C zw5 RX8 TX8 17 5 hinX8 (i := q) (by omega) zh4_0 rfl 1 (by decide) (by decide +kernel) rfl (v := .ref (ad (q + 1))) rfl dX8_weight_43 ?_
      refine lv_iload_n hx hb dX8_weight_46 rfl (lv_at hl 2 rfl) ?_
      refine r_sI C zw5 hl.1 [.int (nI k)] 1 rfl (c_X8_at (l := l) (G := G) (tC := tC) (ad := ad) (N := N) (E := zE4) (k := k)   ) gX8_weight_X8_at rfl ⟨rfl, rfl⟩ (by decide +kernel) ⟨Nat.le_of_ble_eq_true rfl, Nat.le_of_ble_eq_true rfl⟩ (rest := [.ref (ad (q + 1))]) rfl (Nat.le_of_ble_eq_true rfl) dX8_weight_47 ⟨Nat.zero_le _, Nat.zero_le _⟩ (fun zr6 zE6 zH6 zL6 zp6 zw6 => ?_)
      obtain ⟨ze6, zq6⟩ := zp6
      rw [ze6] at zw6
      clear ze6
      rw [zq6]
      refine lv_iconst (v := nI 4) hx hb dX8_weight_50 rfl ?_
      refine lv_iadd hx hb dX8_weight_51 ?_
      refine r_nat (8 + 50 * k + 4) (nI_add _ _) ?_
      refine lv_iload_n hx hb dX8_weight_52 rfl (lv_at hl 3 rfl) ?_
      refine r_iasN C zw6 (i := (q + 1)) (by omega) zk4_0 (j := 8 + 50 * k + 4) (by omega) (by omega) dX8_weight_53 (fun zE7 zH7 zL7 zg7 zf7 zw7 => ?_)
      have zh7_0 : zE7 (q + 1) = eI G 508 (upd s (8 + 50 * k + 4) (nI v)) := zg7
      have zk7_0 : zE7 q = .inr (5, [.int (nI 0), .ref (ad (q + 1)), .long se, .ref (ad (q + 2)), .ref (ad (q + 3)), .int (nI co), .ref (ad (q + 4)), .int (nI (ntK pm + 1)), .ref (ad (q + 5)), .ref (ad (q + 6)), .ref (ad (q + 7)), .ref (ad (q + 8)), .int (nI em), .ref (ad (q + 9)), .ref (ad (q + 10)), .ref (ad (q + 11)), .ref (ad (q + 12))]) := (zf7 _ (by omega)).trans zh4_0
      have zk7_1 : zE7 (q + 4) = eI G 8128 (ntF pa pm s) := (zf7 _ (by omega)).trans zh4_1
      have zfr7 : ∀ j, j ≠ q → j ≠ (q + 4) → j ≠ (q + 1) → zE7 j = E j := fun j zm0 zm1 zm2 => (zf7 j zm2).trans (zfr4 j zm0 zm1)
      refine lv_iload_n hx hb dX8_weight_54 rfl (lv_at hl 0 rfl) ?_
      exact r_iret C zw7 dX8_weight_55 ⟨zk7_0, zh7_0, zk7_1, (fun j zm0 zm1 zm2 => zfr7 j zm0 zm2 zm1), (by rfl)⟩
    · exact absurd ⟨nI_le hv1 (by omega), nI_le hv (by omega)⟩ zc25
  · exact absurd (has_nI hk (by omega)) zc10

set_option maxHeartbeats 4000000 in
set_option maxRecDepth 100000 in
theorem c_X8_weight_n {l : Launch} {G : vG} {tC : Nat} {ad : Nat → Nat} {N : Nat} {E : Nat → va_E} {q co pm em : Nat} {th : Int32} {se : Int64} {pg : Nat} {s : Nat → Int32} {k v : Int32} (hN0 : q + 13 ≤ N) (hE0 : E q = .inr (5, [.int th, .ref (ad (q + 1)), .long se, .ref (ad (q + 2)), .ref (ad (q + 3)), .int (nI co), .ref (ad (q + 4)), .int (nI pm), .ref (ad (q + 5)), .ref (ad (q + 6)), .ref (ad (q + 7)), .ref (ad (q + 8)), .int (nI em), .ref (ad (q + 9)), .ref (ad (q + 10)), .ref (ad (q + 11)), .ref (ad (q + 12))])) (hE1 : E (q + 1) = eI G 508 s) (hs0 : s 0 = nI pg) (hpg : pg ≤ 10) (hno : ¬ (hasP pg k ∧ (nI 1 ≤ v ∧ v ≤ nI 9))) : MI l yX8_weight wsX8_weight ({ frames := 2, cells := 0, slots := 0, locals := 46 } : Room) G tC ad N E [.ref (ad q), .int k, .int v] (fun r E2 => E2 q = .inr (5, [.int (nI 0), .ref (ad (q + 1)), .long se, .ref (ad (q + 2)), .ref (ad (q + 3)), .int (nI co), .ref (ad (q + 4)), .int (nI pm), .ref (ad (q + 5)), .ref (ad (q + 6)), .ref (ad (q + 7)), .ref (ad (q + 8)), .int (nI em), .ref (ad (q + 9)), .ref (ad (q + 10)), .ref (ad (q + 11)), .ref (ad (q + 12))]) ∧ (∀ j, j ≠ q → E2 j = E j) ∧ r = if hasP pg k then -1000000002 else -1000000001) := by
  refine MI_of RX8 rfl (by decide) rfl (Nat.le_of_ble_eq_true rfl) ?_
  intro pp_ ee_ ss_ mm_ aa_ bb_ me_ cc_ A ls C hw hl
  have hx := C.1
  have hb := C.2.1
  have hown := C.2.2.2.2.1
  have hts := C.2.2.2.2.2.1
  have hl : lv_has ls 4 [(0, .ref (ad q)), (1, .int k), (2, .int v)] := hl
  have hinX8 : ∀ w ∈ u_ws RX8 TX8 17, w ∈ wsX8_weight := by decide +kernel
  refine lv_aload_n hx hb dX8_weight_0 rfl (lv_at hl 0 rfl) ?_
  refine lv_iconst (v := nI 0) hx hb dX8_weight_1 rfl ?_
  refine r_put C hw RX8 TX8 17 5 hinX8 tyX8 tyX8_ok nmX8 (i := q) (by omega) hE0 rfl 0 (by decide) (by decide +kernel) rfl rfl (v := .int (nI 0)) rfl rfl (Nat.le_of_ble_eq_true rfl) dX8_weight_2 (fun zE1 zH1 zL1 zg1 zf1 zw1 => ?_)
  have zh1_0 : zE1 q = .inr (5, [.int (nI 0), .ref (ad (q + 1)), .long se, .ref (ad (q + 2)), .ref (ad (q + 3)), .int (nI co), .ref (ad (q + 4)), .int (nI pm), .ref (ad (q + 5)), .ref (ad (q + 6)), .ref (ad (q + 7)), .ref (ad (q + 8)), .int (nI em), .ref (ad (q + 9)), .ref (ad (q + 10)), .ref (ad (q + 11)), .ref (ad (q + 12))]) := zg1
  have zk1_0 : zE1 (q + 1) = eI G 508 s := (zf1 _ (by omega)).trans hE1
  have zfr1 : ∀ j, j ≠ q → zE1 j = E j := fun j zm0 => zf1 j zm0
  refine lv_aload_n hx hb dX8_weight_5 rfl (lv_at hl 0 rfl) ?_
  refine lv_iload_n hx hb dX8_weight_6 rfl (lv_at hl 1 rfl) ?_
  refine r_vI C zw1 hl.1 (i := q) (by omega) zh1_0 (T := TX8) (n := 17) rfl [.int k] 1 rfl (c_X8_isPage (l := l) (G := G) (tC := tC) (ad := ad) (N := N) (E := zE1) (q := q) (co := co) (pm := pm) (em := em) (th := nI 0) (se := se) (pg := pg) (s := s) (k := k) (by omega) zh1_0 zk1_0 (by first | assumption | omega) (by first | assumption | omega)) gX8_weight_X8_isPage rfl ⟨rfl, rfl⟩ (by decide +kernel) ⟨Nat.le_of_ble_eq_true rfl, Nat.le_of_ble_eq_true rfl⟩ (rest := []) rfl (Nat.le_of_ble_eq_true rfl) dX8_weight_7 ⟨Nat.zero_le _, Nat.zero_le _⟩ (fun zr2 zE2 zH2 zL2 zp2 zw2 => ?_)
  obtain ⟨ze2, zq2⟩ := zp2
  rw [ze2] at zw2
  clear ze2
  rw [zq2]
  refine b_if_ne (tgt := 16) hx hb dX8_weight_10 (by decide) (fun zc10 => ?_) (fun zc10 => ?_)
  · refine lv_iload_n hx hb dX8_weight_16 rfl (lv_at hl 2 rfl) ?_
    refine lv_i2l (v := v.toInt64) hx hb dX8_weight_17 rfl ?_
    refine lv_lconst (v := (nI 1).toInt64) hx hb dX8_weight_18 (by decide) ?_
    refine lv_ldc2 (v := 9) hx hb hown (hts (.constantLong RX8 100 (9)) (by decide +kernel)) dX8_weight_19 ?_
    refine r_asL (nI 9).toInt64 (by decide) ?_
    refine r_sI C zw2 hl.1 [.long v.toInt64, .long ((nI 1).toInt64), .long ((nI 9).toInt64)] 3 rfl (c_X8_in (l := l) (G := G) (tC := tC) (ad := ad) (N := N) (E := zE1) (x := v) (a := (nI 1)) (b := (nI 9))   ) gX8_weight_X8_in rfl ⟨rfl, rfl⟩ (by decide +kernel) ⟨Nat.le_of_ble_eq_true rfl, Nat.le_of_ble_eq_true rfl⟩ (rest := []) rfl (Nat.le_of_ble_eq_true rfl) dX8_weight_22 ⟨Nat.zero_le _, Nat.zero_le _⟩ (fun zr3 zE3 zH3 zL3 zp3 zw3 => ?_)
    obtain ⟨ze3, zq3⟩ := zp3
    rw [ze3] at zw3
    clear ze3
    rw [zq3]
    refine b_if_ne (tgt := 31) hx hb dX8_weight_25 (by decide) (fun zc25 => ?_) (fun zc25 => ?_)
    · exact absurd ⟨zc10, zc25⟩ hno
    · refine lv_ldc (v := -1000000002) hx hb hown (hts (.constant RX8 74 (-1000000002)) (by decide +kernel)) dX8_weight_28 ?_
      exact r_iret C zw3 dX8_weight_30 ⟨zh1_0, (fun j zm0 => zfr1 j zm0), (by rw [if_pos zc10])⟩
  · refine lv_ldc (v := -1000000001) hx hb hown (hts (.constant RX8 156 (-1000000001)) (by decide +kernel)) dX8_weight_13 ?_
    exact r_iret C zw2 dX8_weight_15 ⟨zh1_0, (fun j zm0 => zfr1 j zm0), (by rw [if_neg zc10])⟩

set_option maxHeartbeats 4000000 in
set_option maxRecDepth 100000 in
theorem c_X8_drop_y {l : Launch} {G : vG} {tC : Nat} {ad : Nat → Nat} {N : Nat} {E : Nat → va_E} {q co pm em : Nat} {th : Int32} {se : Int64} {pg : Nat} {s : Nat → Int32} {k : Nat} {pa : Nat → Int32} (hN0 : q + 13 ≤ N) (hE0 : E q = .inr (5, [.int th, .ref (ad (q + 1)), .long se, .ref (ad (q + 2)), .ref (ad (q + 3)), .int (nI co), .ref (ad (q + 4)), .int (nI pm), .ref (ad (q + 5)), .ref (ad (q + 6)), .ref (ad (q + 7)), .ref (ad (q + 8)), .int (nI em), .ref (ad (q + 9)), .ref (ad (q + 10)), .ref (ad (q + 11)), .ref (ad (q + 12))])) (hE1 : E (q + 1) = eI G 508 s) (hE2 : E (q + 4) = eI G 8128 pa) (hs0 : s 0 = nI pg) (hpg : pg ≤ 10) (hk : k < pg) (hpm : pm ≤ 16) : MI l yX8_drop wsX8_drop ({ frames := 2, cells := 0, slots := 0, locals := 46 } : Room) G tC ad N E [.ref (ad q), .int (nI k)] (fun r E2 => E2 q = .inr (5, [.int (nI 0), .ref (ad (q + 1)), .long se, .ref (ad (q + 2)), .ref (ad (q + 3)), .int (nI co), .ref (ad (q + 4)), .int (nI (ntK pm + 1)), .ref (ad (q + 5)), .ref (ad (q + 6)), .ref (ad (q + 7)), .ref (ad (q + 8)), .int (nI em), .ref (ad (q + 9)), .ref (ad (q + 10)), .ref (ad (q + 11)), .ref (ad (q + 12))]) ∧ E2 (q + 1) = eI G 508 (goesF s pg k) ∧ E2 (q + 4) = eI G 8128 (ntF pa pm s) ∧ (∀ j, j ≠ q → j ≠ (q + 1) → j ≠ (q + 4) → E2 j = E j) ∧ r = nI (pg - 1)) := by
  refine MI_of RX8 rfl (by decide) rfl (Nat.le_of_ble_eq_true rfl) ?_
  intro pp_ ee_ ss_ mm_ aa_ bb_ me_ cc_ A ls C hw hl
  have hx := C.1
  have hb := C.2.1
  have hown := C.2.2.2.2.1
  have hts := C.2.2.2.2.2.1
  have hl : lv_has ls 2 [(0, .ref (ad q)), (1, .int (nI k))] := hl
  have hinX8 : ∀ w ∈ u_ws RX8 TX8 17, w ∈ wsX8_drop := by decide +kernel
  refine lv_aload_n hx hb dX8_drop_0 rfl (lv_at hl 0 rfl) ?_
  refine lv_iconst (v := nI 0) hx hb dX8_drop_1 rfl ?_
  refine r_put C hw RX8 TX8 17 5 hinX8 tyX8 tyX8_ok nmX8 (i := q) (by omega) hE0 rfl 0 (by decide) (by decide +kernel) rfl rfl (v := .int (nI 0)) rfl rfl (Nat.le_of_ble_eq_true rfl) dX8_drop_2 (fun zE1 zH1 zL1 zg1 zf1 zw1 => ?_)
  have zh1_0 : zE1 q = .inr (5, [.int (nI 0), .ref (ad (q + 1)), .long se, .ref (ad (q + 2)), .ref (ad (q + 3)), .int (nI co), .ref (ad (q + 4)), .int (nI pm), .ref (ad (q + 5)), .ref (ad (q + 6)), .ref (ad (q + 7)), .ref (ad (q + 8)), .int (nI em), .ref (ad (q + 9)), .ref (ad (q + 10)), .ref (ad (q + 11)), .ref (ad (q + 12))]) := zg1
  have zk1_0 : zE1 (q + 1) = eI G 508 s := (zf1 _ (by omega)).trans hE1
  have zk1_1 : zE1 (q + 4) = eI G 8128 pa := (zf1 _ (by omega)).trans hE2
  have zfr1 : ∀ j, j ≠ q → zE1 j = E j := fun j zm0 => zf1 j zm0
  refine lv_aload_n hx hb dX8_drop_5 rfl (lv_at hl 0 rfl) ?_
  refine lv_iload_n hx hb dX8_drop_6 rfl (lv_at hl 1 rfl) ?_
  refine r_vI C zw1 hl.1 (i := q) (by omega) zh1_0 (T := TX8) (n := 17) rfl [.int (nI k)] 1 rfl (c_X8_isPage (l := l) (G := G) (tC := tC) (ad := ad) (N := N) (E := zE1) (q := q) (co := co) (pm := pm) (em := em) (th := nI 0) (se := se) (pg := pg) (s := s) (k := nI k) (by omega) zh1_0 zk1_0 (by first | assumption | omega) (by first | assumption | omega)) gX8_drop_X8_isPage rfl ⟨rfl, rfl⟩ (by decide +kernel) ⟨Nat.le_of_ble_eq_true rfl, Nat.le_of_ble_eq_true rfl⟩ (rest := []) rfl (Nat.le_of_ble_eq_true rfl) dX8_drop_7 ⟨Nat.zero_le _, Nat.zero_le _⟩ (fun zr2 zE2 zH2 zL2 zp2 zw2 => ?_)
  obtain ⟨ze2, zq2⟩ := zp2
  rw [ze2] at zw2
  clear ze2
  rw [zq2]
  refine b_if_ne (tgt := 16) hx hb dX8_drop_10 (by decide) (fun zc10 => ?_) (fun zc10 => ?_)
  · refine lv_aload_n hx hb dX8_drop_16 rfl (lv_at hl 0 rfl) ?_
    refine r_vV C zw2 hl.1 (i := q) (by omega) zh1_0 (T := TX8) (n := 17) rfl [] 0 rfl (c_X8_notes (l := l) (G := G) (tC := tC) (ad := ad) (N := N) (E := zE1) (q := q) (co := co) (pm := pm) (em := em) (th := nI 0) (se := se) (s := s) (pa := pa) (by omega) zh1_0 zk1_0 zk1_1 (by first | assumption | omega)) gX8_drop_X8_notes rfl ⟨rfl, rfl⟩ (by decide +kernel) ⟨Nat.le_of_ble_eq_true rfl, Nat.le_of_ble_eq_true rfl⟩ (rest := []) rfl (Nat.le_of_ble_eq_true rfl) dX8_drop_17 ⟨Nat.zero_le _, Nat.zero_le _⟩ (fun zE3 zH3 zL3 zp3 zw3 => ?_)
    obtain ⟨zg3_0, zg3_1, zf3⟩ := zp3
    have zh3_0 : zE3 q = .inr (5, [.int (nI 0), .ref (ad (q + 1)), .long se, .ref (ad (q + 2)), .ref (ad (q + 3)), .int (nI co), .ref (ad (q + 4)), .int (nI (ntK pm + 1)), .ref (ad (q + 5)), .ref (ad (q + 6)), .ref (ad (q + 7)), .ref (ad (q + 8)), .int (nI em), .ref (ad (q + 9)), .ref (ad (q + 10)), .ref (ad (q + 11)), .ref (ad (q + 12))]) := zg3_0
    have zh3_1 : zE3 (q + 4) = eI G 8128 (ntF pa pm s) := zg3_1
    have zk3_0 : zE3 (q + 1) = eI G 508 s := (zf3 _ (by omega) (by omega)).trans zk1_0
    have zfr3 : ∀ j, j ≠ q → j ≠ (q + 4) → zE3 j = E j := fun j zm0 zm1 => (zf3 j zm0 zm1).trans (zfr1 j zm0)
    refine lv_aload_n hx hb dX8_drop_20 rfl (lv_at hl 0 rfl) ?_
    refine lv_iload_n hx hb dX8_drop_21 rfl (lv_at hl 1 rfl) ?_
    refine r_vV C zw3 hl.1 (i := q) (by omega) zh3_0 (T := TX8) (n := 17) rfl [.int (nI k)] 1 rfl (c_X8_goes (l := l) (G := G) (tC := tC) (ad := ad) (N := N) (E := zE3) (q := q) (co := co) (pm := ntK pm + 1) (em := em) (th := nI 0) (se := se) (pg := pg) (s := s) (page := k) (by omega) zh3_0 zk3_0 (by first | assumption | omega) (by first | assumption | omega) (by first | assumption | omega)) gX8_drop_X8_goes rfl ⟨rfl, rfl⟩ (by decide +kernel) ⟨Nat.le_of_ble_eq_true rfl, Nat.le_of_ble_eq_true rfl⟩ (rest := []) rfl (Nat.le_of_ble_eq_true rfl) dX8_drop_22 ⟨Nat.zero_le _, Nat.zero_le _⟩ (fun zE4 zH4 zL4 zp4 zw4 => ?_)
    obtain ⟨zg4_0, zf4⟩ := zp4
    have zh4_0 : zE4 (q + 1) = eI G 508 (goesF s pg k) := zg4_0
    have zk4_0 : zE4 q = .inr (5, [.int (nI 0), .ref (ad (q + 1)), .long se, .ref (ad (q + 2)), .ref (ad (q + 3)), .int (nI co), .ref (ad (q + 4)), .int (nI (ntK pm + 1)), .ref (ad (q + 5)), .ref (ad (q + 6)), .ref (ad (q + 7)), .ref (ad (q + 8)), .int (nI em), .ref (ad (q + 9)), .ref (ad (q + 10)), .ref (ad (q + 11)), .ref (ad (q + 12))]) := (zf4 _ (by omega)).trans zh3_0
    have zk4_1 : zE4 (q + 4) = eI G 8128 (ntF pa pm s) := (zf4 _ (by omega)).trans zh3_1
    have zfr4 : ∀ j, j ≠ q → j ≠ (q + 4) → j ≠ (q + 1) → zE4 j = E j := fun j zm0 zm1 zm2 => (zf4 j zm2).trans (zfr3 j zm0 zm1)
    refine lv_aload_n hx hb dX8_drop_25 rfl (lv_at hl 0 rfl) ?_
    refine r_get C zw4 RX8 TX8 17 5 hinX8 (i := q) (by omega) zk4_0 rfl 1 (by decide) (by decide +kernel) rfl (v := .ref (ad (q + 1))) rfl dX8_drop_26 ?_
    refine lv_iconst (v := nI 0) hx hb dX8_drop_29 rfl ?_
    refine r_iaN C zw4 (i := (q + 1)) (by omega) zh4_0 (j := 0) (by omega) (by omega) dX8_drop_30 ?_
    exact r_iret C zw4 dX8_drop_31 ⟨zk4_0, zh4_0, zk4_1, (fun j zm0 zm1 zm2 => zfr4 j zm0 zm2 zm1), (by rw [goesF_0])⟩
  · exact absurd (has_nI hk (by omega)) zc10

set_option maxHeartbeats 4000000 in
set_option maxRecDepth 100000 in
theorem c_X8_drop_n {l : Launch} {G : vG} {tC : Nat} {ad : Nat → Nat} {N : Nat} {E : Nat → va_E} {q co pm em : Nat} {th : Int32} {se : Int64} {pg : Nat} {s : Nat → Int32} {k : Int32} (hN0 : q + 13 ≤ N) (hE0 : E q = .inr (5, [.int th, .ref (ad (q + 1)), .long se, .ref (ad (q + 2)), .ref (ad (q + 3)), .int (nI co), .ref (ad (q + 4)), .int (nI pm), .ref (ad (q + 5)), .ref (ad (q + 6)), .ref (ad (q + 7)), .ref (ad (q + 8)), .int (nI em), .ref (ad (q + 9)), .ref (ad (q + 10)), .ref (ad (q + 11)), .ref (ad (q + 12))])) (hE1 : E (q + 1) = eI G 508 s) (hs0 : s 0 = nI pg) (hpg : pg ≤ 10) (hno : ¬ hasP pg k) : MI l yX8_drop wsX8_drop ({ frames := 2, cells := 0, slots := 0, locals := 46 } : Room) G tC ad N E [.ref (ad q), .int k] (fun r E2 => E2 q = .inr (5, [.int (nI 0), .ref (ad (q + 1)), .long se, .ref (ad (q + 2)), .ref (ad (q + 3)), .int (nI co), .ref (ad (q + 4)), .int (nI pm), .ref (ad (q + 5)), .ref (ad (q + 6)), .ref (ad (q + 7)), .ref (ad (q + 8)), .int (nI em), .ref (ad (q + 9)), .ref (ad (q + 10)), .ref (ad (q + 11)), .ref (ad (q + 12))]) ∧ (∀ j, j ≠ q → E2 j = E j) ∧ r = -1000000001) := by
  refine MI_of RX8 rfl (by decide) rfl (Nat.le_of_ble_eq_true rfl) ?_
  intro pp_ ee_ ss_ mm_ aa_ bb_ me_ cc_ A ls C hw hl
  have hx := C.1
  have hb := C.2.1
  have hown := C.2.2.2.2.1
  have hts := C.2.2.2.2.2.1
  have hl : lv_has ls 2 [(0, .ref (ad q)), (1, .int k)] := hl
  have hinX8 : ∀ w ∈ u_ws RX8 TX8 17, w ∈ wsX8_drop := by decide +kernel
  refine lv_aload_n hx hb dX8_drop_0 rfl (lv_at hl 0 rfl) ?_
  refine lv_iconst (v := nI 0) hx hb dX8_drop_1 rfl ?_
  refine r_put C hw RX8 TX8 17 5 hinX8 tyX8 tyX8_ok nmX8 (i := q) (by omega) hE0 rfl 0 (by decide) (by decide +kernel) rfl rfl (v := .int (nI 0)) rfl rfl (Nat.le_of_ble_eq_true rfl) dX8_drop_2 (fun zE1 zH1 zL1 zg1 zf1 zw1 => ?_)
  have zh1_0 : zE1 q = .inr (5, [.int (nI 0), .ref (ad (q + 1)), .long se, .ref (ad (q + 2)), .ref (ad (q + 3)), .int (nI co), .ref (ad (q + 4)), .int (nI pm), .ref (ad (q + 5)), .ref (ad (q + 6)), .ref (ad (q + 7)), .ref (ad (q + 8)), .int (nI em), .ref (ad (q + 9)), .ref (ad (q + 10)), .ref (ad (q + 11)), .ref (ad (q + 12))]) := zg1
  have zk1_0 : zE1 (q + 1) = eI G 508 s := (zf1 _ (by omega)).trans hE1
  have zfr1 : ∀ j, j ≠ q → zE1 j = E j := fun j zm0 => zf1 j zm0
  refine lv_aload_n hx hb dX8_drop_5 rfl (lv_at hl 0 rfl) ?_
  refine lv_iload_n hx hb dX8_drop_6 rfl (lv_at hl 1 rfl) ?_
  refine r_vI C zw1 hl.1 (i := q) (by omega) zh1_0 (T := TX8) (n := 17) rfl [.int k] 1 rfl (c_X8_isPage (l := l) (G := G) (tC := tC) (ad := ad) (N := N) (E := zE1) (q := q) (co := co) (pm := pm) (em := em) (th := nI 0) (se := se) (pg := pg) (s := s) (k := k) (by omega) zh1_0 zk1_0 (by first | assumption | omega) (by first | assumption | omega)) gX8_drop_X8_isPage rfl ⟨rfl, rfl⟩ (by decide +kernel) ⟨Nat.le_of_ble_eq_true rfl, Nat.le_of_ble_eq_true rfl⟩ (rest := []) rfl (Nat.le_of_ble_eq_true rfl) dX8_drop_7 ⟨Nat.zero_le _, Nat.zero_le _⟩ (fun zr2 zE2 zH2 zL2 zp2 zw2 => ?_)
  obtain ⟨ze2, zq2⟩ := zp2
  rw [ze2] at zw2
  clear ze2
  rw [zq2]
  refine b_if_ne (tgt := 16) hx hb dX8_drop_10 (by decide) (fun zc10 => ?_) (fun zc10 => ?_)
  · exact absurd zc10 hno
  · refine lv_ldc (v := -1000000001) hx hb hown (hts (.constant RX8 156 (-1000000001)) (by decide +kernel)) dX8_drop_13 ?_
    exact r_iret C zw2 dX8_drop_15 ⟨zh1_0, (fun j zm0 => zfr1 j zm0), (by rfl)⟩

set_option maxHeartbeats 4000000 in
set_option maxRecDepth 100000 in
theorem c_X8_undo_y {l : Launch} {G : vG} {tC : Nat} {ad : Nat → Nat} {N : Nat} {E : Nat → va_E} {q co pm em : Nat} {th : Int32} {se : Int64} {n : Nat} {s pa : Nat → Int32} (hN0 : q + 13 ≤ N) (hE0 : E q = .inr (5, [.int th, .ref (ad (q + 1)), .long se, .ref (ad (q + 2)), .ref (ad (q + 3)), .int (nI co), .ref (ad (q + 4)), .int (nI pm), .ref (ad (q + 5)), .ref (ad (q + 6)), .ref (ad (q + 7)), .ref (ad (q + 8)), .int (nI em), .ref (ad (q + 9)), .ref (ad (q + 10)), .ref (ad (q + 11)), .ref (ad (q + 12))])) (hE1 : E (q + 1) = eI G 508 s) (hE2 : E (q + 4) = eI G 8128 pa) (hn1 : 1 ≤ n) (hn : n ≤ pm) (hpm : pm ≤ 16) : MI l yX8_undo wsX8_undo ({ frames := 1, cells := 0, slots := 0, locals := 25 } : Room) G tC ad N E [.ref (ad q), .int (nI n)] (fun r E2 => E2 q = .inr (5, [.int (nI 0), .ref (ad (q + 1)), .long se, .ref (ad (q + 2)), .ref (ad (q + 3)), .int (nI co), .ref (ad (q + 4)), .int (nI (pm - n)), .ref (ad (q + 5)), .ref (ad (q + 6)), .ref (ad (q + 7)), .ref (ad (q + 8)), .int (nI em), .ref (ad (q + 9)), .ref (ad (q + 10)), .ref (ad (q + 11)), .ref (ad (q + 12))]) ∧ E2 (q + 1) = eI G 508 (slc pa (pm - n)) ∧ (∀ j, j ≠ q → j ≠ (q + 1) → E2 j = E j) ∧ r = slc pa (pm - n) 1) := by
  refine MI_of RX8 rfl (by decide) rfl (Nat.le_of_ble_eq_true rfl) ?_
  intro pp_ ee_ ss_ mm_ aa_ bb_ me_ cc_ A ls C hw hl
  have hx := C.1
  have hb := C.2.1
  have hown := C.2.2.2.2.1
  have hts := C.2.2.2.2.2.1
  have hl : lv_has ls 3 [(0, .ref (ad q)), (1, .int (nI n))] := hl
  have hinX8 : ∀ w ∈ u_ws RX8 TX8 17, w ∈ wsX8_undo := by decide +kernel
  refine lv_aload_n hx hb dX8_undo_0 rfl (lv_at hl 0 rfl) ?_
  refine lv_iconst (v := nI 0) hx hb dX8_undo_1 rfl ?_
  refine r_put C hw RX8 TX8 17 5 hinX8 tyX8 tyX8_ok nmX8 (i := q) (by omega) hE0 rfl 0 (by decide) (by decide +kernel) rfl rfl (v := .int (nI 0)) rfl rfl (Nat.le_of_ble_eq_true rfl) dX8_undo_2 (fun zE1 zH1 zL1 zg1 zf1 zw1 => ?_)
  have zh1_0 : zE1 q = .inr (5, [.int (nI 0), .ref (ad (q + 1)), .long se, .ref (ad (q + 2)), .ref (ad (q + 3)), .int (nI co), .ref (ad (q + 4)), .int (nI pm), .ref (ad (q + 5)), .ref (ad (q + 6)), .ref (ad (q + 7)), .ref (ad (q + 8)), .int (nI em), .ref (ad (q + 9)), .ref (ad (q + 10)), .ref (ad (q + 11)), .ref (ad (q + 12))]) := zg1
  have zk1_0 : zE1 (q + 1) = eI G 508 s := (zf1 _ (by omega)).trans hE1
  have zk1_1 : zE1 (q + 4) = eI G 8128 pa := (zf1 _ (by omega)).trans hE2
  have zfr1 : ∀ j, j ≠ q → zE1 j = E j := fun j zm0 => zf1 j zm0
  refine lv_iload_n hx hb dX8_undo_5 rfl (lv_at hl 1 rfl) ?_
  refine lv_i2l (v := (nI n).toInt64) hx hb dX8_undo_6 rfl ?_
  refine lv_lconst (v := (nI 1).toInt64) hx hb dX8_undo_7 (by decide) ?_
  refine lv_ldc2 (v := 16) hx hb hown (hts (.constantLong RX8 145 (16)) (by decide +kernel)) dX8_undo_8 ?_
  refine r_asL (nI 16).toInt64 (by decide) ?_
  refine r_sI C zw1 hl.1 [.long ((nI n).toInt64), .long ((nI 1).toInt64), .long ((nI 16).toInt64)] 3 rfl (c_X8_in (l := l) (G := G) (tC := tC) (ad := ad) (N := N) (E := zE1) (x := (nI n)) (a := (nI 1)) (b := (nI 16))   ) gX8_undo_X8_in rfl ⟨rfl, rfl⟩ (by decide +kernel) ⟨Nat.le_of_ble_eq_true rfl, Nat.le_of_ble_eq_true rfl⟩ (rest := []) rfl (Nat.le_of_ble_eq_true rfl) dX8_undo_11 ⟨Nat.zero_le _, Nat.zero_le _⟩ (fun zr2 zE2 zH2 zL2 zp2 zw2 => ?_)
  obtain ⟨ze2, zq2⟩ := zp2
  rw [ze2] at zw2
  clear ze2
  rw [zq2]
  refine b_if_ne (tgt := 20) hx hb dX8_undo_14 (by decide) (fun zc14 => ?_) (fun zc14 => ?_)
  · refine lv_iload_n hx hb dX8_undo_20 rfl (lv_at hl 1 rfl) ?_
    refine lv_aload_n hx hb dX8_undo_21 rfl (lv_at hl 0 rfl) ?_
    refine r_get C zw2 RX8 TX8 17 5 hinX8 (i := q) (by omega) zh1_0 rfl 7 (by decide) (by decide +kernel) rfl (v := .int (nI pm)) rfl dX8_undo_22 ?_
    refine n_icmp_le (tgt := 31) hx hb dX8_undo_25 (by decide) (by omega) (by omega) (fun zc25 => ?_) (fun zc25 => ?_)
    · refine lv_aload_n hx hb dX8_undo_31 rfl (lv_at hl 0 rfl) ?_
      refine lv_dup hx hb dX8_undo_32 rfl ?_
      refine r_get C zw2 RX8 TX8 17 5 hinX8 (i := q) (by omega) zh1_0 rfl 7 (by decide) (by decide +kernel) rfl (v := .int (nI pm)) rfl dX8_undo_33 ?_
      refine lv_iload_n hx hb dX8_undo_36 rfl (lv_at hl 1 rfl) ?_
      refine lv_isub hx hb dX8_undo_37 ?_
      refine r_nat (pm - n) (pk_sub hn) ?_
      refine r_put C zw2 RX8 TX8 17 5 hinX8 tyX8 tyX8_ok nmX8 (i := q) (by omega) zh1_0 rfl 7 (by decide) (by decide +kernel) rfl rfl (v := .int (nI (pm - n))) rfl rfl (Nat.le_of_ble_eq_true rfl) dX8_undo_38 (fun zE3 zH3 zL3 zg3 zf3 zw3 => ?_)
      have zh3_0 : zE3 q = .inr (5, [.int (nI 0), .ref (ad (q + 1)), .long se, .ref (ad (q + 2)), .ref (ad (q + 3)), .int (nI co), .ref (ad (q + 4)), .int (nI (pm - n)), .ref (ad (q + 5)), .ref (ad (q + 6)), .ref (ad (q + 7)), .ref (ad (q + 8)), .int (nI em), .ref (ad (q + 9)), .ref (ad (q + 10)), .ref (ad (q + 11)), .ref (ad (q + 12))]) := zg3
      have zk3_0 : zE3 (q + 1) = eI G 508 s := (zf3 _ (by omega)).trans zk1_0
      have zk3_1 : zE3 (q + 4) = eI G 8128 pa := (zf3 _ (by omega)).trans zk1_1
      have zfr3 : ∀ j, j ≠ q → zE3 j = E j := fun j zm0 => (zf3 j zm0).trans (zfr1 j zm0)
      refine lv_iconst (v := nI 0) hx hb dX8_undo_41 rfl ?_
      refine lv_istore_n (lv' := [(2, .int (nI 0)), (0, .ref (ad q)), (1, .int (nI n))]) hx hb dX8_undo_42 rfl hl (by decide) rfl (fun ls hl => ?_)
      have zlp43 : ∀ (zn : Nat) (i : Nat) (g : Nat → Int32), 508 - i < zn → (i ≤ 508) → (g = va_cpy pa s (508 * (pm - n)) 0 i) → ∀ (E9 : Nat → va_E) (H9 : Heap) (L9 : List Loc), E9 (q + 1) = eI G 508 g → E9 (q + 4) = eI G 8128 pa → E9 q = .inr (5, [.int (nI 0), .ref (ad (q + 1)), .long se, .ref (ad (q + 2)), .ref (ad (q + 3)), .int (nI co), .ref (ad (q + 4)), .int (nI (pm - n)), .ref (ad (q + 5)), .ref (ad (q + 6)), .ref (ad (q + 7)), .ref (ad (q + 8)), .int (nI em), .ref (ad (q + 9)), .ref (ad (q + 10)), .ref (ad (q + 11)), .ref (ad (q + 12))]) → (∀ j, j ≠ q → j ≠ (q + 1) → E9 j = E j) → Wd G A ss_.heap H9 L9 ad E9 N → ∀ (ls : Array Slot), lv_has ls 3 [(0, .ref (ad q)), (2, .int (nI i))] → W pp_ l ee_ ({ frames := 1, cells := 0, slots := 0, locals := 25 } : Room) ss_ mm_ aa_ bb_ me_ cc_ H9 L9 0 0 (QI bb_ aa_ ss_ G ad N A (fun r E2 => E2 q = .inr (5, [.int (nI 0), .ref (ad (q + 1)), .long se, .ref (ad (q + 2)), .ref (ad (q + 3)), .int (nI co), .ref (ad (q + 4)), .int (nI (pm - n)), .ref (ad (q + 5)), .ref (ad (q + 6)), .ref (ad (q + 7)), .ref (ad (q + 8)), .int (nI em), .ref (ad (q + 9)), .ref (ad (q + 10)), .ref (ad (q + 11)), .ref (ad (q + 12))]) ∧ E2 (q + 1) = eI G 508 (slc pa (pm - n)) ∧ (∀ j, j ≠ q → j ≠ (q + 1) → E2 j = E j) ∧ r = slc pa (pm - n) 1)) (F0 mm_ 43 ls []) := by
        intro zn
        induction zn with
        | zero => intro i g zhm; exact absurd zhm (Nat.not_lt_zero _)
        | succ zn zih43 =>
          intro i g zhm43 hi hg zE_43 zH_43 zL_43 zl43_0 zl43_1 zl43_2 zlf43  zlw43 ls hl
          refine lv_iload_n hx hb dX8_undo_43 rfl (lv_at hl 1 rfl) ?_
          refine lv_sipush (v := nI 508) hx hb dX8_undo_44 rfl ?_
          refine n_icmp_ge (tgt := 77) hx hb dX8_undo_47 (by decide) (by omega) (by omega) (fun zc47 => ?_) (fun zc47 => ?_)
          · refine r_congI zlw43 (i := (q + 1)) (by omega) zl43_0 (f2 := slc pa (pm - n)) (fun j hj => by rw [hg, show i = 508 by omega]; exact cpy_slc j hj) (fun zE4 zg4 zf4 zw4 => ?_)
            have zh4_0 : zE4 (q + 1) = eI G 508 (slc pa (pm - n)) := zg4
            have zk4_0 : zE4 (q + 4) = eI G 8128 pa := (zf4 _ (by omega)).trans zl43_1
            have zk4_1 : zE4 q = .inr (5, [.int (nI 0), .ref (ad (q + 1)), .long se, .ref (ad (q + 2)), .ref (ad (q + 3)), .int (nI co), .ref (ad (q + 4)), .int (nI (pm - n)), .ref (ad (q + 5)), .ref (ad (q + 6)), .ref (ad (q + 7)), .ref (ad (q + 8)), .int (nI em), .ref (ad (q + 9)), .ref (ad (q + 10)), .ref (ad (q + 11)), .ref (ad (q + 12))]) := (zf4 _ (by omega)).trans zl43_2
            have zfr4 : ∀ j, j ≠ q → j ≠ (q + 1) → zE4 j = E j := fun j zm0 zm1 => (zf4 j zm1).trans (zlf43 j zm0 zm1)
            refine lv_aload_n hx hb dX8_undo_77 rfl (lv_at hl 0 rfl) ?_
            refine r_get C zw4 RX8 TX8 17 5 hinX8 (i := q) (by omega) zk4_1 rfl 1 (by decide) (by decide +kernel) rfl (v := .ref (ad (q + 1))) rfl dX8_undo_78 ?_
            refine lv_iconst (v := nI 1) hx hb dX8_undo_81 rfl ?_
            refine r_iaN C zw4 (i := (q + 1)) (by omega) zh4_0 (j := 1) (by omega) (by omega) dX8_undo_82 ?_
            exact r_iret C zw4 dX8_undo_83 ⟨zk4_1, zh4_0, (fun j zm0 zm1 => zfr4 j zm0 zm1), (by rfl)⟩
          · refine lv_aload_n hx hb dX8_undo_50 rfl (lv_at hl 0 rfl) ?_
            refine r_get C zlw43 RX8 TX8 17 5 hinX8 (i := q) (by omega) zl43_2 rfl 1 (by decide) (by decide +kernel) rfl (v := .ref (ad (q + 1))) rfl dX8_undo_51 ?_
            refine lv_iload_n hx hb dX8_undo_54 rfl (lv_at hl 1 rfl) ?_
            refine lv_aload_n hx hb dX8_undo_55 rfl (lv_at hl 0 rfl) ?_
            refine r_get C zlw43 RX8 TX8 17 5 hinX8 (i := q) (by omega) zl43_2 rfl 6 (by decide) (by decide +kernel) rfl (v := .ref (ad (q + 4))) rfl dX8_undo_56 ?_
            refine lv_sipush (v := nI 508) hx hb dX8_undo_59 rfl ?_
            refine lv_aload_n hx hb dX8_undo_62 rfl (lv_at hl 0 rfl) ?_
            refine r_get C zlw43 RX8 TX8 17 5 hinX8 (i := q) (by omega) zl43_2 rfl 7 (by decide) (by decide +kernel) rfl (v := .int (nI (pm - n))) rfl dX8_undo_63 ?_
            refine lv_imul hx hb dX8_undo_66 ?_
            refine r_nat (508 * (pm - n)) (pk_mul _ _) ?_
            refine lv_iload_n hx hb dX8_undo_67 rfl (lv_at hl 1 rfl) ?_
            refine lv_iadd hx hb dX8_undo_68 ?_
            refine r_nat ((508 * (pm - n)) + i) (nI_add _ _) ?_
            refine r_iaN C zlw43 (i := (q + 4)) (by omega) zl43_1 (j := (508 * (pm - n)) + i) (by omega) (by omega) dX8_undo_69 ?_
            refine r_iasN C zlw43 (i := (q + 1)) (by omega) zl43_0 (j := i) (by omega) (by omega) dX8_undo_70 (fun zE5 zH5 zL5 zg5 zf5 zw5 => ?_)
            have zh5_0 : zE5 (q + 1) = eI G 508 (upd g i (pa ((508 * (pm - n)) + i))) := zg5
            have zk5_0 : zE5 (q + 4) = eI G 8128 pa := (zf5 _ (by omega)).trans zl43_1
            have zk5_1 : zE5 q = .inr (5, [.int (nI 0), .ref (ad (q + 1)), .long se, .ref (ad (q + 2)), .ref (ad (q + 3)), .int (nI co), .ref (ad (q + 4)), .int (nI (pm - n)), .ref (ad (q + 5)), .ref (ad (q + 6)), .ref (ad (q + 7)), .ref (ad (q + 8)), .int (nI em), .ref (ad (q + 9)), .ref (ad (q + 10)), .ref (ad (q + 11)), .ref (ad (q + 12))]) := (zf5 _ (by omega)).trans zl43_2
            have zfr5 : ∀ j, j ≠ q → j ≠ (q + 1) → zE5 j = E j := fun j zm0 zm1 => (zf5 j zm1).trans (zlf43 j zm0 zm1)
            refine lv_iinc (v := nI (i + 1)) (lv' := [(2, .int (nI (i + 1))), (0, .ref (ad q))]) hx hb dX8_undo_71 hl (k := 1) rfl (by rw [show Int32.ofInt 1 = nI 1 from rfl, nI_add]) (by decide) rfl (fun ls hl => ?_)
            refine lv_goto (tgt := 43) hx hb dX8_undo_74 (by decide) ?_
            exact zih43 (i + 1) (upd g i (pa ((508 * (pm - n)) + i))) (by omega) (by omega) (by rw [hg]; have zc9 := cpy_s pa s (508 * (pm - n)) 0 i; rw [Nat.zero_add] at zc9; exact zc9) _ _ _ zh5_0 zk5_0 zk5_1 (fun j zm0 zm1 => zfr5 j zm0 zm1) zw5 _ (lv_sub hl [1, 0] rfl)
      exact zlp43 _ 0 s (Nat.lt_succ_self _) (by omega) (by exact (cpy_0 _ _ _ _).symm) _ _ _ zk3_0 zk3_1 zh3_0 (fun j zm0 zm1 => zfr3 j zm0) zw3 _ (lv_sub hl [1, 0] rfl)
    · exact absurd zc25 (by omega)
  · exact absurd ⟨nI_le hn1 (by omega), nI_le (by omega) (by omega)⟩ zc14

set_option maxHeartbeats 4000000 in
set_option maxRecDepth 100000 in
theorem c_X8_undo_n {l : Launch} {G : vG} {tC : Nat} {ad : Nat → Nat} {N : Nat} {E : Nat → va_E} {q co pm em : Nat} {th : Int32} {se : Int64} {n : Int32} (hN0 : q + 13 ≤ N) (hE0 : E q = .inr (5, [.int th, .ref (ad (q + 1)), .long se, .ref (ad (q + 2)), .ref (ad (q + 3)), .int (nI co), .ref (ad (q + 4)), .int (nI pm), .ref (ad (q + 5)), .ref (ad (q + 6)), .ref (ad (q + 7)), .ref (ad (q + 8)), .int (nI em), .ref (ad (q + 9)), .ref (ad (q + 10)), .ref (ad (q + 11)), .ref (ad (q + 12))])) (hpm : pm ≤ 16) (hno : ¬ ((nI 1 ≤ n ∧ n ≤ nI 16) ∧ n ≤ nI pm)) : MI l yX8_undo wsX8_undo ({ frames := 1, cells := 0, slots := 0, locals := 25 } : Room) G tC ad N E [.ref (ad q), .int n] (fun r E2 => E2 q = .inr (5, [.int (nI 0), .ref (ad (q + 1)), .long se, .ref (ad (q + 2)), .ref (ad (q + 3)), .int (nI co), .ref (ad (q + 4)), .int (nI pm), .ref (ad (q + 5)), .ref (ad (q + 6)), .ref (ad (q + 7)), .ref (ad (q + 8)), .int (nI em), .ref (ad (q + 9)), .ref (ad (q + 10)), .ref (ad (q + 11)), .ref (ad (q + 12))]) ∧ (∀ j, j ≠ q → E2 j = E j) ∧ r = if nI 1 ≤ n ∧ n ≤ nI 16 then -1000000003 else -1000000002) := by
  refine MI_of RX8 rfl (by decide) rfl (Nat.le_of_ble_eq_true rfl) ?_
  intro pp_ ee_ ss_ mm_ aa_ bb_ me_ cc_ A ls C hw hl
  have hx := C.1
  have hb := C.2.1
  have hown := C.2.2.2.2.1
  have hts := C.2.2.2.2.2.1
  have hl : lv_has ls 3 [(0, .ref (ad q)), (1, .int n)] := hl
  have hinX8 : ∀ w ∈ u_ws RX8 TX8 17, w ∈ wsX8_undo := by decide +kernel
  refine lv_aload_n hx hb dX8_undo_0 rfl (lv_at hl 0 rfl) ?_
  refine lv_iconst (v := nI 0) hx hb dX8_undo_1 rfl ?_
  refine r_put C hw RX8 TX8 17 5 hinX8 tyX8 tyX8_ok nmX8 (i := q) (by omega) hE0 rfl 0 (by decide) (by decide +kernel) rfl rfl (v := .int (nI 0)) rfl rfl (Nat.le_of_ble_eq_true rfl) dX8_undo_2 (fun zE1 zH1 zL1 zg1 zf1 zw1 => ?_)
  have zh1_0 : zE1 q = .inr (5, [.int (nI 0), .ref (ad (q + 1)), .long se, .ref (ad (q + 2)), .ref (ad (q + 3)), .int (nI co), .ref (ad (q + 4)), .int (nI pm), .ref (ad (q + 5)), .ref (ad (q + 6)), .ref (ad (q + 7)), .ref (ad (q + 8)), .int (nI em), .ref (ad (q + 9)), .ref (ad (q + 10)), .ref (ad (q + 11)), .ref (ad (q + 12))]) := zg1
  have zfr1 : ∀ j, j ≠ q → zE1 j = E j := fun j zm0 => zf1 j zm0
  refine lv_iload_n hx hb dX8_undo_5 rfl (lv_at hl 1 rfl) ?_
  refine lv_i2l (v := n.toInt64) hx hb dX8_undo_6 rfl ?_
  refine lv_lconst (v := (nI 1).toInt64) hx hb dX8_undo_7 (by decide) ?_
  refine lv_ldc2 (v := 16) hx hb hown (hts (.constantLong RX8 145 (16)) (by decide +kernel)) dX8_undo_8 ?_
  refine r_asL (nI 16).toInt64 (by decide) ?_
  refine r_sI C zw1 hl.1 [.long n.toInt64, .long ((nI 1).toInt64), .long ((nI 16).toInt64)] 3 rfl (c_X8_in (l := l) (G := G) (tC := tC) (ad := ad) (N := N) (E := zE1) (x := n) (a := (nI 1)) (b := (nI 16))   ) gX8_undo_X8_in rfl ⟨rfl, rfl⟩ (by decide +kernel) ⟨Nat.le_of_ble_eq_true rfl, Nat.le_of_ble_eq_true rfl⟩ (rest := []) rfl (Nat.le_of_ble_eq_true rfl) dX8_undo_11 ⟨Nat.zero_le _, Nat.zero_le _⟩ (fun zr2 zE2 zH2 zL2 zp2 zw2 => ?_)
  obtain ⟨ze2, zq2⟩ := zp2
  rw [ze2] at zw2
  clear ze2
  rw [zq2]
  refine b_if_ne (tgt := 20) hx hb dX8_undo_14 (by decide) (fun zc14 => ?_) (fun zc14 => ?_)
  · refine lv_iload_n hx hb dX8_undo_20 rfl (lv_at hl 1 rfl) ?_
    refine lv_aload_n hx hb dX8_undo_21 rfl (lv_at hl 0 rfl) ?_
    refine r_get C zw2 RX8 TX8 17 5 hinX8 (i := q) (by omega) zh1_0 rfl 7 (by decide) (by decide +kernel) rfl (v := .int (nI pm)) rfl dX8_undo_22 ?_
    refine lv_icmp_le (tgt := 31) hx hb dX8_undo_25 (by decide) (fun zc25 => ?_) (fun zc25 => ?_)
    · exact absurd ⟨zc14, zc25⟩ hno
    · refine lv_ldc (v := -1000000003) hx hb hown (hts (.constant RX8 199 (-1000000003)) (by decide +kernel)) dX8_undo_28 ?_
      exact r_iret C zw2 dX8_undo_30 ⟨zh1_0, (fun j zm0 => zfr1 j zm0), (by rw [if_pos zc14])⟩
  · refine lv_ldc (v := -1000000002) hx hb hown (hts (.constant RX8 74 (-1000000002)) (by decide +kernel)) dX8_undo_17 ?_
    exact r_iret C zw2 dX8_undo_19 ⟨zh1_0, (fun j zm0 => zfr1 j zm0), (by rw [if_neg zc14])⟩

set_option maxHeartbeats 4000000 in
set_option maxRecDepth 100000 in
theorem c_X8_write_y {l : Launch} {G : vG} {tC : Nat} {ad : Nat → Nat} {N : Nat} {E : Nat → va_E} {q co pm em : Nat} {th : Int32} {se : Int64} {pg : Nat} {s : Nat → Int32} {k row i lt : Nat} {en : Nat → Int32} (hN0 : q + 13 ≤ N) (hE0 : E q = .inr (5, [.int th, .ref (ad (q + 1)), .long se, .ref (ad (q + 2)), .ref (ad (q + 3)), .int (nI co), .ref (ad (q + 4)), .int (nI pm), .ref (ad (q + 5)), .ref (ad (q + 6)), .ref (ad (q + 7)), .ref (ad (q + 8)), .int (nI em), .ref (ad (q + 9)), .ref (ad (q + 10)), .ref (ad (q + 11)), .ref (ad (q + 12))])) (hE1 : E (q + 1) = eI G 508 s) (hE2 : E (q + 8) = eI G 80 en) (hs0 : s 0 = nI pg) (hpg : pg ≤ 10) (hk : k < pg) (hrow : row ≤ 4) (hi : i ≤ 7) (hlt : lt ≤ 127) (hem : em < 20) : MI l yX8_write wsX8_write ({ frames := 2, cells := 0, slots := 0, locals := 46 } : Room) G tC ad N E [.ref (ad q), .int (nI k), .int (nI row), .int (nI i), .int (nI lt)] (fun r E2 => E2 q = .inr (5, [.int (nI 0), .ref (ad (q + 1)), .long se, .ref (ad (q + 2)), .ref (ad (q + 3)), .int (nI co), .ref (ad (q + 4)), .int (nI pm), .ref (ad (q + 5)), .ref (ad (q + 6)), .ref (ad (q + 7)), .ref (ad (q + 8)), .int (nI (em + 1)), .ref (ad (q + 9)), .ref (ad (q + 10)), .ref (ad (q + 11)), .ref (ad (q + 12))]) ∧ E2 (q + 8) = eI G 80 (en4 en em (nI k) (nI row) (nI i) (nI lt)) ∧ (∀ j, j ≠ q → j ≠ (q + 8) → E2 j = E j) ∧ r = nI (em + 1)) := by
  refine MI_of RX8 rfl (by decide) rfl (Nat.le_of_ble_eq_true rfl) ?_
  intro pp_ ee_ ss_ mm_ aa_ bb_ me_ cc_ A ls C hw hl
  have hx := C.1
  have hb := C.2.1
  have hown := C.2.2.2.2.1
  have hts := C.2.2.2.2.2.1
  have hl : lv_has ls 5 [(0, .ref (ad q)), (1, .int (nI k)), (2, .int (nI row)), (3, .int (nI i)), (4, .int (nI lt))] := hl
  have hinX8 : ∀ w ∈ u_ws RX8 TX8 17, w ∈ wsX8_write := by decide +kernel
  refine lv_aload_n hx hb dX8_write_0 rfl (lv_at hl 0 rfl) ?_
  refine lv_iconst (v := nI 0) hx hb dX8_write_1 rfl ?_
  refine r_put C hw RX8 TX8 17 5 hinX8 tyX8 tyX8_ok nmX8 (i := q) (by omega) hE0 rfl 0 (by decide) (by decide +kernel) rfl rfl (v := .int (nI 0)) rfl rfl (Nat.le_of_ble_eq_true rfl) dX8_write_2 (fun zE1 zH1 zL1 zg1 zf1 zw1 => ?_)
  have zh1_0 : zE1 q = .inr (5, [.int (nI 0), .ref (ad (q + 1)), .long se, .ref (ad (q + 2)), .ref (ad (q + 3)), .int (nI co), .ref (ad (q + 4)), .int (nI pm), .ref (ad (q + 5)), .ref (ad (q + 6)), .ref (ad (q + 7)), .ref (ad (q + 8)), .int (nI em), .ref (ad (q + 9)), .ref (ad (q + 10)), .ref (ad (q + 11)), .ref (ad (q + 12))]) := zg1
  have zk1_0 : zE1 (q + 1) = eI G 508 s := (zf1 _ (by omega)).trans hE1
  have zk1_1 : zE1 (q + 8) = eI G 80 en := (zf1 _ (by omega)).trans hE2
  have zfr1 : ∀ j, j ≠ q → zE1 j = E j := fun j zm0 => zf1 j zm0
  refine lv_aload_n hx hb dX8_write_5 rfl (lv_at hl 0 rfl) ?_
  refine lv_iload_n hx hb dX8_write_6 rfl (lv_at hl 1 rfl) ?_
  refine r_vI C zw1 hl.1 (i := q) (by omega) zh1_0 (T := TX8) (n := 17) rfl [.int (nI k)] 1 rfl (c_X8_isPage (l := l) (G := G) (tC := tC) (ad := ad) (N := N) (E := zE1) (q := q) (co := co) (pm := pm) (em := em) (th := nI 0) (se := se) (pg := pg) (s := s) (k := nI k) (by omega) zh1_0 zk1_0 (by first | assumption | omega) (by first | assumption | omega)) gX8_write_X8_isPage rfl ⟨rfl, rfl⟩ (by decide +kernel) ⟨Nat.le_of_ble_eq_true rfl, Nat.le_of_ble_eq_true rfl⟩ (rest := []) rfl (Nat.le_of_ble_eq_true rfl) dX8_write_7 ⟨Nat.zero_le _, Nat.zero_le _⟩ (fun zr2 zE2 zH2 zL2 zp2 zw2 => ?_)
  obtain ⟨ze2, zq2⟩ := zp2
  rw [ze2] at zw2
  clear ze2
  rw [zq2]
  refine b_if_ne (tgt := 16) hx hb dX8_write_10 (by decide) (fun zc10 => ?_) (fun zc10 => ?_)
  · refine lv_iload_n hx hb dX8_write_16 rfl (lv_at hl 2 rfl) ?_
    refine lv_i2l (v := (nI row).toInt64) hx hb dX8_write_17 rfl ?_
    refine lv_lconst (v := (nI 0).toInt64) hx hb dX8_write_18 (by decide) ?_
    refine lv_ldc2 (v := 4) hx hb hown (hts (.constantLong RX8 179 (4)) (by decide +kernel)) dX8_write_19 ?_
    refine r_asL (nI 4).toInt64 (by decide) ?_
    refine r_sI C zw2 hl.1 [.long ((nI row).toInt64), .long ((nI 0).toInt64), .long ((nI 4).toInt64)] 3 rfl (c_X8_in (l := l) (G := G) (tC := tC) (ad := ad) (N := N) (E := zE1) (x := (nI row)) (a := (nI 0)) (b := (nI 4))   ) gX8_write_X8_in rfl ⟨rfl, rfl⟩ (by decide +kernel) ⟨Nat.le_of_ble_eq_true rfl, Nat.le_of_ble_eq_true rfl⟩ (rest := []) rfl (Nat.le_of_ble_eq_true rfl) dX8_write_22 ⟨Nat.zero_le _, Nat.zero_le _⟩ (fun zr3 zE3 zH3 zL3 zp3 zw3 => ?_)
    obtain ⟨ze3, zq3⟩ := zp3
    rw [ze3] at zw3
    clear ze3
    rw [zq3]
    refine b_if_eq (tgt := 53) hx hb dX8_write_25 (by decide) (fun zc25 => ?_) (fun zc25 => ?_)
    · exact absurd (in_nI (by omega) (by omega)) zc25
    · refine lv_iload_n hx hb dX8_write_28 rfl (lv_at hl 3 rfl) ?_
      refine lv_i2l (v := (nI i).toInt64) hx hb dX8_write_29 rfl ?_
      refine lv_lconst (v := (nI 0).toInt64) hx hb dX8_write_30 (by decide) ?_
      refine lv_ldc2 (v := 7) hx hb hown (hts (.constantLong RX8 102 (7)) (by decide +kernel)) dX8_write_31 ?_
      refine r_asL (nI 7).toInt64 (by decide) ?_
      refine r_sI C zw3 hl.1 [.long ((nI i).toInt64), .long ((nI 0).toInt64), .long ((nI 7).toInt64)] 3 rfl (c_X8_in (l := l) (G := G) (tC := tC) (ad := ad) (N := N) (E := zE1) (x := (nI i)) (a := (nI 0)) (b := (nI 7))   ) gX8_write_X8_in rfl ⟨rfl, rfl⟩ (by decide +kernel) ⟨Nat.le_of_ble_eq_true rfl, Nat.le_of_ble_eq_true rfl⟩ (rest := []) rfl (Nat.le_of_ble_eq_true rfl) dX8_write_34 ⟨Nat.zero_le _, Nat.zero_le _⟩ (fun zr4 zE4 zH4 zL4 zp4 zw4 => ?_)
      obtain ⟨ze4, zq4⟩ := zp4
      rw [ze4] at zw4
      clear ze4
      rw [zq4]
      refine b_if_eq (tgt := 53) hx hb dX8_write_37 (by decide) (fun zc37 => ?_) (fun zc37 => ?_)
      · exact absurd (in_nI (by omega) (by omega)) zc37
      · refine lv_iload hx hb dX8_write_40 (lv_at hl 4 rfl) ?_
        refine lv_i2l (v := (nI lt).toInt64) hx hb dX8_write_42 rfl ?_
        refine lv_lconst (v := (nI 0).toInt64) hx hb dX8_write_43 (by decide) ?_
        refine lv_ldc2 (v := 127) hx hb hown (hts (.constantLong RX8 163 (127)) (by decide +kernel)) dX8_write_44 ?_
        refine r_asL (nI 127).toInt64 (by decide) ?_
        refine r_sI C zw4 hl.1 [.long ((nI lt).toInt64), .long ((nI 0).toInt64), .long ((nI 127).toInt64)] 3 rfl (c_X8_in (l := l) (G := G) (tC := tC) (ad := ad) (N := N) (E := zE1) (x := (nI lt)) (a := (nI 0)) (b := (nI 127))   ) gX8_write_X8_in rfl ⟨rfl, rfl⟩ (by decide +kernel) ⟨Nat.le_of_ble_eq_true rfl, Nat.le_of_ble_eq_true rfl⟩ (rest := []) rfl (Nat.le_of_ble_eq_true rfl) dX8_write_47 ⟨Nat.zero_le _, Nat.zero_le _⟩ (fun zr5 zE5 zH5 zL5 zp5 zw5 => ?_)
        obtain ⟨ze5, zq5⟩ := zp5
        rw [ze5] at zw5
        clear ze5
        rw [zq5]
        refine b_if_ne (tgt := 56) hx hb dX8_write_50 (by decide) (fun zc50 => ?_) (fun zc50 => ?_)
        · refine lv_aload_n hx hb dX8_write_56 rfl (lv_at hl 0 rfl) ?_
          refine r_get C zw5 RX8 TX8 17 5 hinX8 (i := q) (by omega) zh1_0 rfl 12 (by decide) (by decide +kernel) rfl (v := .int (nI em)) rfl dX8_write_57 ?_
          refine lv_bipush (v := nI 20) hx hb dX8_write_60 rfl ?_
          refine n_icmp_ne (tgt := 68) hx hb dX8_write_62 (by decide) (by omega) (by omega) (fun zc62 => ?_) (fun zc62 => ?_)
          · refine lv_aload_n hx hb dX8_write_68 rfl (lv_at hl 0 rfl) ?_
            refine r_get C zw5 RX8 TX8 17 5 hinX8 (i := q) (by omega) zh1_0 rfl 11 (by decide) (by decide +kernel) rfl (v := .ref (ad (q + 8))) rfl dX8_write_69 ?_
            refine lv_iconst (v := nI 4) hx hb dX8_write_72 rfl ?_
            refine lv_aload_n hx hb dX8_write_73 rfl (lv_at hl 0 rfl) ?_
            refine r_get C zw5 RX8 TX8 17 5 hinX8 (i := q) (by omega) zh1_0 rfl 12 (by decide) (by decide +kernel) rfl (v := .int (nI em)) rfl dX8_write_74 ?_
            refine lv_imul hx hb dX8_write_77 ?_
            refine r_nat (4 * em) (pk_mul _ _) ?_
            refine lv_iload_n hx hb dX8_write_78 rfl (lv_at hl 1 rfl) ?_
            refine r_iasN C zw5 (i := (q + 8)) (by omega) zk1_1 (j := 4 * em) (by omega) (by omega) dX8_write_79 (fun zE6 zH6 zL6 zg6 zf6 zw6 => ?_)
            have zh6_0 : zE6 (q + 8) = eI G 80 (upd en (4 * em) (nI k)) := zg6
            have zk6_0 : zE6 (q + 1) = eI G 508 s := (zf6 _ (by omega)).trans zk1_0
            have zk6_1 : zE6 q = .inr (5, [.int (nI 0), .ref (ad (q + 1)), .long se, .ref (ad (q + 2)), .ref (ad (q + 3)), .int (nI co), .ref (ad (q + 4)), .int (nI pm), .ref (ad (q + 5)), .ref (ad (q + 6)), .ref (ad (q + 7)), .ref (ad (q + 8)), .int (nI em), .ref (ad (q + 9)), .ref (ad (q + 10)), .ref (ad (q + 11)), .ref (ad (q + 12))]) := (zf6 _ (by omega)).trans zh1_0
            have zfr6 : ∀ j, j ≠ q → j ≠ (q + 8) → zE6 j = E j := fun j zm0 zm1 => (zf6 j zm1).trans (zfr1 j zm0)
            refine lv_aload_n hx hb dX8_write_80 rfl (lv_at hl 0 rfl) ?_
            refine r_get C zw6 RX8 TX8 17 5 hinX8 (i := q) (by omega) zk6_1 rfl 11 (by decide) (by decide +kernel) rfl (v := .ref (ad (q + 8))) rfl dX8_write_81 ?_
            refine lv_iconst (v := nI 4) hx hb dX8_write_84 rfl ?_
            refine lv_aload_n hx hb dX8_write_85 rfl (lv_at hl 0 rfl) ?_
            refine r_get C zw6 RX8 TX8 17 5 hinX8 (i := q) (by omega) zk6_1 rfl 12 (by decide) (by decide +kernel) rfl (v := .int (nI em)) rfl dX8_write_86 ?_
            refine lv_imul hx hb dX8_write_89 ?_
            refine r_nat (4 * em) (pk_mul _ _) ?_
            refine lv_iconst (v := nI 1) hx hb dX8_write_90 rfl ?_
            refine lv_iadd hx hb dX8_write_91 ?_
            refine r_nat (4 * em + 1) (nI_add _ _) ?_
            refine lv_iload_n hx hb dX8_write_92 rfl (lv_at hl 2 rfl) ?_
            refine r_iasN C zw6 (i := (q + 8)) (by omega) zh6_0 (j := 4 * em + 1) (by omega) (by omega) dX8_write_93 (fun zE7 zH7 zL7 zg7 zf7 zw7 => ?_)
            have zh7_0 : zE7 (q + 8) = eI G 80 (upd (upd en (4 * em) (nI k)) (4 * em + 1) (nI row)) := zg7
            have zk7_0 : zE7 (q + 1) = eI G 508 s := (zf7 _ (by omega)).trans zk6_0
            have zk7_1 : zE7 q = .inr (5, [.int (nI 0), .ref (ad (q + 1)), .long se, .ref (ad (q + 2)), .ref (ad (q + 3)), .int (nI co), .ref (ad (q + 4)), .int (nI pm), .ref (ad (q + 5)), .ref (ad (q + 6)), .ref (ad (q + 7)), .ref (ad (q + 8)), .int (nI em), .ref (ad (q + 9)), .ref (ad (q + 10)), .ref (ad (q + 11)), .ref (ad (q + 12))]) := (zf7 _ (by omega)).trans zk6_1
            have zfr7 : ∀ j, j ≠ q → j ≠ (q + 8) → zE7 j = E j := fun j zm0 zm1 => (zf7 j zm1).trans (zfr6 j zm0 zm1)
            refine lv_aload_n hx hb dX8_write_94 rfl (lv_at hl 0 rfl) ?_
            refine r_get C zw7 RX8 TX8 17 5 hinX8 (i := q) (by omega) zk7_1 rfl 11 (by decide) (by decide +kernel) rfl (v := .ref (ad (q + 8))) rfl dX8_write_95 ?_
            refine lv_iconst (v := nI 4) hx hb dX8_write_98 rfl ?_
            refine lv_aload_n hx hb dX8_write_99 rfl (lv_at hl 0 rfl) ?_
            refine r_get C zw7 RX8 TX8 17 5 hinX8 (i := q) (by omega) zk7_1 rfl 12 (by decide) (by decide +kernel) rfl (v := .int (nI em)) rfl dX8_write_100 ?_
            refine lv_imul hx hb dX8_write_103 ?_
            refine r_nat (4 * em) (pk_mul _ _) ?_
            refine lv_iconst (v := nI 2) hx hb dX8_write_104 rfl ?_
            refine lv_iadd hx hb dX8_write_105 ?_
            refine r_nat (4 * em + 2) (nI_add _ _) ?_
            refine lv_iload_n hx hb dX8_write_106 rfl (lv_at hl 3 rfl) ?_
            refine r_iasN C zw7 (i := (q + 8)) (by omega) zh7_0 (j := 4 * em + 2) (by omega) (by omega) dX8_write_107 (fun zE8 zH8 zL8 zg8 zf8 zw8 => ?_)
            have zh8_0 : zE8 (q + 8) = eI G 80 (upd (upd (upd en (4 * em) (nI k)) (4 * em + 1) (nI row)) (4 * em + 2) (nI i)) := zg8
            have zk8_0 : zE8 (q + 1) = eI G 508 s := (zf8 _ (by omega)).trans zk7_0
            have zk8_1 : zE8 q = .inr (5, [.int (nI 0), .ref (ad (q + 1)), .long se, .ref (ad (q + 2)), .ref (ad (q + 3)), .int (nI co), .ref (ad (q + 4)), .int (nI pm), .ref (ad (q + 5)), .ref (ad (q + 6)), .ref (ad (q + 7)), .ref (ad (q + 8)), .int (nI em), .ref (ad (q + 9)), .ref (ad (q + 10)), .ref (ad (q + 11)), .ref (ad (q + 12))]) := (zf8 _ (by omega)).trans zk7_1
            have zfr8 : ∀ j, j ≠ q → j ≠ (q + 8) → zE8 j = E j := fun j zm0 zm1 => (zf8 j zm1).trans (zfr7 j zm0 zm1)
            refine lv_aload_n hx hb dX8_write_108 rfl (lv_at hl 0 rfl) ?_
            refine r_get C zw8 RX8 TX8 17 5 hinX8 (i := q) (by omega) zk8_1 rfl 11 (by decide) (by decide +kernel) rfl (v := .ref (ad (q + 8))) rfl dX8_write_109 ?_
            refine lv_iconst (v := nI 4) hx hb dX8_write_112 rfl ?_
            refine lv_aload_n hx hb dX8_write_113 rfl (lv_at hl 0 rfl) ?_
            refine r_get C zw8 RX8 TX8 17 5 hinX8 (i := q) (by omega) zk8_1 rfl 12 (by decide) (by decide +kernel) rfl (v := .int (nI em)) rfl dX8_write_114 ?_
            refine lv_imul hx hb dX8_write_117 ?_
            refine r_nat (4 * em) (pk_mul _ _) ?_
            refine lv_iconst (v := nI 3) hx hb dX8_write_118 rfl ?_
            refine lv_iadd hx hb dX8_write_119 ?_
            refine r_nat (4 * em + 3) (nI_add _ _) ?_
            refine lv_iload hx hb dX8_write_120 (lv_at hl 4 rfl) ?_
            refine r_iasN C zw8 (i := (q + 8)) (by omega) zh8_0 (j := 4 * em + 3) (by omega) (by omega) dX8_write_122 (fun zE9 zH9 zL9 zg9 zf9 zw9 => ?_)
            have zh9_0 : zE9 (q + 8) = eI G 80 (upd (upd (upd (upd en (4 * em) (nI k)) (4 * em + 1) (nI row)) (4 * em + 2) (nI i)) (4 * em + 3) (nI lt)) := zg9
            have zk9_0 : zE9 (q + 1) = eI G 508 s := (zf9 _ (by omega)).trans zk8_0
            have zk9_1 : zE9 q = .inr (5, [.int (nI 0), .ref (ad (q + 1)), .long se, .ref (ad (q + 2)), .ref (ad (q + 3)), .int (nI co), .ref (ad (q + 4)), .int (nI pm), .ref (ad (q + 5)), .ref (ad (q + 6)), .ref (ad (q + 7)), .ref (ad (q + 8)), .int (nI em), .ref (ad (q + 9)), .ref (ad (q + 10)), .ref (ad (q + 11)), .ref (ad (q + 12))]) := (zf9 _ (by omega)).trans zk8_1
            have zfr9 : ∀ j, j ≠ q → j ≠ (q + 8) → zE9 j = E j := fun j zm0 zm1 => (zf9 j zm1).trans (zfr8 j zm0 zm1)
            refine lv_aload_n hx hb dX8_write_123 rfl (lv_at hl 0 rfl) ?_
            refine lv_dup hx hb dX8_write_124 rfl ?_
            refine r_get C zw9 RX8 TX8 17 5 hinX8 (i := q) (by omega) zk9_1 rfl 12 (by decide) (by decide +kernel) rfl (v := .int (nI em)) rfl dX8_write_125 ?_
            refine lv_iconst (v := nI 1) hx hb dX8_write_128 rfl ?_
            refine lv_iadd hx hb dX8_write_129 ?_
            refine r_nat (em + 1) (nI_add _ _) ?_
            refine r_put C zw9 RX8 TX8 17 5 hinX8 tyX8 tyX8_ok nmX8 (i := q) (by omega) zk9_1 rfl 12 (by decide) (by decide +kernel) rfl rfl (v := .int (nI (em + 1))) rfl rfl (Nat.le_of_ble_eq_true rfl) dX8_write_130 (fun zE10 zH10 zL10 zg10 zf10 zw10 => ?_)
            have zh10_0 : zE10 q = .inr (5, [.int (nI 0), .ref (ad (q + 1)), .long se, .ref (ad (q + 2)), .ref (ad (q + 3)), .int (nI co), .ref (ad (q + 4)), .int (nI pm), .ref (ad (q + 5)), .ref (ad (q + 6)), .ref (ad (q + 7)), .ref (ad (q + 8)), .int (nI (em + 1)), .ref (ad (q + 9)), .ref (ad (q + 10)), .ref (ad (q + 11)), .ref (ad (q + 12))]) := zg10
            have zk10_0 : zE10 (q + 1) = eI G 508 s := (zf10 _ (by omega)).trans zk9_0
            have zk10_1 : zE10 (q + 8) = eI G 80 (upd (upd (upd (upd en (4 * em) (nI k)) (4 * em + 1) (nI row)) (4 * em + 2) (nI i)) (4 * em + 3) (nI lt)) := (zf10 _ (by omega)).trans zh9_0
            have zfr10 : ∀ j, j ≠ q → j ≠ (q + 8) → zE10 j = E j := fun j zm0 zm1 => (zf10 j zm0).trans (zfr9 j zm0 zm1)
            refine lv_aload_n hx hb dX8_write_133 rfl (lv_at hl 0 rfl) ?_
            refine r_get C zw10 RX8 TX8 17 5 hinX8 (i := q) (by omega) zh10_0 rfl 12 (by decide) (by decide +kernel) rfl (v := .int (nI (em + 1))) rfl dX8_write_134 ?_
            exact r_iret C zw10 dX8_write_137 ⟨zh10_0, zk10_1, (fun j zm0 zm1 => zfr10 j zm0 zm1), (by rfl)⟩
          · exact absurd zc62 (by omega)
        · exact absurd (in_nI (by omega) (by omega)) zc50
  · exact absurd (has_nI hk (by omega)) zc10

set_option maxHeartbeats 4000000 in
set_option maxRecDepth 100000 in
theorem c_X8_write_n {l : Launch} {G : vG} {tC : Nat} {ad : Nat → Nat} {N : Nat} {E : Nat → va_E} {q co pm em : Nat} {th : Int32} {se : Int64} {pg : Nat} {s : Nat → Int32} {k row i lt : Int32} (hN0 : q + 13 ≤ N) (hE0 : E q = .inr (5, [.int th, .ref (ad (q + 1)), .long se, .ref (ad (q + 2)), .ref (ad (q + 3)), .int (nI co), .ref (ad (q + 4)), .int (nI pm), .ref (ad (q + 5)), .ref (ad (q + 6)), .ref (ad (q + 7)), .ref (ad (q + 8)), .int (nI em), .ref (ad (q + 9)), .ref (ad (q + 10)), .ref (ad (q + 11)), .ref (ad (q + 12))])) (hE1 : E (q + 1) = eI G 508 s) (hs0 : s 0 = nI pg) (hpg : pg ≤ 10) (hem : em ≤ 20) (hno : ¬ (hasP pg k ∧ ((nI 0 ≤ row ∧ row ≤ nI 4) ∧ (nI 0 ≤ i ∧ i ≤ nI 7) ∧ (nI 0 ≤ lt ∧ lt ≤ nI 127)) ∧ em < 20)) : MI l yX8_write wsX8_write ({ frames := 2, cells := 0, slots := 0, locals := 46 } : Room) G tC ad N E [.ref (ad q), .int k, .int row, .int i, .int lt] (fun r E2 => E2 q = .inr (5, [.int (nI 0), .ref (ad (q + 1)), .long se, .ref (ad (q + 2)), .ref (ad (q + 3)), .int (nI co), .ref (ad (q + 4)), .int (nI pm), .ref (ad (q + 5)), .ref (ad (q + 6)), .ref (ad (q + 7)), .ref (ad (q + 8)), .int (nI em), .ref (ad (q + 9)), .ref (ad (q + 10)), .ref (ad (q + 11)), .ref (ad (q + 12))]) ∧ (∀ j, j ≠ q → E2 j = E j) ∧ r = if hasP pg k then (if (nI 0 ≤ row ∧ row ≤ nI 4) ∧ (nI 0 ≤ i ∧ i ≤ nI 7) ∧ (nI 0 ≤ lt ∧ lt ≤ nI 127) then -1000000004 else -1000000002) else -1000000001) := by
  refine MI_of RX8 rfl (by decide) rfl (Nat.le_of_ble_eq_true rfl) ?_
  intro pp_ ee_ ss_ mm_ aa_ bb_ me_ cc_ A ls C hw hl
  have hx := C.1
  have hb := C.2.1
  have hown := C.2.2.2.2.1
  have hts := C.2.2.2.2.2.1
  have hl : lv_has ls 5 [(0, .ref (ad q)), (1, .int k), (2, .int row), (3, .int i), (4, .int lt)] := hl
  have hinX8 : ∀ w ∈ u_ws RX8 TX8 17, w ∈ wsX8_write := by decide +kernel
  refine lv_aload_n hx hb dX8_write_0 rfl (lv_at hl 0 rfl) ?_
  refine lv_iconst (v := nI 0) hx hb dX8_write_1 rfl ?_
  refine r_put C hw RX8 TX8 17 5 hinX8 tyX8 tyX8_ok nmX8 (i := q) (by omega) hE0 rfl 0 (by decide) (by decide +kernel) rfl rfl (v := .int (nI 0)) rfl rfl (Nat.le_of_ble_eq_true rfl) dX8_write_2 (fun zE1 zH1 zL1 zg1 zf1 zw1 => ?_)
  have zh1_0 : zE1 q = .inr (5, [.int (nI 0), .ref (ad (q + 1)), .long se, .ref (ad (q + 2)), .ref (ad (q + 3)), .int (nI co), .ref (ad (q + 4)), .int (nI pm), .ref (ad (q + 5)), .ref (ad (q + 6)), .ref (ad (q + 7)), .ref (ad (q + 8)), .int (nI em), .ref (ad (q + 9)), .ref (ad (q + 10)), .ref (ad (q + 11)), .ref (ad (q + 12))]) := zg1
  have zk1_0 : zE1 (q + 1) = eI G 508 s := (zf1 _ (by omega)).trans hE1
  have zfr1 : ∀ j, j ≠ q → zE1 j = E j := fun j zm0 => zf1 j zm0
  refine lv_aload_n hx hb dX8_write_5 rfl (lv_at hl 0 rfl) ?_
  refine lv_iload_n hx hb dX8_write_6 rfl (lv_at hl 1 rfl) ?_
  refine r_vI C zw1 hl.1 (i := q) (by omega) zh1_0 (T := TX8) (n := 17) rfl [.int k] 1 rfl (c_X8_isPage (l := l) (G := G) (tC := tC) (ad := ad) (N := N) (E := zE1) (q := q) (co := co) (pm := pm) (em := em) (th := nI 0) (se := se) (pg := pg) (s := s) (k := k) (by omega) zh1_0 zk1_0 (by first | assumption | omega) (by first | assumption | omega)) gX8_write_X8_isPage rfl ⟨rfl, rfl⟩ (by decide +kernel) ⟨Nat.le_of_ble_eq_true rfl, Nat.le_of_ble_eq_true rfl⟩ (rest := []) rfl (Nat.le_of_ble_eq_true rfl) dX8_write_7 ⟨Nat.zero_le _, Nat.zero_le _⟩ (fun zr2 zE2 zH2 zL2 zp2 zw2 => ?_)
  obtain ⟨ze2, zq2⟩ := zp2
  rw [ze2] at zw2
  clear ze2
  rw [zq2]
  refine b_if_ne (tgt := 16) hx hb dX8_write_10 (by decide) (fun zc10 => ?_) (fun zc10 => ?_)
  · refine lv_iload_n hx hb dX8_write_16 rfl (lv_at hl 2 rfl) ?_
    refine lv_i2l (v := row.toInt64) hx hb dX8_write_17 rfl ?_
    refine lv_lconst (v := (nI 0).toInt64) hx hb dX8_write_18 (by decide) ?_
    refine lv_ldc2 (v := 4) hx hb hown (hts (.constantLong RX8 179 (4)) (by decide +kernel)) dX8_write_19 ?_
    refine r_asL (nI 4).toInt64 (by decide) ?_
    refine r_sI C zw2 hl.1 [.long row.toInt64, .long ((nI 0).toInt64), .long ((nI 4).toInt64)] 3 rfl (c_X8_in (l := l) (G := G) (tC := tC) (ad := ad) (N := N) (E := zE1) (x := row) (a := (nI 0)) (b := (nI 4))   ) gX8_write_X8_in rfl ⟨rfl, rfl⟩ (by decide +kernel) ⟨Nat.le_of_ble_eq_true rfl, Nat.le_of_ble_eq_true rfl⟩ (rest := []) rfl (Nat.le_of_ble_eq_true rfl) dX8_write_22 ⟨Nat.zero_le _, Nat.zero_le _⟩ (fun zr3 zE3 zH3 zL3 zp3 zw3 => ?_)
    obtain ⟨ze3, zq3⟩ := zp3
    rw [ze3] at zw3
    clear ze3
    rw [zq3]
    refine b_if_eq (tgt := 53) hx hb dX8_write_25 (by decide) (fun zc25 => ?_) (fun zc25 => ?_)
    · refine lv_ldc (v := -1000000002) hx hb hown (hts (.constant RX8 74 (-1000000002)) (by decide +kernel)) dX8_write_53 ?_
      exact r_iret C zw3 dX8_write_55 ⟨zh1_0, (fun j zm0 => zfr1 j zm0), (by rw [if_pos zc10, if_neg (by first | exact fun zq => zc50 zq.2.2 | exact fun zq => zc37 zq.2.1 | exact fun zq => zc25 zq.1)])⟩
    · refine lv_iload_n hx hb dX8_write_28 rfl (lv_at hl 3 rfl) ?_
      refine lv_i2l (v := i.toInt64) hx hb dX8_write_29 rfl ?_
      refine lv_lconst (v := (nI 0).toInt64) hx hb dX8_write_30 (by decide) ?_
      refine lv_ldc2 (v := 7) hx hb hown (hts (.constantLong RX8 102 (7)) (by decide +kernel)) dX8_write_31 ?_
      refine r_asL (nI 7).toInt64 (by decide) ?_
      refine r_sI C zw3 hl.1 [.long i.toInt64, .long ((nI 0).toInt64), .long ((nI 7).toInt64)] 3 rfl (c_X8_in (l := l) (G := G) (tC := tC) (ad := ad) (N := N) (E := zE1) (x := i) (a := (nI 0)) (b := (nI 7))   ) gX8_write_X8_in rfl ⟨rfl, rfl⟩ (by decide +kernel) ⟨Nat.le_of_ble_eq_true rfl, Nat.le_of_ble_eq_true rfl⟩ (rest := []) rfl (Nat.le_of_ble_eq_true rfl) dX8_write_34 ⟨Nat.zero_le _, Nat.zero_le _⟩ (fun zr4 zE4 zH4 zL4 zp4 zw4 => ?_)
      obtain ⟨ze4, zq4⟩ := zp4
      rw [ze4] at zw4
      clear ze4
      rw [zq4]
      refine b_if_eq (tgt := 53) hx hb dX8_write_37 (by decide) (fun zc37 => ?_) (fun zc37 => ?_)
      · refine lv_ldc (v := -1000000002) hx hb hown (hts (.constant RX8 74 (-1000000002)) (by decide +kernel)) dX8_write_53 ?_
        exact r_iret C zw4 dX8_write_55 ⟨zh1_0, (fun j zm0 => zfr1 j zm0), (by rw [if_pos zc10, if_neg (by first | exact fun zq => zc50 zq.2.2 | exact fun zq => zc37 zq.2.1 | exact fun zq => zc25 zq.1)])⟩
      · refine lv_iload hx hb dX8_write_40 (lv_at hl 4 rfl) ?_
        refine lv_i2l (v := lt.toInt64) hx hb dX8_write_42 rfl ?_
        refine lv_lconst (v := (nI 0).toInt64) hx hb dX8_write_43 (by decide) ?_
        refine lv_ldc2 (v := 127) hx hb hown (hts (.constantLong RX8 163 (127)) (by decide +kernel)) dX8_write_44 ?_
        refine r_asL (nI 127).toInt64 (by decide) ?_
        refine r_sI C zw4 hl.1 [.long lt.toInt64, .long ((nI 0).toInt64), .long ((nI 127).toInt64)] 3 rfl (c_X8_in (l := l) (G := G) (tC := tC) (ad := ad) (N := N) (E := zE1) (x := lt) (a := (nI 0)) (b := (nI 127))   ) gX8_write_X8_in rfl ⟨rfl, rfl⟩ (by decide +kernel) ⟨Nat.le_of_ble_eq_true rfl, Nat.le_of_ble_eq_true rfl⟩ (rest := []) rfl (Nat.le_of_ble_eq_true rfl) dX8_write_47 ⟨Nat.zero_le _, Nat.zero_le _⟩ (fun zr5 zE5 zH5 zL5 zp5 zw5 => ?_)
        obtain ⟨ze5, zq5⟩ := zp5
        rw [ze5] at zw5
        clear ze5
        rw [zq5]
        refine b_if_ne (tgt := 56) hx hb dX8_write_50 (by decide) (fun zc50 => ?_) (fun zc50 => ?_)
        · refine lv_aload_n hx hb dX8_write_56 rfl (lv_at hl 0 rfl) ?_
          refine r_get C zw5 RX8 TX8 17 5 hinX8 (i := q) (by omega) zh1_0 rfl 12 (by decide) (by decide +kernel) rfl (v := .int (nI em)) rfl dX8_write_57 ?_
          refine lv_bipush (v := nI 20) hx hb dX8_write_60 rfl ?_
          refine n_icmp_ne (tgt := 68) hx hb dX8_write_62 (by decide) (by omega) (by omega) (fun zc62 => ?_) (fun zc62 => ?_)
          · exact absurd ⟨zc10, ⟨zc25, zc37, zc50⟩, by omega⟩ hno
          · refine lv_ldc (v := -1000000004) hx hb hown (hts (.constant RX8 217 (-1000000004)) (by decide +kernel)) dX8_write_65 ?_
            exact r_iret C zw5 dX8_write_67 ⟨zh1_0, (fun j zm0 => zfr1 j zm0), (by rw [if_pos zc10, if_pos ⟨zc25, zc37, zc50⟩])⟩
        · refine lv_ldc (v := -1000000002) hx hb hown (hts (.constant RX8 74 (-1000000002)) (by decide +kernel)) dX8_write_53 ?_
          exact r_iret C zw5 dX8_write_55 ⟨zh1_0, (fun j zm0 => zfr1 j zm0), (by rw [if_pos zc10, if_neg (by first | exact fun zq => zc50 zq.2.2 | exact fun zq => zc37 zq.2.1 | exact fun zq => zc25 zq.1)])⟩
  · refine lv_ldc (v := -1000000001) hx hb hown (hts (.constant RX8 156 (-1000000001)) (by decide +kernel)) dX8_write_13 ?_
    exact r_iret C zw2 dX8_write_15 ⟨zh1_0, (fun j zm0 => zfr1 j zm0), (by rw [if_neg zc10])⟩

set_option maxHeartbeats 4000000 in
set_option maxRecDepth 100000 in
theorem c_X8_tear {l : Launch} {G : vG} {tC : Nat} {ad : Nat → Nat} {N : Nat} {E : Nat → va_E} {q co pm em : Nat} {th : Int32} {se : Int64} (hN0 : q + 13 ≤ N) (hE0 : E q = .inr (5, [.int th, .ref (ad (q + 1)), .long se, .ref (ad (q + 2)), .ref (ad (q + 3)), .int (nI co), .ref (ad (q + 4)), .int (nI pm), .ref (ad (q + 5)), .ref (ad (q + 6)), .ref (ad (q + 7)), .ref (ad (q + 8)), .int (nI em), .ref (ad (q + 9)), .ref (ad (q + 10)), .ref (ad (q + 11)), .ref (ad (q + 12))])) : MI l yX8_tear wsX8_tear ({ frames := 0, cells := 0, slots := 0, locals := 0 } : Room) G tC ad N E [.ref (ad q)] (fun r E2 => E2 q = .inr (5, [.int (nI 0), .ref (ad (q + 1)), .long se, .ref (ad (q + 2)), .ref (ad (q + 3)), .int (nI co), .ref (ad (q + 4)), .int (nI pm), .ref (ad (q + 5)), .ref (ad (q + 6)), .ref (ad (q + 7)), .ref (ad (q + 8)), .int (nI 0), .ref (ad (q + 9)), .ref (ad (q + 10)), .ref (ad (q + 11)), .ref (ad (q + 12))]) ∧ (∀ j, j ≠ q → E2 j = E j) ∧ r = nI em) := by
  refine MI_of RX8 rfl (by decide) rfl (Nat.le_of_ble_eq_true rfl) ?_
  intro pp_ ee_ ss_ mm_ aa_ bb_ me_ cc_ A ls C hw hl
  have hx := C.1
  have hb := C.2.1
  have hown := C.2.2.2.2.1
  have hts := C.2.2.2.2.2.1
  have hl : lv_has ls 2 [(0, .ref (ad q))] := hl
  have hinX8 : ∀ w ∈ u_ws RX8 TX8 17, w ∈ wsX8_tear := by decide +kernel
  refine lv_aload_n hx hb dX8_tear_0 rfl (lv_at hl 0 rfl) ?_
  refine lv_iconst (v := nI 0) hx hb dX8_tear_1 rfl ?_
  refine r_put C hw RX8 TX8 17 5 hinX8 tyX8 tyX8_ok nmX8 (i := q) (by omega) hE0 rfl 0 (by decide) (by decide +kernel) rfl rfl (v := .int (nI 0)) rfl rfl (Nat.le_of_ble_eq_true rfl) dX8_tear_2 (fun zE1 zH1 zL1 zg1 zf1 zw1 => ?_)
  have zh1_0 : zE1 q = .inr (5, [.int (nI 0), .ref (ad (q + 1)), .long se, .ref (ad (q + 2)), .ref (ad (q + 3)), .int (nI co), .ref (ad (q + 4)), .int (nI pm), .ref (ad (q + 5)), .ref (ad (q + 6)), .ref (ad (q + 7)), .ref (ad (q + 8)), .int (nI em), .ref (ad (q + 9)), .ref (ad (q + 10)), .ref (ad (q + 11)), .ref (ad (q + 12))]) := zg1
  have zfr1 : ∀ j, j ≠ q → zE1 j = E j := fun j zm0 => zf1 j zm0
  refine lv_aload_n hx hb dX8_tear_5 rfl (lv_at hl 0 rfl) ?_
  refine r_get C zw1 RX8 TX8 17 5 hinX8 (i := q) (by omega) zh1_0 rfl 12 (by decide) (by decide +kernel) rfl (v := .int (nI em)) rfl dX8_tear_6 ?_
  refine lv_istore_n (lv' := [(1, .int (nI em)), (0, .ref (ad q))]) hx hb dX8_tear_9 rfl hl (by decide) rfl (fun ls hl => ?_)
  refine lv_aload_n hx hb dX8_tear_10 rfl (lv_at hl 1 rfl) ?_
  refine lv_iconst (v := nI 0) hx hb dX8_tear_11 rfl ?_
  refine r_put C zw1 RX8 TX8 17 5 hinX8 tyX8 tyX8_ok nmX8 (i := q) (by omega) zh1_0 rfl 12 (by decide) (by decide +kernel) rfl rfl (v := .int (nI 0)) rfl rfl (Nat.le_of_ble_eq_true rfl) dX8_tear_12 (fun zE2 zH2 zL2 zg2 zf2 zw2 => ?_)
  have zh2_0 : zE2 q = .inr (5, [.int (nI 0), .ref (ad (q + 1)), .long se, .ref (ad (q + 2)), .ref (ad (q + 3)), .int (nI co), .ref (ad (q + 4)), .int (nI pm), .ref (ad (q + 5)), .ref (ad (q + 6)), .ref (ad (q + 7)), .ref (ad (q + 8)), .int (nI 0), .ref (ad (q + 9)), .ref (ad (q + 10)), .ref (ad (q + 11)), .ref (ad (q + 12))]) := zg2
  have zfr2 : ∀ j, j ≠ q → zE2 j = E j := fun j zm0 => (zf2 j zm0).trans (zfr1 j zm0)
  refine lv_iload_n hx hb dX8_tear_15 rfl (lv_at hl 0 rfl) ?_
  exact r_iret C zw2 dX8_tear_16 ⟨zh2_0, (fun j zm0 => zfr2 j zm0), (by rfl)⟩

set_option maxHeartbeats 4000000 in
set_option maxRecDepth 100000 in
theorem c_X8_seed_y {l : Launch} {G : vG} {tC : Nat} {ad : Nat → Nat} {N : Nat} {E : Nat → va_E} {q co pm em sd : Nat} {th : Int32} {v : Nat} (hN0 : q + 13 ≤ N) (hE0 : E q = .inr (5, [.int th, .ref (ad (q + 1)), .long (lN sd), .ref (ad (q + 2)), .ref (ad (q + 3)), .int (nI co), .ref (ad (q + 4)), .int (nI pm), .ref (ad (q + 5)), .ref (ad (q + 6)), .ref (ad (q + 7)), .ref (ad (q + 8)), .int (nI em), .ref (ad (q + 9)), .ref (ad (q + 10)), .ref (ad (q + 11)), .ref (ad (q + 12))])) (hv : v < 2147483648) : MI l yX8_seed wsX8_seed ({ frames := 0, cells := 0, slots := 0, locals := 0 } : Room) G tC ad N E [.ref (ad q), .int (nI v)] (fun r E2 => E2 q = .inr (5, [.int (nI 0), .ref (ad (q + 1)), .long (lN v), .ref (ad (q + 2)), .ref (ad (q + 3)), .int (nI co), .ref (ad (q + 4)), .int (nI pm), .ref (ad (q + 5)), .ref (ad (q + 6)), .ref (ad (q + 7)), .ref (ad (q + 8)), .int (nI em), .ref (ad (q + 9)), .ref (ad (q + 10)), .ref (ad (q + 11)), .ref (ad (q + 12))]) ∧ (∀ j, j ≠ q → E2 j = E j) ∧ r = nI sd) := by
  refine MI_of RX8 rfl (by decide) rfl (Nat.le_of_ble_eq_true rfl) ?_
  intro pp_ ee_ ss_ mm_ aa_ bb_ me_ cc_ A ls C hw hl
  have hx := C.1
  have hb := C.2.1
  have hown := C.2.2.2.2.1
  have hts := C.2.2.2.2.2.1
  have hl : lv_has ls 3 [(0, .ref (ad q)), (1, .int (nI v))] := hl
  have hinX8 : ∀ w ∈ u_ws RX8 TX8 17, w ∈ wsX8_seed := by decide +kernel
  refine lv_aload_n hx hb dX8_seed_0 rfl (lv_at hl 0 rfl) ?_
  refine lv_iconst (v := nI 0) hx hb dX8_seed_1 rfl ?_
  refine r_put C hw RX8 TX8 17 5 hinX8 tyX8 tyX8_ok nmX8 (i := q) (by omega) hE0 rfl 0 (by decide) (by decide +kernel) rfl rfl (v := .int (nI 0)) rfl rfl (Nat.le_of_ble_eq_true rfl) dX8_seed_2 (fun zE1 zH1 zL1 zg1 zf1 zw1 => ?_)
  have zh1_0 : zE1 q = .inr (5, [.int (nI 0), .ref (ad (q + 1)), .long (lN sd), .ref (ad (q + 2)), .ref (ad (q + 3)), .int (nI co), .ref (ad (q + 4)), .int (nI pm), .ref (ad (q + 5)), .ref (ad (q + 6)), .ref (ad (q + 7)), .ref (ad (q + 8)), .int (nI em), .ref (ad (q + 9)), .ref (ad (q + 10)), .ref (ad (q + 11)), .ref (ad (q + 12))]) := zg1
  have zfr1 : ∀ j, j ≠ q → zE1 j = E j := fun j zm0 => zf1 j zm0
  refine lv_iload_n hx hb dX8_seed_5 rfl (lv_at hl 1 rfl) ?_
  refine n_if_ge (tgt := 12) hx hb dX8_seed_6 (by decide) (by omega) (fun zc6 => ?_) (fun zc6 => ?_)
  · refine lv_aload_n hx hb dX8_seed_12 rfl (lv_at hl 0 rfl) ?_
    refine r_get C zw1 RX8 TX8 17 5 hinX8 (i := q) (by omega) zh1_0 rfl 2 (by decide) (by decide +kernel) rfl (v := .long (lN sd)) rfl dX8_seed_13 ?_
    refine lv_l2i (v := (lN sd).toInt32) hx hb dX8_seed_16 rfl ?_
    refine r_nat sd (lN_i _) ?_
    refine lv_istore_n (lv' := [(2, .int (nI sd)), (0, .ref (ad q)), (1, .int (nI v))]) hx hb dX8_seed_17 rfl hl (by decide) rfl (fun ls hl => ?_)
    refine lv_aload_n hx hb dX8_seed_18 rfl (lv_at hl 1 rfl) ?_
    refine lv_iload_n hx hb dX8_seed_19 rfl (lv_at hl 2 rfl) ?_
    refine lv_i2l (v := (nI v).toInt64) hx hb dX8_seed_20 rfl ?_
    refine r_asL (lN v) (nI_l hv) ?_
    refine r_put C zw1 RX8 TX8 17 5 hinX8 tyX8 tyX8_ok nmX8 (i := q) (by omega) zh1_0 rfl 2 (by decide) (by decide +kernel) rfl rfl (v := .long (lN v)) rfl rfl (Nat.le_of_ble_eq_true rfl) dX8_seed_21 (fun zE2 zH2 zL2 zg2 zf2 zw2 => ?_)
    have zh2_0 : zE2 q = .inr (5, [.int (nI 0), .ref (ad (q + 1)), .long (lN v), .ref (ad (q + 2)), .ref (ad (q + 3)), .int (nI co), .ref (ad (q + 4)), .int (nI pm), .ref (ad (q + 5)), .ref (ad (q + 6)), .ref (ad (q + 7)), .ref (ad (q + 8)), .int (nI em), .ref (ad (q + 9)), .ref (ad (q + 10)), .ref (ad (q + 11)), .ref (ad (q + 12))]) := zg2
    have zfr2 : ∀ j, j ≠ q → zE2 j = E j := fun j zm0 => (zf2 j zm0).trans (zfr1 j zm0)
    refine lv_iload_n hx hb dX8_seed_24 rfl (lv_at hl 0 rfl) ?_
    exact r_iret C zw2 dX8_seed_25 ⟨zh2_0, (fun j zm0 => zfr2 j zm0), (by rfl)⟩
  · exact zc6.elim

set_option maxHeartbeats 4000000 in
set_option maxRecDepth 100000 in
theorem c_X8_seed_n {l : Launch} {G : vG} {tC : Nat} {ad : Nat → Nat} {N : Nat} {E : Nat → va_E} {q co pm em : Nat} {th : Int32} {se : Int64} {v : Int32} (hN0 : q + 13 ≤ N) (hE0 : E q = .inr (5, [.int th, .ref (ad (q + 1)), .long se, .ref (ad (q + 2)), .ref (ad (q + 3)), .int (nI co), .ref (ad (q + 4)), .int (nI pm), .ref (ad (q + 5)), .ref (ad (q + 6)), .ref (ad (q + 7)), .ref (ad (q + 8)), .int (nI em), .ref (ad (q + 9)), .ref (ad (q + 10)), .ref (ad (q + 11)), .ref (ad (q + 12))])) (hno : v < 0) : MI l yX8_seed wsX8_seed ({ frames := 0, cells := 0, slots := 0, locals := 0 } : Room) G tC ad N E [.ref (ad q), .int v] (fun r E2 => E2 q = .inr (5, [.int (nI 0), .ref (ad (q + 1)), .long se, .ref (ad (q + 2)), .ref (ad (q + 3)), .int (nI co), .ref (ad (q + 4)), .int (nI pm), .ref (ad (q + 5)), .ref (ad (q + 6)), .ref (ad (q + 7)), .ref (ad (q + 8)), .int (nI em), .ref (ad (q + 9)), .ref (ad (q + 10)), .ref (ad (q + 11)), .ref (ad (q + 12))]) ∧ (∀ j, j ≠ q → E2 j = E j) ∧ r = -1000000002) := by
  refine MI_of RX8 rfl (by decide) rfl (Nat.le_of_ble_eq_true rfl) ?_
  intro pp_ ee_ ss_ mm_ aa_ bb_ me_ cc_ A ls C hw hl
  have hx := C.1
  have hb := C.2.1
  have hown := C.2.2.2.2.1
  have hts := C.2.2.2.2.2.1
  have hl : lv_has ls 3 [(0, .ref (ad q)), (1, .int v)] := hl
  have hinX8 : ∀ w ∈ u_ws RX8 TX8 17, w ∈ wsX8_seed := by decide +kernel
  refine lv_aload_n hx hb dX8_seed_0 rfl (lv_at hl 0 rfl) ?_
  refine lv_iconst (v := nI 0) hx hb dX8_seed_1 rfl ?_
  refine r_put C hw RX8 TX8 17 5 hinX8 tyX8 tyX8_ok nmX8 (i := q) (by omega) hE0 rfl 0 (by decide) (by decide +kernel) rfl rfl (v := .int (nI 0)) rfl rfl (Nat.le_of_ble_eq_true rfl) dX8_seed_2 (fun zE1 zH1 zL1 zg1 zf1 zw1 => ?_)
  have zh1_0 : zE1 q = .inr (5, [.int (nI 0), .ref (ad (q + 1)), .long se, .ref (ad (q + 2)), .ref (ad (q + 3)), .int (nI co), .ref (ad (q + 4)), .int (nI pm), .ref (ad (q + 5)), .ref (ad (q + 6)), .ref (ad (q + 7)), .ref (ad (q + 8)), .int (nI em), .ref (ad (q + 9)), .ref (ad (q + 10)), .ref (ad (q + 11)), .ref (ad (q + 12))]) := zg1
  have zfr1 : ∀ j, j ≠ q → zE1 j = E j := fun j zm0 => zf1 j zm0
  refine lv_iload_n hx hb dX8_seed_5 rfl (lv_at hl 1 rfl) ?_
  refine lv_if_ge (tgt := 12) hx hb dX8_seed_6 (by decide) (fun zc6 => ?_) (fun zc6 => ?_)
  · exact absurd hno (Int32.not_lt.mpr zc6)
  · refine lv_ldc (v := -1000000002) hx hb hown (hts (.constant RX8 74 (-1000000002)) (by decide +kernel)) dX8_seed_9 ?_
    exact r_iret C zw1 dX8_seed_11 ⟨zh1_0, (fun j zm0 => zfr1 j zm0), (by rfl)⟩

set_option maxHeartbeats 4000000 in
set_option maxRecDepth 100000 in
theorem c_X8_keep_y {l : Launch} {G : vG} {tC : Nat} {ad : Nat → Nat} {N : Nat} {E : Nat → va_E} {q co pm em : Nat} {th : Int32} {se : Int64} {ke : Nat → Int32} {ks : Nat → Int64} {ik : Nat → Int32} {s : Nat → Int32} {i : Nat} (hN0 : q + 13 ≤ N) (hE0 : E q = .inr (5, [.int th, .ref (ad (q + 1)), .long se, .ref (ad (q + 2)), .ref (ad (q + 3)), .int (nI co), .ref (ad (q + 4)), .int (nI pm), .ref (ad (q + 5)), .ref (ad (q + 6)), .ref (ad (q + 7)), .ref (ad (q + 8)), .int (nI em), .ref (ad (q + 9)), .ref (ad (q + 10)), .ref (ad (q + 11)), .ref (ad (q + 12))])) (hE1 : E (q + 1) = eI G 508 s) (hE2 : E (q + 5) = eI G 1016 ke) (hE3 : E (q + 6) = eJ G 2 ks) (hE4 : E (q + 7) = eZ G 2 ik) (hi : i ≤ 1) : MI l yX8_keep wsX8_keep ({ frames := 1, cells := 0, slots := 0, locals := 25 } : Room) G tC ad N E [.ref (ad q), .int (nI i)] (fun r E2 => E2 q = .inr (5, [.int (nI 0), .ref (ad (q + 1)), .long se, .ref (ad (q + 2)), .ref (ad (q + 3)), .int (nI co), .ref (ad (q + 4)), .int (nI 0), .ref (ad (q + 5)), .ref (ad (q + 6)), .ref (ad (q + 7)), .ref (ad (q + 8)), .int (nI em), .ref (ad (q + 9)), .ref (ad (q + 10)), .ref (ad (q + 11)), .ref (ad (q + 12))]) ∧ E2 (q + 5) = eI G 1016 (va_cpy s ke 0 (508 * i) 508) ∧ E2 (q + 6) = eJ G 2 (vp_updL ks i se) ∧ E2 (q + 7) = eZ G 2 (upd ik i (nI 1)) ∧ (∀ j, j ≠ q → j ≠ (q + 5) → j ≠ (q + 6) → j ≠ (q + 7) → E2 j = E j) ∧ r = nI 1) := by
  refine MI_of RX8 rfl (by decide) rfl (Nat.le_of_ble_eq_true rfl) ?_
  intro pp_ ee_ ss_ mm_ aa_ bb_ me_ cc_ A ls C hw hl
  have hx := C.1
  have hb := C.2.1
  have hown := C.2.2.2.2.1
  have hts := C.2.2.2.2.2.1
  have hl : lv_has ls 3 [(0, .ref (ad q)), (1, .int (nI i))] := hl
  have hinX8 : ∀ w ∈ u_ws RX8 TX8 17, w ∈ wsX8_keep := by decide +kernel
  refine lv_aload_n hx hb dX8_keep_0 rfl (lv_at hl 0 rfl) ?_
  refine lv_iconst (v := nI 0) hx hb dX8_keep_1 rfl ?_
  refine r_put C hw RX8 TX8 17 5 hinX8 tyX8 tyX8_ok nmX8 (i := q) (by omega) hE0 rfl 0 (by decide) (by decide +kernel) rfl rfl (v := .int (nI 0)) rfl rfl (Nat.le_of_ble_eq_true rfl) dX8_keep_2 (fun zE1 zH1 zL1 zg1 zf1 zw1 => ?_)
  have zh1_0 : zE1 q = .inr (5, [.int (nI 0), .ref (ad (q + 1)), .long se, .ref (ad (q + 2)), .ref (ad (q + 3)), .int (nI co), .ref (ad (q + 4)), .int (nI pm), .ref (ad (q + 5)), .ref (ad (q + 6)), .ref (ad (q + 7)), .ref (ad (q + 8)), .int (nI em), .ref (ad (q + 9)), .ref (ad (q + 10)), .ref (ad (q + 11)), .ref (ad (q + 12))]) := zg1
  have zk1_0 : zE1 (q + 1) = eI G 508 s := (zf1 _ (by omega)).trans hE1
  have zk1_1 : zE1 (q + 5) = eI G 1016 ke := (zf1 _ (by omega)).trans hE2
  have zk1_2 : zE1 (q + 6) = eJ G 2 ks := (zf1 _ (by omega)).trans hE3
  have zk1_3 : zE1 (q + 7) = eZ G 2 ik := (zf1 _ (by omega)).trans hE4
  have zfr1 : ∀ j, j ≠ q → zE1 j = E j := fun j zm0 => zf1 j zm0
  refine lv_iload_n hx hb dX8_keep_5 rfl (lv_at hl 1 rfl) ?_
  refine lv_i2l (v := (nI i).toInt64) hx hb dX8_keep_6 rfl ?_
  refine lv_lconst (v := (nI 0).toInt64) hx hb dX8_keep_7 (by decide) ?_
  refine lv_lconst (v := (nI 1).toInt64) hx hb dX8_keep_8 (by decide) ?_
  refine r_sI C zw1 hl.1 [.long ((nI i).toInt64), .long ((nI 0).toInt64), .long ((nI 1).toInt64)] 3 rfl (c_X8_in (l := l) (G := G) (tC := tC) (ad := ad) (N := N) (E := zE1) (x := (nI i)) (a := (nI 0)) (b := (nI 1))   ) gX8_keep_X8_in rfl ⟨rfl, rfl⟩ (by decide +kernel) ⟨Nat.le_of_ble_eq_true rfl, Nat.le_of_ble_eq_true rfl⟩ (rest := []) rfl (Nat.le_of_ble_eq_true rfl) dX8_keep_9 ⟨Nat.zero_le _, Nat.zero_le _⟩ (fun zr2 zE2 zH2 zL2 zp2 zw2 => ?_)
  obtain ⟨ze2, zq2⟩ := zp2
  rw [ze2] at zw2
  clear ze2
  rw [zq2]
  refine b_if_ne (tgt := 18) hx hb dX8_keep_12 (by decide) (fun zc12 => ?_) (fun zc12 => ?_)
  · refine lv_iconst (v := nI 0) hx hb dX8_keep_18 rfl ?_
    refine lv_istore_n (lv' := [(2, .int (nI 0)), (0, .ref (ad q)), (1, .int (nI i))]) hx hb dX8_keep_19 rfl hl (by decide) rfl (fun ls hl => ?_)
    have zlp20 : ∀ (zn : Nat) (z : Nat) (g : Nat → Int32), 508 - z < zn → (z ≤ 508) → (g = va_cpy s ke 0 (508 * i) z) → ∀ (E9 : Nat → va_E) (H9 : Heap) (L9 : List Loc), E9 (q + 1) = eI G 508 s → E9 (q + 5) = eI G 1016 g → E9 (q + 6) = eJ G 2 ks → E9 (q + 7) = eZ G 2 ik → E9 q = .inr (5, [.int (nI 0), .ref (ad (q + 1)), .long se, .ref (ad (q + 2)), .ref (ad (q + 3)), .int (nI co), .ref (ad (q + 4)), .int (nI pm), .ref (ad (q + 5)), .ref (ad (q + 6)), .ref (ad (q + 7)), .ref (ad (q + 8)), .int (nI em), .ref (ad (q + 9)), .ref (ad (q + 10)), .ref (ad (q + 11)), .ref (ad (q + 12))]) → (∀ j, j ≠ q → j ≠ (q + 5) → E9 j = E j) → Wd G A ss_.heap H9 L9 ad E9 N → ∀ (ls : Array Slot), lv_has ls 3 [(0, .ref (ad q)), (1, .int (nI i)), (2, .int (nI z))] → W pp_ l ee_ ({ frames := 1, cells := 0, slots := 0, locals := 25 } : Room) ss_ mm_ aa_ bb_ me_ cc_ H9 L9 0 0 (QI bb_ aa_ ss_ G ad N A (fun r E2 => E2 q = .inr (5, [.int (nI 0), .ref (ad (q + 1)), .long se, .ref (ad (q + 2)), .ref (ad (q + 3)), .int (nI co), .ref (ad (q + 4)), .int (nI 0), .ref (ad (q + 5)), .ref (ad (q + 6)), .ref (ad (q + 7)), .ref (ad (q + 8)), .int (nI em), .ref (ad (q + 9)), .ref (ad (q + 10)), .ref (ad (q + 11)), .ref (ad (q + 12))]) ∧ E2 (q + 5) = eI G 1016 (va_cpy s ke 0 (508 * i) 508) ∧ E2 (q + 6) = eJ G 2 (vp_updL ks i se) ∧ E2 (q + 7) = eZ G 2 (upd ik i (nI 1)) ∧ (∀ j, j ≠ q → j ≠ (q + 5) → j ≠ (q + 6) → j ≠ (q + 7) → E2 j = E j) ∧ r = nI 1)) (F0 mm_ 20 ls []) := by
      intro zn
      induction zn with
      | zero => intro z g zhm; exact absurd zhm (Nat.not_lt_zero _)
      | succ zn zih20 =>
        intro z g zhm20 hz hg zE_20 zH_20 zL_20 zl20_0 zl20_1 zl20_2 zl20_3 zl20_4 zlf20  zlw20 ls hl
        refine lv_iload_n hx hb dX8_keep_20 rfl (lv_at hl 2 rfl) ?_
        refine lv_sipush (v := nI 508) hx hb dX8_keep_21 rfl ?_
        refine n_icmp_ge (tgt := 51) hx hb dX8_keep_24 (by decide) (by omega) (by omega) (fun zc24 => ?_) (fun zc24 => ?_)
        · refine lv_aload_n hx hb dX8_keep_51 rfl (lv_at hl 0 rfl) ?_
          refine r_get C zlw20 RX8 TX8 17 5 hinX8 (i := q) (by omega) zl20_4 rfl 9 (by decide) (by decide +kernel) rfl (v := .ref (ad (q + 6))) rfl dX8_keep_52 ?_
          refine lv_iload_n hx hb dX8_keep_55 rfl (lv_at hl 1 rfl) ?_
          refine lv_aload_n hx hb dX8_keep_56 rfl (lv_at hl 0 rfl) ?_
          refine r_get C zlw20 RX8 TX8 17 5 hinX8 (i := q) (by omega) zl20_4 rfl 2 (by decide) (by decide +kernel) rfl (v := .long se) rfl dX8_keep_57 ?_
          refine r_lasN C zlw20 (i := (q + 6)) (by omega) zl20_2 (j := i) (by omega) (by omega) dX8_keep_60 (fun zE3 zH3 zL3 zg3 zf3 zw3 => ?_)
          have zh3_0 : zE3 (q + 6) = eJ G 2 (vp_updL ks i se) := zg3
          have zk3_0 : zE3 (q + 1) = eI G 508 s := (zf3 _ (by omega)).trans zl20_0
          have zk3_1 : zE3 (q + 5) = eI G 1016 g := (zf3 _ (by omega)).trans zl20_1
          have zk3_2 : zE3 (q + 7) = eZ G 2 ik := (zf3 _ (by omega)).trans zl20_3
          have zk3_3 : zE3 q = .inr (5, [.int (nI 0), .ref (ad (q + 1)), .long se, .ref (ad (q + 2)), .ref (ad (q + 3)), .int (nI co), .ref (ad (q + 4)), .int (nI pm), .ref (ad (q + 5)), .ref (ad (q + 6)), .ref (ad (q + 7)), .ref (ad (q + 8)), .int (nI em), .ref (ad (q + 9)), .ref (ad (q + 10)), .ref (ad (q + 11)), .ref (ad (q + 12))]) := (zf3 _ (by omega)).trans zl20_4
          have zfr3 : ∀ j, j ≠ q → j ≠ (q + 5) → j ≠ (q + 6) → zE3 j = E j := fun j zm0 zm1 zm2 => (zf3 j zm2).trans (zlf20 j zm0 zm1)
          refine lv_aload_n hx hb dX8_keep_61 rfl (lv_at hl 0 rfl) ?_
          refine r_get C zw3 RX8 TX8 17 5 hinX8 (i := q) (by omega) zk3_3 rfl 10 (by decide) (by decide +kernel) rfl (v := .ref (ad (q + 7))) rfl dX8_keep_62 ?_
          refine lv_iload_n hx hb dX8_keep_65 rfl (lv_at hl 1 rfl) ?_
          refine lv_iconst (v := nI 1) hx hb dX8_keep_66 rfl ?_
          refine r_zasN C zw3 (i := (q + 7)) (by omega) zk3_2 (j := i) (by omega) (by omega) dX8_keep_67 (fun zE4 zH4 zL4 zg4 zf4 zw4 => ?_)
          have zh4_0 : zE4 (q + 7) = eZ G 2 (upd ik i (vp_nar .boolean (nI 1))) := zg4
          have zk4_0 : zE4 (q + 1) = eI G 508 s := (zf4 _ (by omega)).trans zk3_0
          have zk4_1 : zE4 (q + 5) = eI G 1016 g := (zf4 _ (by omega)).trans zk3_1
          have zk4_2 : zE4 q = .inr (5, [.int (nI 0), .ref (ad (q + 1)), .long se, .ref (ad (q + 2)), .ref (ad (q + 3)), .int (nI co), .ref (ad (q + 4)), .int (nI pm), .ref (ad (q + 5)), .ref (ad (q + 6)), .ref (ad (q + 7)), .ref (ad (q + 8)), .int (nI em), .ref (ad (q + 9)), .ref (ad (q + 10)), .ref (ad (q + 11)), .ref (ad (q + 12))]) := (zf4 _ (by omega)).trans zk3_3
          have zk4_3 : zE4 (q + 6) = eJ G 2 (vp_updL ks i se) := (zf4 _ (by omega)).trans zh3_0
          have zfr4 : ∀ j, j ≠ q → j ≠ (q + 5) → j ≠ (q + 6) → j ≠ (q + 7) → zE4 j = E j := fun j zm0 zm1 zm2 zm3 => (zf4 j zm3).trans (zfr3 j zm0 zm1 zm2)
          refine lv_aload_n hx hb dX8_keep_68 rfl (lv_at hl 0 rfl) ?_
          refine lv_iconst (v := nI 0) hx hb dX8_keep_69 rfl ?_
          refine r_put C zw4 RX8 TX8 17 5 hinX8 tyX8 tyX8_ok nmX8 (i := q) (by omega) zk4_2 rfl 7 (by decide) (by decide +kernel) rfl rfl (v := .int (nI 0)) rfl rfl (Nat.le_of_ble_eq_true rfl) dX8_keep_70 (fun zE5 zH5 zL5 zg5 zf5 zw5 => ?_)
          have zh5_0 : zE5 q = .inr (5, [.int (nI 0), .ref (ad (q + 1)), .long se, .ref (ad (q + 2)), .ref (ad (q + 3)), .int (nI co), .ref (ad (q + 4)), .int (nI 0), .ref (ad (q + 5)), .ref (ad (q + 6)), .ref (ad (q + 7)), .ref (ad (q + 8)), .int (nI em), .ref (ad (q + 9)), .ref (ad (q + 10)), .ref (ad (q + 11)), .ref (ad (q + 12))]) := zg5
          have zk5_0 : zE5 (q + 1) = eI G 508 s := (zf5 _ (by omega)).trans zk4_0
          have zk5_1 : zE5 (q + 5) = eI G 1016 g := (zf5 _ (by omega)).trans zk4_1
          have zk5_2 : zE5 (q + 6) = eJ G 2 (vp_updL ks i se) := (zf5 _ (by omega)).trans zk4_3
          have zk5_3 : zE5 (q + 7) = eZ G 2 (upd ik i (vp_nar .boolean (nI 1))) := (zf5 _ (by omega)).trans zh4_0
          have zfr5 : ∀ j, j ≠ q → j ≠ (q + 5) → j ≠ (q + 6) → j ≠ (q + 7) → zE5 j = E j := fun j zm0 zm1 zm2 zm3 => (zf5 j zm0).trans (zfr4 j zm0 zm1 zm2 zm3)
          refine lv_iconst (v := nI 1) hx hb dX8_keep_73 rfl ?_
          exact r_iret C zw5 dX8_keep_74 ⟨zh5_0, (zk5_1.trans (by rw [hg, show z = 508 by omega])), zk5_2, zk5_3, (fun j zm0 zm1 zm2 zm3 => zfr5 j zm0 zm1 zm2 zm3), (by rfl)⟩
        · refine lv_aload_n hx hb dX8_keep_27 rfl (lv_at hl 0 rfl) ?_
          refine r_get C zlw20 RX8 TX8 17 5 hinX8 (i := q) (by omega) zl20_4 rfl 8 (by decide) (by decide +kernel) rfl (v := .ref (ad (q + 5))) rfl dX8_keep_28 ?_
          refine lv_sipush (v := nI 508) hx hb dX8_keep_31 rfl ?_
          refine lv_iload_n hx hb dX8_keep_34 rfl (lv_at hl 1 rfl) ?_
          refine lv_imul hx hb dX8_keep_35 ?_
          refine r_nat (508 * i) (pk_mul _ _) ?_
          refine lv_iload_n hx hb dX8_keep_36 rfl (lv_at hl 2 rfl) ?_
          refine lv_iadd hx hb dX8_keep_37 ?_
          refine r_nat (508 * i + z) (nI_add _ _) ?_
          refine lv_aload_n hx hb dX8_keep_38 rfl (lv_at hl 0 rfl) ?_
          refine r_get C zlw20 RX8 TX8 17 5 hinX8 (i := q) (by omega) zl20_4 rfl 1 (by decide) (by decide +kernel) rfl (v := .ref (ad (q + 1))) rfl dX8_keep_39 ?_
          refine lv_iload_n hx hb dX8_keep_42 rfl (lv_at hl 2 rfl) ?_
          refine r_iaN C zlw20 (i := (q + 1)) (by omega) zl20_0 (j := z) (by omega) (by omega) dX8_keep_43 ?_
          refine r_iasN C zlw20 (i := (q + 5)) (by omega) zl20_1 (j := 508 * i + z) (by omega) (by omega) dX8_keep_44 (fun zE6 zH6 zL6 zg6 zf6 zw6 => ?_)
          have zh6_0 : zE6 (q + 5) = eI G 1016 (upd g (508 * i + z) (s z)) := zg6
          have zk6_0 : zE6 (q + 1) = eI G 508 s := (zf6 _ (by omega)).trans zl20_0
          have zk6_1 : zE6 (q + 6) = eJ G 2 ks := (zf6 _ (by omega)).trans zl20_2
          have zk6_2 : zE6 (q + 7) = eZ G 2 ik := (zf6 _ (by omega)).trans zl20_3
          have zk6_3 : zE6 q = .inr (5, [.int (nI 0), .ref (ad (q + 1)), .long se, .ref (ad (q + 2)), .ref (ad (q + 3)), .int (nI co), .ref (ad (q + 4)), .int (nI pm), .ref (ad (q + 5)), .ref (ad (q + 6)), .ref (ad (q + 7)), .ref (ad (q + 8)), .int (nI em), .ref (ad (q + 9)), .ref (ad (q + 10)), .ref (ad (q + 11)), .ref (ad (q + 12))]) := (zf6 _ (by omega)).trans zl20_4
          have zfr6 : ∀ j, j ≠ q → j ≠ (q + 5) → zE6 j = E j := fun j zm0 zm1 => (zf6 j zm1).trans (zlf20 j zm0 zm1)
          refine lv_iinc (v := nI (z + 1)) (lv' := [(2, .int (nI (z + 1))), (0, .ref (ad q)), (1, .int (nI i))]) hx hb dX8_keep_45 hl (k := 2) rfl (by rw [show Int32.ofInt 1 = nI 1 from rfl, nI_add]) (by decide) rfl (fun ls hl => ?_)
          refine lv_goto (tgt := 20) hx hb dX8_keep_48 (by decide) ?_
          exact zih20 (z + 1) (upd g (508 * i + z) (s z)) (by omega) (by omega) (by rw [hg]; have zc9 := cpy_s s ke 0 (508 * i) z; rw [Nat.zero_add] at zc9; exact zc9) _ _ _ zk6_0 zh6_0 zk6_1 zk6_2 zk6_3 (fun j zm0 zm1 => zfr6 j zm0 zm1) zw6 _ (lv_sub hl [1, 2, 0] rfl)
    exact zlp20 _ 0 ke (Nat.lt_succ_self _) (by omega) (by exact (cpy_0 _ _ _ _).symm) _ _ _ zk1_0 zk1_1 zk1_2 zk1_3 zh1_0 (fun j zm0 zm1 => zfr1 j zm0) zw2 _ (lv_sub hl [1, 2, 0] rfl)
  · exact absurd (in_nI hi (by omega)) zc12

set_option maxHeartbeats 4000000 in
set_option maxRecDepth 100000 in
theorem c_X8_keep_n {l : Launch} {G : vG} {tC : Nat} {ad : Nat → Nat} {N : Nat} {E : Nat → va_E} {q co pm em : Nat} {th : Int32} {se : Int64} {i : Int32} (hN0 : q + 13 ≤ N) (hE0 : E q = .inr (5, [.int th, .ref (ad (q + 1)), .long se, .ref (ad (q + 2)), .ref (ad (q + 3)), .int (nI co), .ref (ad (q + 4)), .int (nI pm), .ref (ad (q + 5)), .ref (ad (q + 6)), .ref (ad (q + 7)), .ref (ad (q + 8)), .int (nI em), .ref (ad (q + 9)), .ref (ad (q + 10)), .ref (ad (q + 11)), .ref (ad (q + 12))])) (hno : ¬ (nI 0 ≤ i ∧ i ≤ nI 1)) : MI l yX8_keep wsX8_keep ({ frames := 1, cells := 0, slots := 0, locals := 25 } : Room) G tC ad N E [.ref (ad q), .int i] (fun r E2 => E2 q = .inr (5, [.int (nI 0), .ref (ad (q + 1)), .long se, .ref (ad (q + 2)), .ref (ad (q + 3)), .int (nI co), .ref (ad (q + 4)), .int (nI pm), .ref (ad (q + 5)), .ref (ad (q + 6)), .ref (ad (q + 7)), .ref (ad (q + 8)), .int (nI em), .ref (ad (q + 9)), .ref (ad (q + 10)), .ref (ad (q + 11)), .ref (ad (q + 12))]) ∧ (∀ j, j ≠ q → E2 j = E j) ∧ r = -1000000001) := by
  refine MI_of RX8 rfl (by decide) rfl (Nat.le_of_ble_eq_true rfl) ?_
  intro pp_ ee_ ss_ mm_ aa_ bb_ me_ cc_ A ls C hw hl
  have hx := C.1
  have hb := C.2.1
  have hown := C.2.2.2.2.1
  have hts := C.2.2.2.2.2.1
  have hl : lv_has ls 3 [(0, .ref (ad q)), (1, .int i)] := hl
  have hinX8 : ∀ w ∈ u_ws RX8 TX8 17, w ∈ wsX8_keep := by decide +kernel
  refine lv_aload_n hx hb dX8_keep_0 rfl (lv_at hl 0 rfl) ?_
  refine lv_iconst (v := nI 0) hx hb dX8_keep_1 rfl ?_
  refine r_put C hw RX8 TX8 17 5 hinX8 tyX8 tyX8_ok nmX8 (i := q) (by omega) hE0 rfl 0 (by decide) (by decide +kernel) rfl rfl (v := .int (nI 0)) rfl rfl (Nat.le_of_ble_eq_true rfl) dX8_keep_2 (fun zE1 zH1 zL1 zg1 zf1 zw1 => ?_)
  have zh1_0 : zE1 q = .inr (5, [.int (nI 0), .ref (ad (q + 1)), .long se, .ref (ad (q + 2)), .ref (ad (q + 3)), .int (nI co), .ref (ad (q + 4)), .int (nI pm), .ref (ad (q + 5)), .ref (ad (q + 6)), .ref (ad (q + 7)), .ref (ad (q + 8)), .int (nI em), .ref (ad (q + 9)), .ref (ad (q + 10)), .ref (ad (q + 11)), .ref (ad (q + 12))]) := zg1
  have zfr1 : ∀ j, j ≠ q → zE1 j = E j := fun j zm0 => zf1 j zm0
  refine lv_iload_n hx hb dX8_keep_5 rfl (lv_at hl 1 rfl) ?_
  refine lv_i2l (v := i.toInt64) hx hb dX8_keep_6 rfl ?_
  refine lv_lconst (v := (nI 0).toInt64) hx hb dX8_keep_7 (by decide) ?_
  refine lv_lconst (v := (nI 1).toInt64) hx hb dX8_keep_8 (by decide) ?_
  refine r_sI C zw1 hl.1 [.long i.toInt64, .long ((nI 0).toInt64), .long ((nI 1).toInt64)] 3 rfl (c_X8_in (l := l) (G := G) (tC := tC) (ad := ad) (N := N) (E := zE1) (x := i) (a := (nI 0)) (b := (nI 1))   ) gX8_keep_X8_in rfl ⟨rfl, rfl⟩ (by decide +kernel) ⟨Nat.le_of_ble_eq_true rfl, Nat.le_of_ble_eq_true rfl⟩ (rest := []) rfl (Nat.le_of_ble_eq_true rfl) dX8_keep_9 ⟨Nat.zero_le _, Nat.zero_le _⟩ (fun zr2 zE2 zH2 zL2 zp2 zw2 => ?_)
  obtain ⟨ze2, zq2⟩ := zp2
  rw [ze2] at zw2
  clear ze2
  rw [zq2]
  refine b_if_ne (tgt := 18) hx hb dX8_keep_12 (by decide) (fun zc12 => ?_) (fun zc12 => ?_)
  · exact absurd zc12 hno
  · refine lv_ldc (v := -1000000001) hx hb hown (hts (.constant RX8 156 (-1000000001)) (by decide +kernel)) dX8_keep_15 ?_
    exact r_iret C zw2 dX8_keep_17 ⟨zh1_0, (fun j zm0 => zfr1 j zm0), (by rfl)⟩

set_option maxHeartbeats 4000000 in
set_option maxRecDepth 100000 in
theorem c_X8_goBack_y {l : Launch} {G : vG} {tC : Nat} {ad : Nat → Nat} {N : Nat} {E : Nat → va_E} {q co pm em : Nat} {th : Int32} {se : Int64} {ke : Nat → Int32} {ks : Nat → Int64} {ik : Nat → Int32} {s : Nat → Int32} {i : Nat} (hN0 : q + 13 ≤ N) (hE0 : E q = .inr (5, [.int th, .ref (ad (q + 1)), .long se, .ref (ad (q + 2)), .ref (ad (q + 3)), .int (nI co), .ref (ad (q + 4)), .int (nI pm), .ref (ad (q + 5)), .ref (ad (q + 6)), .ref (ad (q + 7)), .ref (ad (q + 8)), .int (nI em), .ref (ad (q + 9)), .ref (ad (q + 10)), .ref (ad (q + 11)), .ref (ad (q + 12))])) (hE1 : E (q + 1) = eI G 508 s) (hE2 : E (q + 5) = eI G 1016 ke) (hE3 : E (q + 6) = eJ G 2 ks) (hE4 : E (q + 7) = eZ G 2 ik) (hi : i ≤ 1) (hik : ik i = nI 1) : MI l yX8_goBack wsX8_goBack ({ frames := 1, cells := 0, slots := 0, locals := 25 } : Room) G tC ad N E [.ref (ad q), .int (nI i)] (fun r E2 => E2 q = .inr (5, [.int (nI 0), .ref (ad (q + 1)), .long (ks i), .ref (ad (q + 2)), .ref (ad (q + 3)), .int (nI co), .ref (ad (q + 4)), .int (nI 0), .ref (ad (q + 5)), .ref (ad (q + 6)), .ref (ad (q + 7)), .ref (ad (q + 8)), .int (nI em), .ref (ad (q + 9)), .ref (ad (q + 10)), .ref (ad (q + 11)), .ref (ad (q + 12))]) ∧ E2 (q + 1) = eI G 508 (slc ke i) ∧ (∀ j, j ≠ q → j ≠ (q + 1) → E2 j = E j) ∧ r = nI 1) := by
  refine MI_of RX8 rfl (by decide) rfl (Nat.le_of_ble_eq_true rfl) ?_
  intro pp_ ee_ ss_ mm_ aa_ bb_ me_ cc_ A ls C hw hl
  have hx := C.1
  have hb := C.2.1
  have hown := C.2.2.2.2.1
  have hts := C.2.2.2.2.2.1
  have hl : lv_has ls 3 [(0, .ref (ad q)), (1, .int (nI i))] := hl
  have hinX8 : ∀ w ∈ u_ws RX8 TX8 17, w ∈ wsX8_goBack := by decide +kernel
  refine lv_aload_n hx hb dX8_goBack_0 rfl (lv_at hl 0 rfl) ?_
  refine lv_iconst (v := nI 0) hx hb dX8_goBack_1 rfl ?_
  refine r_put C hw RX8 TX8 17 5 hinX8 tyX8 tyX8_ok nmX8 (i := q) (by omega) hE0 rfl 0 (by decide) (by decide +kernel) rfl rfl (v := .int (nI 0)) rfl rfl (Nat.le_of_ble_eq_true rfl) dX8_goBack_2 (fun zE1 zH1 zL1 zg1 zf1 zw1 => ?_)
  have zh1_0 : zE1 q = .inr (5, [.int (nI 0), .ref (ad (q + 1)), .long se, .ref (ad (q + 2)), .ref (ad (q + 3)), .int (nI co), .ref (ad (q + 4)), .int (nI pm), .ref (ad (q + 5)), .ref (ad (q + 6)), .ref (ad (q + 7)), .ref (ad (q + 8)), .int (nI em), .ref (ad (q + 9)), .ref (ad (q + 10)), .ref (ad (q + 11)), .ref (ad (q + 12))]) := zg1
  have zk1_0 : zE1 (q + 1) = eI G 508 s := (zf1 _ (by omega)).trans hE1
  have zk1_1 : zE1 (q + 5) = eI G 1016 ke := (zf1 _ (by omega)).trans hE2
  have zk1_2 : zE1 (q + 6) = eJ G 2 ks := (zf1 _ (by omega)).trans hE3
  have zk1_3 : zE1 (q + 7) = eZ G 2 ik := (zf1 _ (by omega)).trans hE4
  have zfr1 : ∀ j, j ≠ q → zE1 j = E j := fun j zm0 => zf1 j zm0
  refine lv_iload_n hx hb dX8_goBack_5 rfl (lv_at hl 1 rfl) ?_
  refine lv_i2l (v := (nI i).toInt64) hx hb dX8_goBack_6 rfl ?_
  refine lv_lconst (v := (nI 0).toInt64) hx hb dX8_goBack_7 (by decide) ?_
  refine lv_lconst (v := (nI 1).toInt64) hx hb dX8_goBack_8 (by decide) ?_
  refine r_sI C zw1 hl.1 [.long ((nI i).toInt64), .long ((nI 0).toInt64), .long ((nI 1).toInt64)] 3 rfl (c_X8_in (l := l) (G := G) (tC := tC) (ad := ad) (N := N) (E := zE1) (x := (nI i)) (a := (nI 0)) (b := (nI 1))   ) gX8_goBack_X8_in rfl ⟨rfl, rfl⟩ (by decide +kernel) ⟨Nat.le_of_ble_eq_true rfl, Nat.le_of_ble_eq_true rfl⟩ (rest := []) rfl (Nat.le_of_ble_eq_true rfl) dX8_goBack_9 ⟨Nat.zero_le _, Nat.zero_le _⟩ (fun zr2 zE2 zH2 zL2 zp2 zw2 => ?_)
  obtain ⟨ze2, zq2⟩ := zp2
  rw [ze2] at zw2
  clear ze2
  rw [zq2]
  refine b_if_ne (tgt := 18) hx hb dX8_goBack_12 (by decide) (fun zc12 => ?_) (fun zc12 => ?_)
  · refine lv_aload_n hx hb dX8_goBack_18 rfl (lv_at hl 0 rfl) ?_
    refine r_get C zw2 RX8 TX8 17 5 hinX8 (i := q) (by omega) zh1_0 rfl 10 (by decide) (by decide +kernel) rfl (v := .ref (ad (q + 7))) rfl dX8_goBack_19 ?_
    refine lv_iload_n hx hb dX8_goBack_22 rfl (lv_at hl 1 rfl) ?_
    refine r_zaN C zw2 (i := (q + 7)) (by omega) zk1_3 (j := i) (by omega) (by omega) dX8_goBack_23 ?_
    refine r_nat 1 hik ?_
    refine n_if_ne (tgt := 30) hx hb dX8_goBack_24 (by decide) (by omega) (fun zc24 => ?_) (fun zc24 => ?_)
    · refine lv_iconst (v := nI 0) hx hb dX8_goBack_30 rfl ?_
      refine lv_istore_n (lv' := [(2, .int (nI 0)), (0, .ref (ad q)), (1, .int (nI i))]) hx hb dX8_goBack_31 rfl hl (by decide) rfl (fun ls hl => ?_)
      have zlp32 : ∀ (zn : Nat) (z : Nat) (g : Nat → Int32), 508 - z < zn → (z ≤ 508) → (g = va_cpy ke s (508 * i) 0 z) → ∀ (E9 : Nat → va_E) (H9 : Heap) (L9 : List Loc), E9 (q + 1) = eI G 508 g → E9 (q + 5) = eI G 1016 ke → E9 (q + 6) = eJ G 2 ks → E9 (q + 7) = eZ G 2 ik → E9 q = .inr (5, [.int (nI 0), .ref (ad (q + 1)), .long se, .ref (ad (q + 2)), .ref (ad (q + 3)), .int (nI co), .ref (ad (q + 4)), .int (nI pm), .ref (ad (q + 5)), .ref (ad (q + 6)), .ref (ad (q + 7)), .ref (ad (q + 8)), .int (nI em), .ref (ad (q + 9)), .ref (ad (q + 10)), .ref (ad (q + 11)), .ref (ad (q + 12))]) → (∀ j, j ≠ q → j ≠ (q + 1) → E9 j = E j) → Wd G A ss_.heap H9 L9 ad E9 N → ∀ (ls : Array Slot), lv_has ls 3 [(0, .ref (ad q)), (1, .int (nI i)), (2, .int (nI z))] → W pp_ l ee_ ({ frames := 1, cells := 0, slots := 0, locals := 25 } : Room) ss_ mm_ aa_ bb_ me_ cc_ H9 L9 0 0 (QI bb_ aa_ ss_ G ad N A (fun r E2 => E2 q = .inr (5, [.int (nI 0), .ref (ad (q + 1)), .long (ks i), .ref (ad (q + 2)), .ref (ad (q + 3)), .int (nI co), .ref (ad (q + 4)), .int (nI 0), .ref (ad (q + 5)), .ref (ad (q + 6)), .ref (ad (q + 7)), .ref (ad (q + 8)), .int (nI em), .ref (ad (q + 9)), .ref (ad (q + 10)), .ref (ad (q + 11)), .ref (ad (q + 12))]) ∧ E2 (q + 1) = eI G 508 (slc ke i) ∧ (∀ j, j ≠ q → j ≠ (q + 1) → E2 j = E j) ∧ r = nI 1)) (F0 mm_ 32 ls []) := by
        intro zn
        induction zn with
        | zero => intro z g zhm; exact absurd zhm (Nat.not_lt_zero _)
        | succ zn zih32 =>
          intro z g zhm32 hz hg zE_32 zH_32 zL_32 zl32_0 zl32_1 zl32_2 zl32_3 zl32_4 zlf32  zlw32 ls hl
          refine lv_iload_n hx hb dX8_goBack_32 rfl (lv_at hl 2 rfl) ?_
          refine lv_sipush (v := nI 508) hx hb dX8_goBack_33 rfl ?_
          refine n_icmp_ge (tgt := 63) hx hb dX8_goBack_36 (by decide) (by omega) (by omega) (fun zc36 => ?_) (fun zc36 => ?_)
          · refine r_congI zlw32 (i := (q + 1)) (by omega) zl32_0 (f2 := slc ke i) (fun j hj => by rw [hg, show z = 508 by omega]; exact cpy_slc j hj) (fun zE3 zg3 zf3 zw3 => ?_)
            have zh3_0 : zE3 (q + 1) = eI G 508 (slc ke i) := zg3
            have zk3_0 : zE3 (q + 5) = eI G 1016 ke := (zf3 _ (by omega)).trans zl32_1
            have zk3_1 : zE3 (q + 6) = eJ G 2 ks := (zf3 _ (by omega)).trans zl32_2
            have zk3_2 : zE3 (q + 7) = eZ G 2 ik := (zf3 _ (by omega)).trans zl32_3
            have zk3_3 : zE3 q = .inr (5, [.int (nI 0), .ref (ad (q + 1)), .long se, .ref (ad (q + 2)), .ref (ad (q + 3)), .int (nI co), .ref (ad (q + 4)), .int (nI pm), .ref (ad (q + 5)), .ref (ad (q + 6)), .ref (ad (q + 7)), .ref (ad (q + 8)), .int (nI em), .ref (ad (q + 9)), .ref (ad (q + 10)), .ref (ad (q + 11)), .ref (ad (q + 12))]) := (zf3 _ (by omega)).trans zl32_4
            have zfr3 : ∀ j, j ≠ q → j ≠ (q + 1) → zE3 j = E j := fun j zm0 zm1 => (zf3 j zm1).trans (zlf32 j zm0 zm1)
            refine lv_aload_n hx hb dX8_goBack_63 rfl (lv_at hl 0 rfl) ?_
            refine lv_aload_n hx hb dX8_goBack_64 rfl (lv_at hl 0 rfl) ?_
            refine r_get C zw3 RX8 TX8 17 5 hinX8 (i := q) (by omega) zk3_3 rfl 9 (by decide) (by decide +kernel) rfl (v := .ref (ad (q + 6))) rfl dX8_goBack_65 ?_
            refine lv_iload_n hx hb dX8_goBack_68 rfl (lv_at hl 1 rfl) ?_
            refine r_laN C zw3 (i := (q + 6)) (by omega) zk3_1 (j := i) (by omega) (by omega) dX8_goBack_69 ?_
            refine r_put C zw3 RX8 TX8 17 5 hinX8 tyX8 tyX8_ok nmX8 (i := q) (by omega) zk3_3 rfl 2 (by decide) (by decide +kernel) rfl rfl (v := .long (ks i)) rfl rfl (Nat.le_of_ble_eq_true rfl) dX8_goBack_70 (fun zE4 zH4 zL4 zg4 zf4 zw4 => ?_)
            have zh4_0 : zE4 q = .inr (5, [.int (nI 0), .ref (ad (q + 1)), .long (ks i), .ref (ad (q + 2)), .ref (ad (q + 3)), .int (nI co), .ref (ad (q + 4)), .int (nI pm), .ref (ad (q + 5)), .ref (ad (q + 6)), .ref (ad (q + 7)), .ref (ad (q + 8)), .int (nI em), .ref (ad (q + 9)), .ref (ad (q + 10)), .ref (ad (q + 11)), .ref (ad (q + 12))]) := zg4
            have zk4_0 : zE4 (q + 5) = eI G 1016 ke := (zf4 _ (by omega)).trans zk3_0
            have zk4_1 : zE4 (q + 6) = eJ G 2 ks := (zf4 _ (by omega)).trans zk3_1
            have zk4_2 : zE4 (q + 7) = eZ G 2 ik := (zf4 _ (by omega)).trans zk3_2
            have zk4_3 : zE4 (q + 1) = eI G 508 (slc ke i) := (zf4 _ (by omega)).trans zh3_0
            have zfr4 : ∀ j, j ≠ q → j ≠ (q + 1) → zE4 j = E j := fun j zm0 zm1 => (zf4 j zm0).trans (zfr3 j zm0 zm1)
            refine lv_aload_n hx hb dX8_goBack_73 rfl (lv_at hl 0 rfl) ?_
            refine lv_iconst (v := nI 0) hx hb dX8_goBack_74 rfl ?_
            refine r_put C zw4 RX8 TX8 17 5 hinX8 tyX8 tyX8_ok nmX8 (i := q) (by omega) zh4_0 rfl 7 (by decide) (by decide +kernel) rfl rfl (v := .int (nI 0)) rfl rfl (Nat.le_of_ble_eq_true rfl) dX8_goBack_75 (fun zE5 zH5 zL5 zg5 zf5 zw5 => ?_)
            have zh5_0 : zE5 q = .inr (5, [.int (nI 0), .ref (ad (q + 1)), .long (ks i), .ref (ad (q + 2)), .ref (ad (q + 3)), .int (nI co), .ref (ad (q + 4)), .int (nI 0), .ref (ad (q + 5)), .ref (ad (q + 6)), .ref (ad (q + 7)), .ref (ad (q + 8)), .int (nI em), .ref (ad (q + 9)), .ref (ad (q + 10)), .ref (ad (q + 11)), .ref (ad (q + 12))]) := zg5
            have zk5_0 : zE5 (q + 5) = eI G 1016 ke := (zf5 _ (by omega)).trans zk4_0
            have zk5_1 : zE5 (q + 6) = eJ G 2 ks := (zf5 _ (by omega)).trans zk4_1
            have zk5_2 : zE5 (q + 7) = eZ G 2 ik := (zf5 _ (by omega)).trans zk4_2
            have zk5_3 : zE5 (q + 1) = eI G 508 (slc ke i) := (zf5 _ (by omega)).trans zk4_3
            have zfr5 : ∀ j, j ≠ q → j ≠ (q + 1) → zE5 j = E j := fun j zm0 zm1 => (zf5 j zm0).trans (zfr4 j zm0 zm1)
            refine lv_iconst (v := nI 1) hx hb dX8_goBack_78 rfl ?_
            exact r_iret C zw5 dX8_goBack_79 ⟨zh5_0, zk5_3, (fun j zm0 zm1 => zfr5 j zm0 zm1), (by rfl)⟩
          · refine lv_aload_n hx hb dX8_goBack_39 rfl (lv_at hl 0 rfl) ?_
            refine r_get C zlw32 RX8 TX8 17 5 hinX8 (i := q) (by omega) zl32_4 rfl 1 (by decide) (by decide +kernel) rfl (v := .ref (ad (q + 1))) rfl dX8_goBack_40 ?_
            refine lv_iload_n hx hb dX8_goBack_43 rfl (lv_at hl 2 rfl) ?_
            refine lv_aload_n hx hb dX8_goBack_44 rfl (lv_at hl 0 rfl) ?_
            refine r_get C zlw32 RX8 TX8 17 5 hinX8 (i := q) (by omega) zl32_4 rfl 8 (by decide) (by decide +kernel) rfl (v := .ref (ad (q + 5))) rfl dX8_goBack_45 ?_
            refine lv_sipush (v := nI 508) hx hb dX8_goBack_48 rfl ?_
            refine lv_iload_n hx hb dX8_goBack_51 rfl (lv_at hl 1 rfl) ?_
            refine lv_imul hx hb dX8_goBack_52 ?_
            refine r_nat (508 * i) (pk_mul _ _) ?_
            refine lv_iload_n hx hb dX8_goBack_53 rfl (lv_at hl 2 rfl) ?_
            refine lv_iadd hx hb dX8_goBack_54 ?_
            refine r_nat (508 * i + z) (nI_add _ _) ?_
            refine r_iaN C zlw32 (i := (q + 5)) (by omega) zl32_1 (j := 508 * i + z) (by omega) (by omega) dX8_goBack_55 ?_
            refine r_iasN C zlw32 (i := (q + 1)) (by omega) zl32_0 (j := z) (by omega) (by omega) dX8_goBack_56 (fun zE6 zH6 zL6 zg6 zf6 zw6 => ?_)
            have zh6_0 : zE6 (q + 1) = eI G 508 (upd g z (ke (508 * i + z))) := zg6
            have zk6_0 : zE6 (q + 5) = eI G 1016 ke := (zf6 _ (by omega)).trans zl32_1
            have zk6_1 : zE6 (q + 6) = eJ G 2 ks := (zf6 _ (by omega)).trans zl32_2
            have zk6_2 : zE6 (q + 7) = eZ G 2 ik := (zf6 _ (by omega)).trans zl32_3
            have zk6_3 : zE6 q = .inr (5, [.int (nI 0), .ref (ad (q + 1)), .long se, .ref (ad (q + 2)), .ref (ad (q + 3)), .int (nI co), .ref (ad (q + 4)), .int (nI pm), .ref (ad (q + 5)), .ref (ad (q + 6)), .ref (ad (q + 7)), .ref (ad (q + 8)), .int (nI em), .ref (ad (q + 9)), .ref (ad (q + 10)), .ref (ad (q + 11)), .ref (ad (q + 12))]) := (zf6 _ (by omega)).trans zl32_4
            have zfr6 : ∀ j, j ≠ q → j ≠ (q + 1) → zE6 j = E j := fun j zm0 zm1 => (zf6 j zm1).trans (zlf32 j zm0 zm1)
            refine lv_iinc (v := nI (z + 1)) (lv' := [(2, .int (nI (z + 1))), (0, .ref (ad q)), (1, .int (nI i))]) hx hb dX8_goBack_57 hl (k := 2) rfl (by rw [show Int32.ofInt 1 = nI 1 from rfl, nI_add]) (by decide) rfl (fun ls hl => ?_)
            refine lv_goto (tgt := 32) hx hb dX8_goBack_60 (by decide) ?_
            exact zih32 (z + 1) (upd g z (ke (508 * i + z))) (by omega) (by omega) (by rw [hg]; have zc9 := cpy_s ke s (508 * i) 0 z; rw [Nat.zero_add] at zc9; exact zc9) _ _ _ zh6_0 zk6_0 zk6_1 zk6_2 zk6_3 (fun j zm0 zm1 => zfr6 j zm0 zm1) zw6 _ (lv_sub hl [1, 2, 0] rfl)
      exact zlp32 _ 0 s (Nat.lt_succ_self _) (by omega) (by exact (cpy_0 _ _ _ _).symm) _ _ _ zk1_0 zk1_1 zk1_2 zk1_3 zh1_0 (fun j zm0 zm1 => zfr1 j zm0) zw2 _ (lv_sub hl [1, 2, 0] rfl)
    · exact absurd zc24 (by decide)
  · exact absurd (in_nI hi (by omega)) zc12

set_option maxHeartbeats 4000000 in
set_option maxRecDepth 100000 in
theorem c_X8_goBack_n {l : Launch} {G : vG} {tC : Nat} {ad : Nat → Nat} {N : Nat} {E : Nat → va_E} {q co pm em : Nat} {th : Int32} {se : Int64} {i : Int32} (hN0 : q + 13 ≤ N) (hE0 : E q = .inr (5, [.int th, .ref (ad (q + 1)), .long se, .ref (ad (q + 2)), .ref (ad (q + 3)), .int (nI co), .ref (ad (q + 4)), .int (nI pm), .ref (ad (q + 5)), .ref (ad (q + 6)), .ref (ad (q + 7)), .ref (ad (q + 8)), .int (nI em), .ref (ad (q + 9)), .ref (ad (q + 10)), .ref (ad (q + 11)), .ref (ad (q + 12))])) (hno : ¬ (nI 0 ≤ i ∧ i ≤ nI 1)) : MI l yX8_goBack wsX8_goBack ({ frames := 1, cells := 0, slots := 0, locals := 25 } : Room) G tC ad N E [.ref (ad q), .int i] (fun r E2 => E2 q = .inr (5, [.int (nI 0), .ref (ad (q + 1)), .long se, .ref (ad (q + 2)), .ref (ad (q + 3)), .int (nI co), .ref (ad (q + 4)), .int (nI pm), .ref (ad (q + 5)), .ref (ad (q + 6)), .ref (ad (q + 7)), .ref (ad (q + 8)), .int (nI em), .ref (ad (q + 9)), .ref (ad (q + 10)), .ref (ad (q + 11)), .ref (ad (q + 12))]) ∧ (∀ j, j ≠ q → E2 j = E j) ∧ r = -1000000001) := by
  refine MI_of RX8 rfl (by decide) rfl (Nat.le_of_ble_eq_true rfl) ?_
  intro pp_ ee_ ss_ mm_ aa_ bb_ me_ cc_ A ls C hw hl
  have hx := C.1
  have hb := C.2.1
  have hown := C.2.2.2.2.1
  have hts := C.2.2.2.2.2.1
  have hl : lv_has ls 3 [(0, .ref (ad q)), (1, .int i)] := hl
  have hinX8 : ∀ w ∈ u_ws RX8 TX8 17, w ∈ wsX8_goBack := by decide +kernel
  refine lv_aload_n hx hb dX8_goBack_0 rfl (lv_at hl 0 rfl) ?_
  refine lv_iconst (v := nI 0) hx hb dX8_goBack_1 rfl ?_
  refine r_put C hw RX8 TX8 17 5 hinX8 tyX8 tyX8_ok nmX8 (i := q) (by omega) hE0 rfl 0 (by decide) (by decide +kernel) rfl rfl (v := .int (nI 0)) rfl rfl (Nat.le_of_ble_eq_true rfl) dX8_goBack_2 (fun zE1 zH1 zL1 zg1 zf1 zw1 => ?_)
  have zh1_0 : zE1 q = .inr (5, [.int (nI 0), .ref (ad (q + 1)), .long se, .ref (ad (q + 2)), .ref (ad (q + 3)), .int (nI co), .ref (ad (q + 4)), .int (nI pm), .ref (ad (q + 5)), .ref (ad (q + 6)), .ref (ad (q + 7)), .ref (ad (q + 8)), .int (nI em), .ref (ad (q + 9)), .ref (ad (q + 10)), .ref (ad (q + 11)), .ref (ad (q + 12))]) := zg1
  have zfr1 : ∀ j, j ≠ q → zE1 j = E j := fun j zm0 => zf1 j zm0
  refine lv_iload_n hx hb dX8_goBack_5 rfl (lv_at hl 1 rfl) ?_
  refine lv_i2l (v := i.toInt64) hx hb dX8_goBack_6 rfl ?_
  refine lv_lconst (v := (nI 0).toInt64) hx hb dX8_goBack_7 (by decide) ?_
  refine lv_lconst (v := (nI 1).toInt64) hx hb dX8_goBack_8 (by decide) ?_
  refine r_sI C zw1 hl.1 [.long i.toInt64, .long ((nI 0).toInt64), .long ((nI 1).toInt64)] 3 rfl (c_X8_in (l := l) (G := G) (tC := tC) (ad := ad) (N := N) (E := zE1) (x := i) (a := (nI 0)) (b := (nI 1))   ) gX8_goBack_X8_in rfl ⟨rfl, rfl⟩ (by decide +kernel) ⟨Nat.le_of_ble_eq_true rfl, Nat.le_of_ble_eq_true rfl⟩ (rest := []) rfl (Nat.le_of_ble_eq_true rfl) dX8_goBack_9 ⟨Nat.zero_le _, Nat.zero_le _⟩ (fun zr2 zE2 zH2 zL2 zp2 zw2 => ?_)
  obtain ⟨ze2, zq2⟩ := zp2
  rw [ze2] at zw2
  clear ze2
  rw [zq2]
  refine b_if_ne (tgt := 18) hx hb dX8_goBack_12 (by decide) (fun zc12 => ?_) (fun zc12 => ?_)
  · exact absurd zc12 hno
  · refine lv_ldc (v := -1000000001) hx hb hown (hts (.constant RX8 156 (-1000000001)) (by decide +kernel)) dX8_goBack_15 ?_
    exact r_iret C zw2 dX8_goBack_17 ⟨zh1_0, (fun j zm0 => zfr1 j zm0), (by rfl)⟩

set_option maxHeartbeats 4000000 in
set_option maxRecDepth 100000 in
theorem c_X8_goBack_0 {l : Launch} {G : vG} {tC : Nat} {ad : Nat → Nat} {N : Nat} {E : Nat → va_E} {q co pm em : Nat} {th : Int32} {se : Int64} {ik : Nat → Int32} {i : Nat} (hN0 : q + 13 ≤ N) (hE0 : E q = .inr (5, [.int th, .ref (ad (q + 1)), .long se, .ref (ad (q + 2)), .ref (ad (q + 3)), .int (nI co), .ref (ad (q + 4)), .int (nI pm), .ref (ad (q + 5)), .ref (ad (q + 6)), .ref (ad (q + 7)), .ref (ad (q + 8)), .int (nI em), .ref (ad (q + 9)), .ref (ad (q + 10)), .ref (ad (q + 11)), .ref (ad (q + 12))])) (hE1 : E (q + 7) = eZ G 2 ik) (hi : i ≤ 1) (hik : ik i = nI 0) : MI l yX8_goBack wsX8_goBack ({ frames := 1, cells := 0, slots := 0, locals := 25 } : Room) G tC ad N E [.ref (ad q), .int (nI i)] (fun r E2 => E2 q = .inr (5, [.int (nI 0), .ref (ad (q + 1)), .long se, .ref (ad (q + 2)), .ref (ad (q + 3)), .int (nI co), .ref (ad (q + 4)), .int (nI pm), .ref (ad (q + 5)), .ref (ad (q + 6)), .ref (ad (q + 7)), .ref (ad (q + 8)), .int (nI em), .ref (ad (q + 9)), .ref (ad (q + 10)), .ref (ad (q + 11)), .ref (ad (q + 12))]) ∧ (∀ j, j ≠ q → E2 j = E j) ∧ r = -1000000003) := by
  refine MI_of RX8 rfl (by decide) rfl (Nat.le_of_ble_eq_true rfl) ?_
  intro pp_ ee_ ss_ mm_ aa_ bb_ me_ cc_ A ls C hw hl
  have hx := C.1
  have hb := C.2.1
  have hown := C.2.2.2.2.1
  have hts := C.2.2.2.2.2.1
  have hl : lv_has ls 3 [(0, .ref (ad q)), (1, .int (nI i))] := hl
  have hinX8 : ∀ w ∈ u_ws RX8 TX8 17, w ∈ wsX8_goBack := by decide +kernel
  refine lv_aload_n hx hb dX8_goBack_0 rfl (lv_at hl 0 rfl) ?_
  refine lv_iconst (v := nI 0) hx hb dX8_goBack_1 rfl ?_
  refine r_put C hw RX8 TX8 17 5 hinX8 tyX8 tyX8_ok nmX8 (i := q) (by omega) hE0 rfl 0 (by decide) (by decide +kernel) rfl rfl (v := .int (nI 0)) rfl rfl (Nat.le_of_ble_eq_true rfl) dX8_goBack_2 (fun zE1 zH1 zL1 zg1 zf1 zw1 => ?_)
  have zh1_0 : zE1 q = .inr (5, [.int (nI 0), .ref (ad (q + 1)), .long se, .ref (ad (q + 2)), .ref (ad (q + 3)), .int (nI co), .ref (ad (q + 4)), .int (nI pm), .ref (ad (q + 5)), .ref (ad (q + 6)), .ref (ad (q + 7)), .ref (ad (q + 8)), .int (nI em), .ref (ad (q + 9)), .ref (ad (q + 10)), .ref (ad (q + 11)), .ref (ad (q + 12))]) := zg1
  have zk1_0 : zE1 (q + 7) = eZ G 2 ik := (zf1 _ (by omega)).trans hE1
  have zfr1 : ∀ j, j ≠ q → zE1 j = E j := fun j zm0 => zf1 j zm0
  refine lv_iload_n hx hb dX8_goBack_5 rfl (lv_at hl 1 rfl) ?_
  refine lv_i2l (v := (nI i).toInt64) hx hb dX8_goBack_6 rfl ?_
  refine lv_lconst (v := (nI 0).toInt64) hx hb dX8_goBack_7 (by decide) ?_
  refine lv_lconst (v := (nI 1).toInt64) hx hb dX8_goBack_8 (by decide) ?_
  refine r_sI C zw1 hl.1 [.long ((nI i).toInt64), .long ((nI 0).toInt64), .long ((nI 1).toInt64)] 3 rfl (c_X8_in (l := l) (G := G) (tC := tC) (ad := ad) (N := N) (E := zE1) (x := (nI i)) (a := (nI 0)) (b := (nI 1))   ) gX8_goBack_X8_in rfl ⟨rfl, rfl⟩ (by decide +kernel) ⟨Nat.le_of_ble_eq_true rfl, Nat.le_of_ble_eq_true rfl⟩ (rest := []) rfl (Nat.le_of_ble_eq_true rfl) dX8_goBack_9 ⟨Nat.zero_le _, Nat.zero_le _⟩ (fun zr2 zE2 zH2 zL2 zp2 zw2 => ?_)
  obtain ⟨ze2, zq2⟩ := zp2
  rw [ze2] at zw2
  clear ze2
  rw [zq2]
  refine b_if_ne (tgt := 18) hx hb dX8_goBack_12 (by decide) (fun zc12 => ?_) (fun zc12 => ?_)
  · refine lv_aload_n hx hb dX8_goBack_18 rfl (lv_at hl 0 rfl) ?_
    refine r_get C zw2 RX8 TX8 17 5 hinX8 (i := q) (by omega) zh1_0 rfl 10 (by decide) (by decide +kernel) rfl (v := .ref (ad (q + 7))) rfl dX8_goBack_19 ?_
    refine lv_iload_n hx hb dX8_goBack_22 rfl (lv_at hl 1 rfl) ?_
    refine r_zaN C zw2 (i := (q + 7)) (by omega) zk1_0 (j := i) (by omega) (by omega) dX8_goBack_23 ?_
    refine r_nat 0 hik ?_
    refine n_if_ne (tgt := 30) hx hb dX8_goBack_24 (by decide) (by omega) (fun zc24 => ?_) (fun zc24 => ?_)
    · exact absurd zc24 (by decide)
    · refine lv_ldc (v := -1000000003) hx hb hown (hts (.constant RX8 199 (-1000000003)) (by decide +kernel)) dX8_goBack_27 ?_
      exact r_iret C zw2 dX8_goBack_29 ⟨zh1_0, (fun j zm0 => zfr1 j zm0), (by rfl)⟩
  · exact absurd (in_nI hi (by omega)) zc12

