set_option maxHeartbeats 4000000 in
set_option maxRecDepth 100000 in
theorem c_X7_drift_n {l : Launch} {G : vG} {tC : Nat} {ad : Nat → Nat} {N : Nat} {E : Nat → va_E} {o : Nat} {n : Int32} (hN0 : o + 75 ≤ N) (hno : ¬ (nI 1 ≤ n ∧ n ≤ nI 16)) : MI l yX7_drift wsX7_drift ({ frames := 7, cells := 0, slots := 0, locals := 162 } : Room) G tC ad N E [.ref (ad o), .int n] (fun r E2 => E2 = E ∧ r = -1000000002) := by
  refine MI_of RX7 rfl (by decide) rfl (Nat.le_of_ble_eq_true rfl) ?_
  intro pp_ ee_ ss_ mm_ aa_ bb_ me_ cc_ A ls C hw hl
  have hx := C.1
  have hb := C.2.1
  have hown := C.2.2.2.2.1
  have hts := C.2.2.2.2.2.1
  have hl : lv_has ls 3 [(0, .ref (ad o)), (1, .int n)] := hl
  have hinX5 : ∀ w ∈ u_ws RX5 TX5 8, w ∈ wsX7_drift := by decide +kernel
  have hinX7 : ∀ w ∈ u_ws RX7 TX7 9, w ∈ wsX7_drift := by decide +kernel
  refine lv_iload_n hx hb dX7_drift_0 rfl (lv_at hl 1 rfl) ?_
  refine lv_iconst (v := nI 1) hx hb dX7_drift_1 rfl ?_
  refine lv_bipush (v := nI 16) hx hb dX7_drift_2 rfl ?_
  refine r_sI C hw hl.1 [.int n, .int (nI 1), .int (nI 16)] 3 rfl (c_X7_isWithin (l := l) (G := G) (tC := tC) (ad := ad) (N := N) (E := E) (x := n) (a := nI 1) (b := nI 16)   ) gX7_drift_X7_isWithin rfl ⟨rfl, rfl⟩ (by decide +kernel) ⟨Nat.le_of_ble_eq_true rfl, Nat.le_of_ble_eq_true rfl⟩ (rest := []) rfl (Nat.le_of_ble_eq_true rfl) dX7_drift_4 ⟨Nat.zero_le _, Nat.zero_le _⟩ (fun zr1 zE1 zH1 zL1 zp1 zw1 => ?_)
  obtain ⟨ze1, zq1⟩ := zp1
  rw [ze1] at zw1
  clear ze1
  rw [zq1]
  refine b_if_ne (tgt := 13) hx hb dX7_drift_7 (by decide) (fun zc7 => ?_) (fun zc7 => ?_)
  · exact absurd zc7 hno
  · refine lv_ldc (v := -1000000002) hx hb hown (hts (.constant RX7 62 (-1000000002)) (by decide +kernel)) dX7_drift_10 ?_
    exact r_iret C zw1 dX7_drift_12 ⟨rfl, (by rfl)⟩

set_option maxHeartbeats 4000000 in
set_option maxRecDepth 100000 in
theorem c_X7_drift_y {l : Launch} {G : vG} {tC : Nat} {ad : Nat → Nat} {N : Nat} {E : Nat → va_E} {o co pg cm hd sn n : Nat} {lst md : Int32} {cs op pt : Nat → Int32} {pm : Nat} {pa s : Nat → Int32} (hN0 : o + 75 ≤ N) (hE0 : E o = .inr (4, [.ref (ad (o + 1)), .ref (ad (o + 4)), .ref (ad (o + 54)), .ref (ad (o + 61)), .ref (ad (o + 62)), .ref (ad (o + 67)), .ref (ad (o + 73)), .ref (ad (o + 74)), .int (nI co)])) (hE1 : E (o + 1) = .inr (2, [.ref (ad (o + 2)), .ref (ad (o + 3)), .int (nI pg), .int (nI cm), .int lst, .int md, .int (nI sn), .int (nI hd)])) (hE2 : E (o + 2) = eI G 500 cs) (hE3 : E (o + 3) = eI G 4 op) (hE4 : E (o + 74) = eI G 10 pt) (hn1 : 1 ≤ n) (hn : n ≤ 16) (hrg : Ring G ad E (o + 4) pa pm) (hrep : RepS s cs op pg cm hd lst md (cm + 1)) (hcm : cm + 17 < 1000000) (hsd : sn < 2147483648) : MI l yX7_drift wsX7_drift ({ frames := 7, cells := 0, slots := 0, locals := 162 } : Room) G tC ad N E [.ref (ad o), .int (nI n)] (fun r E2 => ∃ g : Nat → Int32, ∃ pb : Nat → Int32, ∃ pt2 : Nat → Int32, ∃ cs2 : Nat → Int32, ∃ op2 : Nat → Int32, ∃ pm2 : Nat, ∃ sd2 : Nat, ∃ pg2 : Nat, ∃ cm2 : Nat, ∃ hd2 : Nat, ∃ lst2 : Int32, ∃ md2 : Int32, E2 (o + 1) = .inr (2, [.ref (ad (o + 2)), .ref (ad (o + 3)), .int (nI pg2), .int (nI cm2), .int lst2, .int md2, .int (nI sd2), .int (nI hd2)]) ∧ E2 (o + 2) = eI G 500 cs2 ∧ E2 (o + 3) = eI G 4 op2 ∧ E2 (o + 74) = eI G 10 pt2 ∧ (∀ j, j ≠ (o + 1) → j ≠ (o + 2) → j ≠ (o + 3) → j ≠ (o + 74) → ¬ (o + 4 ≤ j ∧ j < o + 54) → E2 j = E j) ∧ (g, pb, pm2, sd2) = dfI (s, pa, pm, sn) n ∧ RepS g cs2 op2 pg2 cm2 hd2 lst2 md2 (cm2 + 1) ∧ cm2 ≤ cm + n ∧ sd2 < 2147483648 ∧ Ring G ad E2 (o + 4) pb pm2 ∧ r = nI pg2) := by
  refine MI_of RX7 rfl (by decide) rfl (Nat.le_of_ble_eq_true rfl) ?_
  intro pp_ ee_ ss_ mm_ aa_ bb_ me_ cc_ A ls C hw hl
  have hx := C.1
  have hb := C.2.1
  have hown := C.2.2.2.2.1
  have hts := C.2.2.2.2.2.1
  have hl : lv_has ls 3 [(0, .ref (ad o)), (1, .int (nI n))] := hl
  have hinX5 : ∀ w ∈ u_ws RX5 TX5 8, w ∈ wsX7_drift := by decide +kernel
  have hinX7 : ∀ w ∈ u_ws RX7 TX7 9, w ∈ wsX7_drift := by decide +kernel
  refine lv_iload_n hx hb dX7_drift_0 rfl (lv_at hl 1 rfl) ?_
  refine lv_iconst (v := nI 1) hx hb dX7_drift_1 rfl ?_
  refine lv_bipush (v := nI 16) hx hb dX7_drift_2 rfl ?_
  refine r_sI C hw hl.1 [.int (nI n), .int (nI 1), .int (nI 16)] 3 rfl (c_X7_isWithin (l := l) (G := G) (tC := tC) (ad := ad) (N := N) (E := E) (x := nI n) (a := nI 1) (b := nI 16)   ) gX7_drift_X7_isWithin rfl ⟨rfl, rfl⟩ (by decide +kernel) ⟨Nat.le_of_ble_eq_true rfl, Nat.le_of_ble_eq_true rfl⟩ (rest := []) rfl (Nat.le_of_ble_eq_true rfl) dX7_drift_4 ⟨Nat.zero_le _, Nat.zero_le _⟩ (fun zr1 zE1 zH1 zL1 zp1 zw1 => ?_)
  obtain ⟨ze1, zq1⟩ := zp1
  rw [ze1] at zw1
  clear ze1
  rw [zq1]
  refine b_if_ne (tgt := 13) hx hb dX7_drift_7 (by decide) (fun zc7 => ?_) (fun zc7 => ?_)
  · refine lv_iconst (v := nI 0) hx hb dX7_drift_13 rfl ?_
    refine lv_istore_n (lv' := [(2, .int (nI 0)), (0, .ref (ad o)), (1, .int (nI n))]) hx hb dX7_drift_14 rfl hl (by decide) rfl (fun ls hl => ?_)
    have zlp15 : ∀ (zn : Nat) (i : Nat) (g1 p1 w1 cs1 op1 : Nat → Int32) (pm1 sn1 pg1 cm1 hd1 : Nat) (lst1 md1 : Int32), n - i < zn → (i ≤ n) → ((g1, p1, pm1, sn1) = dfI (s, pa, pm, sn) i) → (RepS g1 cs1 op1 pg1 cm1 hd1 lst1 md1 (cm1 + 1)) → (sn1 < 2147483648) → (cm1 ≤ cm + i) → ∀ (E9 : Nat → va_E) (H9 : Heap) (L9 : List Loc), E9 o = .inr (4, [.ref (ad (o + 1)), .ref (ad (o + 4)), .ref (ad (o + 54)), .ref (ad (o + 61)), .ref (ad (o + 62)), .ref (ad (o + 67)), .ref (ad (o + 73)), .ref (ad (o + 74)), .int (nI co)]) → E9 (o + 1) = .inr (2, [.ref (ad (o + 2)), .ref (ad (o + 3)), .int (nI pg1), .int (nI cm1), .int lst1, .int md1, .int (nI sn1), .int (nI hd1)]) → E9 (o + 2) = eI G 500 cs1 → E9 (o + 3) = eI G 4 op1 → E9 (o + 74) = eI G 10 w1 → (∀ j, j ≠ (o + 1) → j ≠ (o + 2) → j ≠ (o + 3) → j ≠ (o + 74) → ¬ (o + 4 ≤ j ∧ j < o + 54) → E9 j = E j) → (Ring G ad E9 (o + 4) p1 pm1) → Wd G A ss_.heap H9 L9 ad E9 N → ∀ (ls : Array Slot), lv_has ls 3 [(0, .ref (ad o)), (1, .int (nI n)), (2, .int (nI i))] → W pp_ l ee_ ({ frames := 7, cells := 0, slots := 0, locals := 162 } : Room) ss_ mm_ aa_ bb_ me_ cc_ H9 L9 0 0 (QI bb_ aa_ ss_ G ad N A (fun r E2 => ∃ g : Nat → Int32, ∃ pb : Nat → Int32, ∃ pt2 : Nat → Int32, ∃ cs2 : Nat → Int32, ∃ op2 : Nat → Int32, ∃ pm2 : Nat, ∃ sd2 : Nat, ∃ pg2 : Nat, ∃ cm2 : Nat, ∃ hd2 : Nat, ∃ lst2 : Int32, ∃ md2 : Int32, E2 (o + 1) = .inr (2, [.ref (ad (o + 2)), .ref (ad (o + 3)), .int (nI pg2), .int (nI cm2), .int lst2, .int md2, .int (nI sd2), .int (nI hd2)]) ∧ E2 (o + 2) = eI G 500 cs2 ∧ E2 (o + 3) = eI G 4 op2 ∧ E2 (o + 74) = eI G 10 pt2 ∧ (∀ j, j ≠ (o + 1) → j ≠ (o + 2) → j ≠ (o + 3) → j ≠ (o + 74) → ¬ (o + 4 ≤ j ∧ j < o + 54) → E2 j = E j) ∧ (g, pb, pm2, sd2) = dfI (s, pa, pm, sn) n ∧ RepS g cs2 op2 pg2 cm2 hd2 lst2 md2 (cm2 + 1) ∧ cm2 ≤ cm + n ∧ sd2 < 2147483648 ∧ Ring G ad E2 (o + 4) pb pm2 ∧ r = nI pg2)) (F0 mm_ 15 ls []) := by
      intro zn
      induction zn with
      | zero => intro i g1 p1 w1 cs1 op1 pm1 sn1 pg1 cm1 hd1 lst1 md1 zhm; exact absurd zhm (Nat.not_lt_zero _)
      | succ zn zih15 =>
        intro i g1 p1 w1 cs1 op1 pm1 sn1 pg1 cm1 hd1 lst1 md1 zhm15 hi hD hr1 hsn1 hcm1 zE_15 zH_15 zL_15 zl15_0 zl15_1 zl15_2 zl15_3 zl15_4 zlf15 rg zlw15 ls hl
        refine lv_iload_n hx hb dX7_drift_15 rfl (lv_at hl 2 rfl) ?_
        refine lv_iload_n hx hb dX7_drift_16 rfl (lv_at hl 1 rfl) ?_
        refine n_icmp_ge (tgt := 39) hx hb dX7_drift_17 (by decide) (by omega) (by omega) (fun zc17 => ?_) (fun zc17 => ?_)
        · refine lv_aload_n hx hb dX7_drift_39 rfl (lv_at hl 0 rfl) ?_
          refine r_get C zlw15 RX7 TX7 9 4 hinX7 (i := o) (by omega) zl15_0 rfl 0 (by decide) (by decide +kernel) rfl (v := .ref (ad (o + 1))) rfl dX7_drift_40 ?_
          refine r_get C zlw15 RX5 TX5 8 2 hinX5 (i := (o + 1)) (by omega) zl15_1 rfl 2 (by decide) (by decide +kernel) rfl (v := .int (nI pg1)) rfl dX7_drift_43 ?_
          exact r_iret C zlw15 dX7_drift_46 ⟨g1, p1, w1, cs1, op1, pm1, sn1, pg1, cm1, hd1, lst1, md1, zl15_1, zl15_2, zl15_3, zl15_4, (fun j zm0 zm1 zm2 zm3 zm4 => zlf15 j zm0 zm1 zm2 zm3 zm4), (by exact ⟨(by rw [show n = i by omega]; exact hD), hr1, (by omega), hsn1, rg, rfl⟩)⟩
        · refine lv_aload_n hx hb dX7_drift_20 rfl (lv_at hl 0 rfl) ?_
          refine r_vV C zlw15 hl.1 (i := o) (by omega) zl15_0 (T := TX7) (n := 9) rfl [] 0 rfl (c_X7_drawPacket (l := l) (G := G) (tC := tC) (ad := ad) (N := N) (E := zE_15) (o := o) (co := co) (pg := pg1) (cm := cm1) (hd := hd1) (sn := sn1) (lst := lst1) (md := md1) (pt := w1) (by omega) zl15_0 zl15_1 zl15_4 (by first | assumption | omega)) gX7_drift_X7_drawPacket rfl ⟨rfl, rfl⟩ (by decide +kernel) ⟨Nat.le_of_ble_eq_true rfl, Nat.le_of_ble_eq_true rfl⟩ (rest := []) rfl (Nat.le_of_ble_eq_true rfl) dX7_drift_21 ⟨Nat.zero_le _, Nat.zero_le _⟩ (fun zE2 zH2 zL2 zp2 zw2 => ?_)
          obtain ⟨zpt22, zg2_0, zg2_1, zf2, zq2⟩ := zp2
          have zh2_0 : zE2 (o + 1) = .inr (2, [.ref (ad (o + 2)), .ref (ad (o + 3)), .int (nI pg1), .int (nI cm1), .int lst1, .int md1, .int (nI (lcgI sn1 11)), .int (nI hd1)]) := zg2_0
          have zh2_1 : zE2 (o + 74) = eI G 10 zpt22 := zg2_1
          have zk2_0 : zE2 o = .inr (4, [.ref (ad (o + 1)), .ref (ad (o + 4)), .ref (ad (o + 54)), .ref (ad (o + 61)), .ref (ad (o + 62)), .ref (ad (o + 67)), .ref (ad (o + 73)), .ref (ad (o + 74)), .int (nI co)]) := (zf2 _ (by omega) (by omega)).trans zl15_0
          have zk2_1 : zE2 (o + 2) = eI G 500 cs1 := (zf2 _ (by omega) (by omega)).trans zl15_2
          have zk2_2 : zE2 (o + 3) = eI G 4 op1 := (zf2 _ (by omega) (by omega)).trans zl15_3
          have zfr2 : ∀ j, j ≠ (o + 1) → j ≠ (o + 2) → j ≠ (o + 3) → j ≠ (o + 74) → ¬ (o + 4 ≤ j ∧ j < o + 54) → zE2 j = E j := fun j zm0 zm1 zm2 zm3 zm4 => (zf2 j zm0 zm3).trans (zlf15 j zm0 zm1 zm2 zm3 zm4)
          have zy2_rg : Ring G ad zE2 (o + 4) p1 pm1 := rg.same (fun j zj1 zj2 => zf2 j (by omega) (by omega))
          have zdp := zq2
          refine lv_aload_n hx hb dX7_drift_24 rfl (lv_at hl 0 rfl) ?_
          refine lv_aload_n hx hb dX7_drift_25 rfl (lv_at hl 0 rfl) ?_
          refine r_get C zw2 RX7 TX7 9 4 hinX7 (i := o) (by omega) zk2_0 rfl 7 (by decide) (by decide +kernel) rfl (v := .ref (ad (o + 74))) rfl dX7_drift_26 ?_
          refine r_vI C zw2 hl.1 (i := o) (by omega) zk2_0 (T := TX7) (n := 9) rfl [.ref (ad (o + 74))] 1 rfl (c_X7_comes (l := l) (G := G) (tC := tC) (ad := ad) (N := N) (E := zE2) (o := o) (co := co) (pg := pg1) (cm := cm1) (hd := hd1) (lst := lst1) (md := md1) (sd := nI (lcgI sn1 11)) (cs := cs1) (op := op1) (w9 := (o + 74)) (pt := zpt22) (pk := (dpk sn1)) (pm := pm1) (pa := p1) (s := g1) (by omega) (by omega) zk2_0 zh2_0 zk2_1 zk2_2 zh2_1 (by omega) zdp zy2_rg hr1 (by first | assumption | omega)) gX7_drift_X7_comes rfl ⟨rfl, rfl⟩ (by decide +kernel) ⟨Nat.le_of_ble_eq_true rfl, Nat.le_of_ble_eq_true rfl⟩ (rest := []) rfl (Nat.le_of_ble_eq_true rfl) dX7_drift_29 ⟨Nat.zero_le _, Nat.zero_le _⟩ (fun zr3 zE3 zH3 zL3 zp3 zw3 => ?_)
          obtain ⟨zcs23, zop23, zpg23, zhd23, zlst23, zmd23, zg3_0, zg3_1, zg3_2, zf3, zq3⟩ := zp3
          have zh3_0 : zE3 (o + 1) = .inr (2, [.ref (ad (o + 2)), .ref (ad (o + 3)), .int (nI zpg23), .int (nI (cm1 + 1)), .int zlst23, .int zmd23, .int (nI (lcgI sn1 11)), .int (nI zhd23)]) := zg3_0
          have zh3_1 : zE3 (o + 2) = eI G 500 zcs23 := zg3_1
          have zh3_2 : zE3 (o + 3) = eI G 4 zop23 := zg3_2
          have zk3_0 : zE3 o = .inr (4, [.ref (ad (o + 1)), .ref (ad (o + 4)), .ref (ad (o + 54)), .ref (ad (o + 61)), .ref (ad (o + 62)), .ref (ad (o + 67)), .ref (ad (o + 73)), .ref (ad (o + 74)), .int (nI co)]) := (zf3 _ (by omega) (by omega) (by omega) (by omega)).trans zk2_0
          have zk3_1 : zE3 (o + 74) = eI G 10 zpt22 := (zf3 _ (by omega) (by omega) (by omega) (by omega)).trans zh2_1
          have zfr3 : ∀ j, j ≠ (o + 1) → j ≠ (o + 2) → j ≠ (o + 3) → j ≠ (o + 74) → ¬ (o + 4 ≤ j ∧ j < o + 54) → ¬ ((o + 4) ≤ j ∧ j < (o + 54)) → zE3 j = E j := fun j zm0 zm1 zm2 zm3 zm4 zm5 => (zf3 j zm0 zm1 zm2 zm5).trans (zfr2 j zm0 zm1 zm2 zm3 zm4)
          obtain ⟨ztr, zrg3, ztb⟩ := zq3
          refine lv_pop hx hb dX7_drift_32 rfl ?_
          refine lv_iinc (v := nI (i + 1)) (lv' := [(2, .int (nI (i + 1))), (0, .ref (ad o)), (1, .int (nI n))]) hx hb dX7_drift_33 hl (k := 2) rfl (by rw [show Int32.ofInt 1 = nI 1 from rfl, nI_add]) (by decide) rfl (fun ls hl => ?_)
          refine lv_goto (tgt := 15) hx hb dX7_drift_36 (by decide) ?_
          exact zih15 (i + 1) (cmF g1 pg1 (dpk sn1)) (ntF p1 pm1 g1) zpt22 zcs23 zop23 (ntK pm1 + 1) (lcgI sn1 11) zpg23 (cm1 + 1) zhd23 zlst23 zmd23 (by omega) (by omega) (by rw [dfI, ← hD]; show _ = (cmF g1 (pgS g1) (dpk sn1), ntF p1 pm1 g1, ntK pm1 + 1, lcgI sn1 11); rw [rep_pgS hr1]) (by exact ztr) (by exact lcgI_lt hsn1 11) (by omega) _ _ _ zk3_0 zh3_0 zh3_1 zh3_2 zk3_1 (fun j zm0 zm1 zm2 zm3 zm4 => zfr3 j zm0 zm1 zm2 zm3 zm4 (by omega)) (by exact zrg3) zw3 _ (lv_sub hl [1, 2, 0] rfl)
    exact zlp15 _ 0 s pa pt cs op pm sn pg cm hd lst md (Nat.lt_succ_self _) (by omega) (by rfl) (by exact hrep) (by exact hsd) (by omega) _ _ _ hE0 hE1 hE2 hE3 hE4 (fun j _ _ _ _ _ => rfl) (by exact hrg) zw1 _ (lv_sub hl [1, 2, 0] rfl)
  · exact absurd ⟨nI_le hn1 (by omega), nI_le hn (by omega)⟩ zc7

