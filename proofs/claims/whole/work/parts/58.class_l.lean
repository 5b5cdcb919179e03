set_option maxHeartbeats 4000000 in
set_option maxRecDepth 100000 in
theorem c_X6_remember {l : Launch} {G : vG} {tC : Nat} {ad : Nat → Nat} {N : Nat} {E : Nat → va_E} {t pm : Nat} {pa : Nat → Int32} {i pg cm hd : Nat} {lst md sd : Int32} {cs : Nat → Int32} {op : Nat → Int32} {s : Nat → Int32} (hN0 : t + 50 ≤ N) (hN1 : i + 3 ≤ N) (hE0 : E i = .inr (2, [.ref (ad (i + 1)), .ref (ad (i + 2)), .int (nI pg), .int (nI cm), .int lst, .int md, .int sd, .int (nI hd)])) (hE1 : E (i + 1) = eI G 500 cs) (hE2 : E (i + 2) = eI G 4 op) (hrg : Ring G ad E t pa pm) (hrep : RepS s cs op pg cm hd lst md (cm + 1)) (hcm : cm < 1000000) (hti : i + 3 ≤ t ∨ t + 50 ≤ i) : MV l yX6_remember wsX6_remember ({ frames := 2, cells := 0, slots := 0, locals := 61 } : Room) G tC ad N E [.ref (ad t), .ref (ad i)] (fun E2 => (∀ j, ¬ (t ≤ j ∧ j < t + 50) → E2 j = E j) ∧ Ring G ad E2 t (ntF pa pm s) (ntK pm + 1)) := by
  refine MV_of RX6 rfl (by decide) rfl (Nat.le_of_ble_eq_true rfl) ?_
  intro pp_ ee_ ss_ mm_ aa_ bb_ me_ cc_ A ls C hw hl
  have hx := C.1
  have hb := C.2.1
  have hown := C.2.2.2.2.1
  have hts := C.2.2.2.2.2.1
  have hl : lv_has ls 2 [(0, .ref (ad t)), (1, .ref (ad i))] := hl
  have hinX6 : ∀ w ∈ u_ws RX6 TX6 3, w ∈ wsX6_remember := by decide +kernel
  obtain ⟨nx, f, hrn⟩ := hrg
  have hnx := hrn.1
  have hpm := hrn.2.1
  have ht0 := hrn.2.2.1
  have ht1 := hrn.2.2.2.1
  obtain ⟨z, hz, pg2, cm2, hd2, lst2, md2, sd2, cs2, op2, hz0, hz1, hz2⟩ := hrn.slot
  have hp := hrep.1.2.1
  refine lv_aload_n hx hb dX6_remember_0 rfl (lv_at hl 0 rfl) ?_
  refine r_get C hw RX6 TX6 3 3 hinX6 (i := t) (by omega) ht0 rfl 0 (by decide) (by decide +kernel) rfl (v := .ref (ad (t + 1))) rfl dX6_remember_1 ?_
  refine lv_aload_n hx hb dX6_remember_4 rfl (lv_at hl 0 rfl) ?_
  refine r_get C hw RX6 TX6 3 3 hinX6 (i := t) (by omega) ht0 rfl 1 (by decide) (by decide +kernel) rfl (v := .int (nI nx)) rfl dX6_remember_5 ?_
  refine r_raN C hw (i := (t + 1)) (by omega) ht1 (j := nx) (by omega) (by omega) (a := ad z) (by rw [hrn.2.2.2.2.1 nx hnx, hz]) dX6_remember_8 ?_
  refine lv_aload_n hx hb dX6_remember_9 rfl (lv_at hl 1 rfl) ?_
  refine r_vV C hw hl.1 (i := z) (by omega) hz0 (T := TX5) (n := 8) rfl [.ref (ad i)] 1 rfl (c_X5_become (l := l) (G := G) (tC := tC) (ad := ad) (N := N) (E := E) (i := z) (pg := pg2) (cm := cm2) (hd := hd2) (lst := lst2) (md := md2) (sd := sd2) (cs := cs2) (op := op2) (o := i) (pg2 := pg) (cm2 := cm) (hd2 := hd) (lst2 := lst) (md2 := md) (sd2 := sd) (cs2 := cs) (op2 := op) (by omega) (by omega) hz0 hz1 hz2 hE0 hE1 hE2 (by first | assumption | omega) hp) gX6_remember_X5_become rfl ⟨rfl, rfl⟩ (by decide +kernel) ⟨Nat.le_of_ble_eq_true rfl, Nat.le_of_ble_eq_true rfl⟩ (rest := []) rfl (Nat.le_of_ble_eq_true rfl) dX6_remember_10 ⟨Nat.zero_le _, Nat.zero_le _⟩ (fun zE1 zH1 zL1 zp1 zw1 => ?_)
  obtain ⟨zg1_0, zg1_1, zg1_2, zf1⟩ := zp1
  have zh1_0 : zE1 z = .inr (2, [.ref (ad (z + 1)), .ref (ad (z + 2)), .int (nI pg), .int (nI cm), .int lst, .int md, .int sd2, .int (nI hd)]) := zg1_0
  have zh1_1 : zE1 (z + 1) = eI G 500 (va_cpy cs cs2 0 0 (pg * 50)) := zg1_1
  have zh1_2 : zE1 (z + 2) = eI G 4 (va_cpy op op2 0 0 4) := zg1_2
  have zk1_0 : zE1 i = .inr (2, [.ref (ad (i + 1)), .ref (ad (i + 2)), .int (nI pg), .int (nI cm), .int lst, .int md, .int sd, .int (nI hd)]) := (zf1 _ (by omega) (by omega) (by omega)).trans hE0
  have zk1_1 : zE1 (i + 1) = eI G 500 cs := (zf1 _ (by omega) (by omega) (by omega)).trans hE1
  have zk1_2 : zE1 (i + 2) = eI G 4 op := (zf1 _ (by omega) (by omega) (by omega)).trans hE2
  have zk1_3 : zE1 t = .inr (3, [.ref (ad (t + 1)), .int (nI nx), .int (nI pm)]) := (zf1 _ (by omega) (by omega) (by omega)).trans ht0
  have zk1_4 : zE1 (t + 1) = eR G 16 f := (zf1 _ (by omega) (by omega) (by omega)).trans ht1
  have zfr1 : ∀ j, j ≠ z → j ≠ (z + 1) → j ≠ (z + 2) → zE1 j = E j := fun j zm0 zm1 zm2 => zf1 j zm0 zm1 zm2
  refine lv_aload_n hx hb dX6_remember_13 rfl (lv_at hl 0 rfl) ?_
  refine lv_aload_n hx hb dX6_remember_14 rfl (lv_at hl 0 rfl) ?_
  refine r_get C zw1 RX6 TX6 3 3 hinX6 (i := t) (by omega) zk1_3 rfl 1 (by decide) (by decide +kernel) rfl (v := .int (nI nx)) rfl dX6_remember_15 ?_
  refine lv_iconst (v := nI 1) hx hb dX6_remember_18 rfl ?_
  refine lv_iadd hx hb dX6_remember_19 ?_
  refine r_nat (nx + 1) (nI_add _ _) ?_
  refine lv_bipush (v := nI 16) hx hb dX6_remember_20 rfl ?_
  refine lv_irem hx hb dX6_remember_22 (by decide) ?_
  refine r_nat ((nx + 1) % 16) (pk_rem (by omega) (by omega) (by omega)) ?_
  refine r_put C zw1 RX6 TX6 3 3 hinX6 tyX6 tyX6_ok nmX6 (i := t) (by omega) zk1_3 rfl 1 (by decide) (by decide +kernel) rfl rfl (v := .int (nI ((nx + 1) % 16))) rfl rfl (Nat.le_of_ble_eq_true rfl) dX6_remember_23 (fun zE2 zH2 zL2 zg2 zf2 zw2 => ?_)
  have zh2_0 : zE2 t = .inr (3, [.ref (ad (t + 1)), .int (nI ((nx + 1) % 16)), .int (nI pm)]) := zg2
  have zk2_0 : zE2 i = .inr (2, [.ref (ad (i + 1)), .ref (ad (i + 2)), .int (nI pg), .int (nI cm), .int lst, .int md, .int sd, .int (nI hd)]) := (zf2 _ (by omega)).trans zk1_0
  have zk2_1 : zE2 (i + 1) = eI G 500 cs := (zf2 _ (by omega)).trans zk1_1
  have zk2_2 : zE2 (i + 2) = eI G 4 op := (zf2 _ (by omega)).trans zk1_2
  have zk2_3 : zE2 (t + 1) = eR G 16 f := (zf2 _ (by omega)).trans zk1_4
  have zk2_4 : zE2 z = .inr (2, [.ref (ad (z + 1)), .ref (ad (z + 2)), .int (nI pg), .int (nI cm), .int lst, .int md, .int sd2, .int (nI hd)]) := (zf2 _ (by omega)).trans zh1_0
  have zk2_5 : zE2 (z + 1) = eI G 500 (va_cpy cs cs2 0 0 (pg * 50)) := (zf2 _ (by omega)).trans zh1_1
  have zk2_6 : zE2 (z + 2) = eI G 4 (va_cpy op op2 0 0 4) := (zf2 _ (by omega)).trans zh1_2
  have zfr2 : ∀ j, j ≠ z → j ≠ (z + 1) → j ≠ (z + 2) → j ≠ t → zE2 j = E j := fun j zm0 zm1 zm2 zm3 => (zf2 j zm3).trans (zfr1 j zm0 zm1 zm2)
  refine lv_aload_n hx hb dX6_remember_26 rfl (lv_at hl 0 rfl) ?_
  refine lv_aload_n hx hb dX6_remember_27 rfl (lv_at hl 0 rfl) ?_
  refine r_get C zw2 RX6 TX6 3 3 hinX6 (i := t) (by omega) zh2_0 rfl 2 (by decide) (by decide +kernel) rfl (v := .int (nI pm)) rfl dX6_remember_28 ?_
  refine lv_iconst (v := nI 1) hx hb dX6_remember_31 rfl ?_
  refine lv_iadd hx hb dX6_remember_32 ?_
  refine r_nat (pm + 1) (nI_add _ _) ?_
  refine lv_bipush (v := nI 16) hx hb dX6_remember_33 rfl ?_
  refine va_mmin hx hb (by rw [C.2.2.2.1]; exact hl.1.symm) hown (hts (.methodLink RX6 29 Lib.Math.min.name) (by decide +kernel)) (hts (.static Lib.Math.min.name) (by decide +kernel)) (hts (.initialized "java/lang/Math") (by decide +kernel)) (hts (.code Lib.Math.min.name Lib.Math.min.code 2 (some .int)) (by decide +kernel)) (Nat.le_of_ble_eq_true rfl) (Nat.le_of_ble_eq_true rfl) (Nat.zero_le _) (Nat.zero_le _) dX6_remember_35 ?_
  refine r_nat (ntK pm + 1) (ntK_min hpm) ?_
  refine r_put C zw2 RX6 TX6 3 3 hinX6 tyX6 tyX6_ok nmX6 (i := t) (by omega) zh2_0 rfl 2 (by decide) (by decide +kernel) rfl rfl (v := .int (nI (ntK pm + 1))) rfl rfl (Nat.le_of_ble_eq_true rfl) dX6_remember_38 (fun zE3 zH3 zL3 zg3 zf3 zw3 => ?_)
  have zh3_0 : zE3 t = .inr (3, [.ref (ad (t + 1)), .int (nI ((nx + 1) % 16)), .int (nI (ntK pm + 1))]) := zg3
  have zk3_0 : zE3 i = .inr (2, [.ref (ad (i + 1)), .ref (ad (i + 2)), .int (nI pg), .int (nI cm), .int lst, .int md, .int sd, .int (nI hd)]) := (zf3 _ (by omega)).trans zk2_0
  have zk3_1 : zE3 (i + 1) = eI G 500 cs := (zf3 _ (by omega)).trans zk2_1
  have zk3_2 : zE3 (i + 2) = eI G 4 op := (zf3 _ (by omega)).trans zk2_2
  have zk3_3 : zE3 (t + 1) = eR G 16 f := (zf3 _ (by omega)).trans zk2_3
  have zk3_4 : zE3 z = .inr (2, [.ref (ad (z + 1)), .ref (ad (z + 2)), .int (nI pg), .int (nI cm), .int lst, .int md, .int sd2, .int (nI hd)]) := (zf3 _ (by omega)).trans zk2_4
  have zk3_5 : zE3 (z + 1) = eI G 500 (va_cpy cs cs2 0 0 (pg * 50)) := (zf3 _ (by omega)).trans zk2_5
  have zk3_6 : zE3 (z + 2) = eI G 4 (va_cpy op op2 0 0 4) := (zf3 _ (by omega)).trans zk2_6
  have zfr3 : ∀ j, j ≠ z → j ≠ (z + 1) → j ≠ (z + 2) → j ≠ t → zE3 j = E j := fun j zm0 zm1 zm2 zm3 => (zf3 j zm3).trans (zfr2 j zm0 zm1 zm2 zm3)
  exact r_vret C zw3 dX6_remember_41 ⟨(fun j zm0 => zfr3 j (by omega) (by omega) (by omega) (by omega)), (by exact hrn.note hz zh3_0 ⟨_, _, _, _, _, _, _, _, ⟨zk3_4, zk3_5, zk3_6⟩, rep_copy hrep, hcm⟩ (fun j zh0 zh1 zh2 zh3 zh4 zh5 => zfr3 j (by omega) (by omega) (by omega) (by omega)))⟩

set_option maxHeartbeats 4000000 in
set_option maxRecDepth 100000 in
theorem c_X6_takeBack {l : Launch} {G : vG} {tC : Nat} {ad : Nat → Nat} {N : Nat} {E : Nat → va_E} {t pm : Nat} {pa : Nat → Int32} {i pg cm hd : Nat} {lst md sd : Int32} {cs : Nat → Int32} {op : Nat → Int32} {n : Nat} (hN0 : t + 50 ≤ N) (hN1 : i + 3 ≤ N) (hE0 : E i = .inr (2, [.ref (ad (i + 1)), .ref (ad (i + 2)), .int (nI pg), .int (nI cm), .int lst, .int md, .int sd, .int (nI hd)])) (hE1 : E (i + 1) = eI G 500 cs) (hE2 : E (i + 2) = eI G 4 op) (hrg : Ring G ad E t pa pm) (hn1 : 1 ≤ n) (hn : n ≤ pm) (hti : i + 3 ≤ t ∨ t + 50 ≤ i) : MV l yX6_takeBack wsX6_takeBack ({ frames := 2, cells := 0, slots := 0, locals := 61 } : Room) G tC ad N E [.ref (ad t), .ref (ad i), .int (nI n)] (fun E2 => ∃ cs2 : Nat → Int32, ∃ op2 : Nat → Int32, ∃ pg2 : Nat, ∃ cm2 : Nat, ∃ hd2 : Nat, ∃ lst2 : Int32, ∃ md2 : Int32, E2 i = .inr (2, [.ref (ad (i + 1)), .ref (ad (i + 2)), .int (nI pg2), .int (nI cm2), .int lst2, .int md2, .int sd, .int (nI hd2)]) ∧ E2 (i + 1) = eI G 500 cs2 ∧ E2 (i + 2) = eI G 4 op2 ∧ (∀ j, j ≠ i → j ≠ (i + 1) → j ≠ (i + 2) → ¬ (t ≤ j ∧ j < t + 50) → E2 j = E j) ∧ Ring G ad E2 t pa (pm - n) ∧ RepS (slc pa (pm - n)) cs2 op2 pg2 cm2 hd2 lst2 md2 (cm2 + 1) ∧ cm2 < 1000000) := by
  refine MV_of RX6 rfl (by decide) rfl (Nat.le_of_ble_eq_true rfl) ?_
  intro pp_ ee_ ss_ mm_ aa_ bb_ me_ cc_ A ls C hw hl
  have hx := C.1
  have hb := C.2.1
  have hown := C.2.2.2.2.1
  have hts := C.2.2.2.2.2.1
  have hl : lv_has ls 3 [(0, .ref (ad t)), (1, .ref (ad i)), (2, .int (nI n))] := hl
  have hinX6 : ∀ w ∈ u_ws RX6 TX6 3, w ∈ wsX6_takeBack := by decide +kernel
  obtain ⟨nx, f, hrn⟩ := hrg
  have hnx := hrn.1
  have hpm := hrn.2.1
  have ht0 := hrn.2.2.1
  have ht1 := hrn.2.2.2.1
  obtain ⟨z, hz, pg2, cm2, hd2, lst2, md2, sd2, cs2, op2, ⟨hz0, hz1, hz2⟩, hrep, hcmB⟩ := hrn.back hn1 hn
  have hp := hrep.1.2.1
  have hzl : (nx + 16 - n) % 16 < 16 := Nat.mod_lt _ (by decide)
  refine lv_aload_n hx hb dX6_takeBack_0 rfl (lv_at hl 0 rfl) ?_
  refine lv_aload_n hx hb dX6_takeBack_1 rfl (lv_at hl 0 rfl) ?_
  refine r_get C hw RX6 TX6 3 3 hinX6 (i := t) (by omega) ht0 rfl 1 (by decide) (by decide +kernel) rfl (v := .int (nI nx)) rfl dX6_takeBack_2 ?_
  refine lv_iload_n hx hb dX6_takeBack_5 rfl (lv_at hl 2 rfl) ?_
  refine lv_isub hx hb dX6_takeBack_6 ?_
  refine lv_bipush (v := nI 16) hx hb dX6_takeBack_7 rfl ?_
  refine r_sI C hw hl.1 [.int ((nI nx) - (nI n)), .int (nI 16)] 2 rfl (c_J9_floorMod_7cf53 (l := l) (G := G) (tC := tC) (ad := ad) (N := N) (E := E) (a := nx) (b := n)   (by first | assumption | omega) (by first | assumption | omega)) gX6_takeBack_J9_floorMod_7cf53 rfl ⟨rfl, rfl⟩ (by decide +kernel) ⟨Nat.le_of_ble_eq_true rfl, Nat.le_of_ble_eq_true rfl⟩ (rest := [.ref (ad t)]) rfl (Nat.le_of_ble_eq_true rfl) dX6_takeBack_9 ⟨Nat.zero_le _, Nat.zero_le _⟩ (fun zr1 zE1 zH1 zL1 zp1 zw1 => ?_)
  obtain ⟨ze1, zq1⟩ := zp1
  rw [ze1] at zw1
  clear ze1
  rw [zq1]
  refine r_put C zw1 RX6 TX6 3 3 hinX6 tyX6 tyX6_ok nmX6 (i := t) (by omega) ht0 rfl 1 (by decide) (by decide +kernel) rfl rfl (v := .int (nI ((nx + 16 - n) % 16))) rfl rfl (Nat.le_of_ble_eq_true rfl) dX6_takeBack_12 (fun zE2 zH2 zL2 zg2 zf2 zw2 => ?_)
  have zh2_0 : zE2 t = .inr (3, [.ref (ad (t + 1)), .int (nI ((nx + 16 - n) % 16)), .int (nI pm)]) := zg2
  have zk2_0 : zE2 i = .inr (2, [.ref (ad (i + 1)), .ref (ad (i + 2)), .int (nI pg), .int (nI cm), .int lst, .int md, .int sd, .int (nI hd)]) := (zf2 _ (by omega)).trans hE0
  have zk2_1 : zE2 (i + 1) = eI G 500 cs := (zf2 _ (by omega)).trans hE1
  have zk2_2 : zE2 (i + 2) = eI G 4 op := (zf2 _ (by omega)).trans hE2
  have zk2_3 : zE2 (t + 1) = eR G 16 f := (zf2 _ (by omega)).trans ht1
  have zk2_4 : zE2 z = .inr (2, [.ref (ad (z + 1)), .ref (ad (z + 2)), .int (nI pg2), .int (nI cm2), .int lst2, .int md2, .int sd2, .int (nI hd2)]) := (zf2 _ (by omega)).trans hz0
  have zk2_5 : zE2 (z + 1) = eI G 500 cs2 := (zf2 _ (by omega)).trans hz1
  have zk2_6 : zE2 (z + 2) = eI G 4 op2 := (zf2 _ (by omega)).trans hz2
  have zfr2 : ∀ j, j ≠ t → zE2 j = E j := fun j zm0 => zf2 j zm0
  refine lv_aload_n hx hb dX6_takeBack_15 rfl (lv_at hl 0 rfl) ?_
  refine lv_dup hx hb dX6_takeBack_16 rfl ?_
  refine r_get C zw2 RX6 TX6 3 3 hinX6 (i := t) (by omega) zh2_0 rfl 2 (by decide) (by decide +kernel) rfl (v := .int (nI pm)) rfl dX6_takeBack_17 ?_
  refine lv_iload_n hx hb dX6_takeBack_20 rfl (lv_at hl 2 rfl) ?_
  refine lv_isub hx hb dX6_takeBack_21 ?_
  refine r_nat (pm - n) (pk_sub hn) ?_
  refine r_put C zw2 RX6 TX6 3 3 hinX6 tyX6 tyX6_ok nmX6 (i := t) (by omega) zh2_0 rfl 2 (by decide) (by decide +kernel) rfl rfl (v := .int (nI (pm - n))) rfl rfl (Nat.le_of_ble_eq_true rfl) dX6_takeBack_22 (fun zE3 zH3 zL3 zg3 zf3 zw3 => ?_)
  have zh3_0 : zE3 t = .inr (3, [.ref (ad (t + 1)), .int (nI ((nx + 16 - n) % 16)), .int (nI (pm - n))]) := zg3
  have zk3_0 : zE3 i = .inr (2, [.ref (ad (i + 1)), .ref (ad (i + 2)), .int (nI pg), .int (nI cm), .int lst, .int md, .int sd, .int (nI hd)]) := (zf3 _ (by omega)).trans zk2_0
  have zk3_1 : zE3 (i + 1) = eI G 500 cs := (zf3 _ (by omega)).trans zk2_1
  have zk3_2 : zE3 (i + 2) = eI G 4 op := (zf3 _ (by omega)).trans zk2_2
  have zk3_3 : zE3 (t + 1) = eR G 16 f := (zf3 _ (by omega)).trans zk2_3
  have zk3_4 : zE3 z = .inr (2, [.ref (ad (z + 1)), .ref (ad (z + 2)), .int (nI pg2), .int (nI cm2), .int lst2, .int md2, .int sd2, .int (nI hd2)]) := (zf3 _ (by omega)).trans zk2_4
  have zk3_5 : zE3 (z + 1) = eI G 500 cs2 := (zf3 _ (by omega)).trans zk2_5
  have zk3_6 : zE3 (z + 2) = eI G 4 op2 := (zf3 _ (by omega)).trans zk2_6
  have zfr3 : ∀ j, j ≠ t → zE3 j = E j := fun j zm0 => (zf3 j zm0).trans (zfr2 j zm0)
  refine lv_aload_n hx hb dX6_takeBack_25 rfl (lv_at hl 1 rfl) ?_
  refine lv_aload_n hx hb dX6_takeBack_26 rfl (lv_at hl 0 rfl) ?_
  refine r_get C zw3 RX6 TX6 3 3 hinX6 (i := t) (by omega) zh3_0 rfl 0 (by decide) (by decide +kernel) rfl (v := .ref (ad (t + 1))) rfl dX6_takeBack_27 ?_
  refine lv_aload_n hx hb dX6_takeBack_30 rfl (lv_at hl 0 rfl) ?_
  refine r_get C zw3 RX6 TX6 3 3 hinX6 (i := t) (by omega) zh3_0 rfl 1 (by decide) (by decide +kernel) rfl (v := .int (nI ((nx + 16 - n) % 16))) rfl dX6_takeBack_31 ?_
  refine r_raN C zw3 (i := (t + 1)) (by omega) zk3_3 (j := (nx + 16 - n) % 16) (by omega) (by omega) (a := ad z) (by rw [hrn.2.2.2.2.1 _ hzl, hz]) dX6_takeBack_34 ?_
  refine r_vV C zw3 hl.1 (i := i) (by omega) zk3_0 (T := TX5) (n := 8) rfl [.ref (ad z)] 1 rfl (c_X5_become (l := l) (G := G) (tC := tC) (ad := ad) (N := N) (E := zE3) (i := i) (pg := pg) (cm := cm) (hd := hd) (lst := lst) (md := md) (sd := sd) (cs := cs) (op := op) (o := z) (pg2 := pg2) (cm2 := cm2) (hd2 := hd2) (lst2 := lst2) (md2 := md2) (sd2 := sd2) (cs2 := cs2) (op2 := op2) (by omega) (by omega) zk3_0 zk3_1 zk3_2 zk3_4 zk3_5 zk3_6 (by first | assumption | omega) hp) gX6_takeBack_X5_become rfl ⟨rfl, rfl⟩ (by decide +kernel) ⟨Nat.le_of_ble_eq_true rfl, Nat.le_of_ble_eq_true rfl⟩ (rest := []) rfl (Nat.le_of_ble_eq_true rfl) dX6_takeBack_35 ⟨Nat.zero_le _, Nat.zero_le _⟩ (fun zE4 zH4 zL4 zp4 zw4 => ?_)
  obtain ⟨zg4_0, zg4_1, zg4_2, zf4⟩ := zp4
  have zh4_0 : zE4 i = .inr (2, [.ref (ad (i + 1)), .ref (ad (i + 2)), .int (nI pg2), .int (nI cm2), .int lst2, .int md2, .int sd, .int (nI hd2)]) := zg4_0
  have zh4_1 : zE4 (i + 1) = eI G 500 (va_cpy cs2 cs 0 0 (pg2 * 50)) := zg4_1
  have zh4_2 : zE4 (i + 2) = eI G 4 (va_cpy op2 op 0 0 4) := zg4_2
  have zk4_0 : zE4 (t + 1) = eR G 16 f := (zf4 _ (by omega) (by omega) (by omega)).trans zk3_3
  have zk4_1 : zE4 z = .inr (2, [.ref (ad (z + 1)), .ref (ad (z + 2)), .int (nI pg2), .int (nI cm2), .int lst2, .int md2, .int sd2, .int (nI hd2)]) := (zf4 _ (by omega) (by omega) (by omega)).trans zk3_4
  have zk4_2 : zE4 (z + 1) = eI G 500 cs2 := (zf4 _ (by omega) (by omega) (by omega)).trans zk3_5
  have zk4_3 : zE4 (z + 2) = eI G 4 op2 := (zf4 _ (by omega) (by omega) (by omega)).trans zk3_6
  have zk4_4 : zE4 t = .inr (3, [.ref (ad (t + 1)), .int (nI ((nx + 16 - n) % 16)), .int (nI (pm - n))]) := (zf4 _ (by omega) (by omega) (by omega)).trans zh3_0
  have zfr4 : ∀ j, j ≠ t → j ≠ i → j ≠ (i + 1) → j ≠ (i + 2) → zE4 j = E j := fun j zm0 zm1 zm2 zm3 => (zf4 j zm1 zm2 zm3).trans (zfr3 j zm0)
  exact r_vret C zw4 dX6_takeBack_38 ⟨va_cpy cs2 cs 0 0 (pg2 * 50), va_cpy op2 op 0 0 4, pg2, cm2, hd2, lst2, md2, zh4_0, zh4_1, zh4_2, (fun j zm0 zm1 zm2 zm3 => zfr4 j (by omega) zm0 zm1 zm2), (by exact ⟨hrn.less hn zk4_4 (fun j zh0 zh1 zh2 => zfr4 j (by omega) (by omega) (by omega) (by omega)), rep_copy hrep, hcmB⟩)⟩

set_option maxHeartbeats 4000000 in
set_option maxRecDepth 100000 in
theorem c_X6_forget {l : Launch} {G : vG} {tC : Nat} {ad : Nat → Nat} {N : Nat} {E : Nat → va_E} {t pm : Nat} {pa : Nat → Int32} {pb : Nat → Int32} (hN0 : t + 50 ≤ N) (hrg : Ring G ad E t pa pm) : MV l yX6_forget wsX6_forget ({ frames := 0, cells := 0, slots := 0, locals := 0 } : Room) G tC ad N E [.ref (ad t)] (fun E2 => (∀ j, ¬ (t ≤ j ∧ j < t + 50) → E2 j = E j) ∧ Ring G ad E2 t pb 0) := by
  refine MV_of RX6 rfl (by decide) rfl (Nat.le_of_ble_eq_true rfl) ?_
  intro pp_ ee_ ss_ mm_ aa_ bb_ me_ cc_ A ls C hw hl
  have hx := C.1
  have hb := C.2.1
  have hown := C.2.2.2.2.1
  have hts := C.2.2.2.2.2.1
  have hl : lv_has ls 1 [(0, .ref (ad t))] := hl
  have hinX6 : ∀ w ∈ u_ws RX6 TX6 3, w ∈ wsX6_forget := by decide +kernel
  obtain ⟨nx, f, hrn⟩ := hrg
  have ht0 := hrn.2.2.1
  refine lv_aload_n hx hb dX6_forget_0 rfl (lv_at hl 0 rfl) ?_
  refine lv_iconst (v := nI 0) hx hb dX6_forget_1 rfl ?_
  refine r_put C hw RX6 TX6 3 3 hinX6 tyX6 tyX6_ok nmX6 (i := t) (by omega) ht0 rfl 2 (by decide) (by decide +kernel) rfl rfl (v := .int (nI 0)) rfl rfl (Nat.le_of_ble_eq_true rfl) dX6_forget_2 (fun zE1 zH1 zL1 zg1 zf1 zw1 => ?_)
  have zh1_0 : zE1 t = .inr (3, [.ref (ad (t + 1)), .int (nI nx), .int (nI 0)]) := zg1
  have zfr1 : ∀ j, j ≠ t → zE1 j = E j := fun j zm0 => zf1 j zm0
  exact r_vret C zw1 dX6_forget_5 ⟨(fun j zm0 => zfr1 j (by omega)), (by exact hrn.none pb zh1_0 (fun j zh0 => zfr1 j (by omega)))⟩

set_option maxHeartbeats 4000000 in
set_option maxRecDepth 100000 in
theorem c_X7_comes {l : Launch} {G : vG} {tC : Nat} {ad : Nat → Nat} {N : Nat} {E : Nat → va_E} {o co pg cm hd : Nat} {lst md sd : Int32} {cs op : Nat → Int32} {w9 : Nat} {pt : Nat → Int32} {pk : Nat → Nat} {pm : Nat} {pa s : Nat → Int32} (hN0 : o + 75 ≤ N) (hN1 : w9 + 1 ≤ N) (hE0 : E o = .inr (4, [.ref (ad (o + 1)), .ref (ad (o + 4)), .ref (ad (o + 54)), .ref (ad (o + 61)), .ref (ad (o + 62)), .ref (ad (o + 67)), .ref (ad (o + 73)), .ref (ad (o + 74)), .int (nI co)])) (hE1 : E (o + 1) = .inr (2, [.ref (ad (o + 2)), .ref (ad (o + 3)), .int (nI pg), .int (nI cm), .int lst, .int md, .int sd, .int (nI hd)])) (hE2 : E (o + 2) = eI G 500 cs) (hE3 : E (o + 3) = eI G 4 op) (hE4 : E w9 = eI G 10 pt) (hw9 : o + 54 ≤ w9) (hpk : ∀ j, j < 10 → pt j = nI (pk j) ∧ pk j < 256) (hrg : Ring G ad E (o + 4) pa pm) (hrep : RepS s cs op pg cm hd lst md (cm + 1)) (hcm : cm + 1 < 1000000) : MI l yX7_comes wsX7_comes ({ frames := 6, cells := 0, slots := 0, locals := 140 } : Room) G tC ad N E [.ref (ad o), .ref (ad w9)] (fun r E2 => ∃ cs2 : Nat → Int32, ∃ op2 : Nat → Int32, ∃ pg2 : Nat, ∃ hd2 : Nat, ∃ lst2 : Int32, ∃ md2 : Int32, E2 (o + 1) = .inr (2, [.ref (ad (o + 2)), .ref (ad (o + 3)), .int (nI pg2), .int (nI (cm + 1)), .int lst2, .int md2, .int sd, .int (nI hd2)]) ∧ E2 (o + 2) = eI G 500 cs2 ∧ E2 (o + 3) = eI G 4 op2 ∧ (∀ j, j ≠ (o + 1) → j ≠ (o + 2) → j ≠ (o + 3) → ¬ (o + 4 ≤ j ∧ j < o + 54) → E2 j = E j) ∧ RepS (cmF s pg pk) cs2 op2 pg2 (cm + 1) hd2 lst2 md2 (cm + 1 + 1) ∧ Ring G ad E2 (o + 4) (ntF pa pm s) (ntK pm + 1) ∧ r = if tkB s pk then 1 else 0) := by
  refine MI_of RX7 rfl (by decide) rfl (Nat.le_of_ble_eq_true rfl) ?_
  intro pp_ ee_ ss_ mm_ aa_ bb_ me_ cc_ A ls C hw hl
  have hx := C.1
  have hb := C.2.1
  have hown := C.2.2.2.2.1
  have hts := C.2.2.2.2.2.1
  have hl : lv_has ls 3 [(0, .ref (ad o)), (1, .ref (ad w9))] := hl
  have hinX5 : ∀ w ∈ u_ws RX5 TX5 8, w ∈ wsX7_comes := by decide +kernel
  have hinX7 : ∀ w ∈ u_ws RX7 TX7 9, w ∈ wsX7_comes := by decide +kernel
  obtain ⟨nx, fz, hrn⟩ := id hrg
  have ht0 := hrn.2.2.1
  refine lv_aload_n hx hb dX7_comes_0 rfl (lv_at hl 0 rfl) ?_
  refine r_get C hw RX7 TX7 9 4 hinX7 (i := o) (by omega) hE0 rfl 1 (by decide) (by decide +kernel) rfl (v := .ref (ad (o + 4))) rfl dX7_comes_1 ?_
  refine lv_aload_n hx hb dX7_comes_4 rfl (lv_at hl 0 rfl) ?_
  refine r_get C hw RX7 TX7 9 4 hinX7 (i := o) (by omega) hE0 rfl 0 (by decide) (by decide +kernel) rfl (v := .ref (ad (o + 1))) rfl dX7_comes_5 ?_
  refine r_vV C hw hl.1 (i := (o + 4)) (by omega) ht0 (T := TX6) (n := 3) rfl [.ref (ad (o + 1))] 1 rfl (c_X6_remember (l := l) (G := G) (tC := tC) (ad := ad) (N := N) (E := E) (t := (o + 4)) (pm := pm) (pa := pa) (i := (o + 1)) (pg := pg) (cm := cm) (hd := hd) (lst := lst) (md := md) (sd := sd) (cs := cs) (op := op) (s := s) (by omega) (by omega) hE1 hE2 hE3 (by first | assumption | omega) (by first | assumption | omega) (by first | assumption | omega) (by first | assumption | omega)) gX7_comes_X6_remember rfl ⟨rfl, rfl⟩ (by decide +kernel) ⟨Nat.le_of_ble_eq_true rfl, Nat.le_of_ble_eq_true rfl⟩ (rest := []) rfl (Nat.le_of_ble_eq_true rfl) dX7_comes_8 ⟨Nat.zero_le _, Nat.zero_le _⟩ (fun zE1 zH1 zL1 zp1 zw1 => ?_)
  obtain ⟨zf1, zq1⟩ := zp1
  have zk1_0 : zE1 o = .inr (4, [.ref (ad (o + 1)), .ref (ad (o + 4)), .ref (ad (o + 54)), .ref (ad (o + 61)), .ref (ad (o + 62)), .ref (ad (o + 67)), .ref (ad (o + 73)), .ref (ad (o + 74)), .int (nI co)]) := (zf1 _ (by omega)).trans hE0
  have zk1_1 : zE1 (o + 1) = .inr (2, [.ref (ad (o + 2)), .ref (ad (o + 3)), .int (nI pg), .int (nI cm), .int lst, .int md, .int sd, .int (nI hd)]) := (zf1 _ (by omega)).trans hE1
  have zk1_2 : zE1 (o + 2) = eI G 500 cs := (zf1 _ (by omega)).trans hE2
  have zk1_3 : zE1 (o + 3) = eI G 4 op := (zf1 _ (by omega)).trans hE3
  have zk1_4 : zE1 w9 = eI G 10 pt := (zf1 _ (by omega)).trans hE4
  have zfr1 : ∀ j, ¬ ((o + 4) ≤ j ∧ j < (o + 54)) → zE1 j = E j := fun j zm0 => zf1 j zm0
  have zrg1 := zq1
  refine lv_aload_n hx hb dX7_comes_11 rfl (lv_at hl 0 rfl) ?_
  refine r_get C zw1 RX7 TX7 9 4 hinX7 (i := o) (by omega) zk1_0 rfl 0 (by decide) (by decide +kernel) rfl (v := .ref (ad (o + 1))) rfl dX7_comes_12 ?_
  refine lv_dup hx hb dX7_comes_15 rfl ?_
  refine r_get C zw1 RX5 TX5 8 2 hinX5 (i := (o + 1)) (by omega) zk1_1 rfl 3 (by decide) (by decide +kernel) rfl (v := .int (nI cm)) rfl dX7_comes_16 ?_
  refine lv_iconst (v := nI 1) hx hb dX7_comes_19 rfl ?_
  refine lv_iadd hx hb dX7_comes_20 ?_
  refine r_nat (cm + 1) (nI_add _ _) ?_
  refine r_put C zw1 RX5 TX5 8 2 hinX5 tyX5 tyX5_ok nmX5 (i := (o + 1)) (by omega) zk1_1 rfl 3 (by decide) (by decide +kernel) rfl rfl (v := .int (nI (cm + 1))) rfl rfl (Nat.le_of_ble_eq_true rfl) dX7_comes_21 (fun zE2 zH2 zL2 zg2 zf2 zw2 => ?_)
  have zh2_0 : zE2 (o + 1) = .inr (2, [.ref (ad (o + 2)), .ref (ad (o + 3)), .int (nI pg), .int (nI (cm + 1)), .int lst, .int md, .int sd, .int (nI hd)]) := zg2
  have zk2_0 : zE2 o = .inr (4, [.ref (ad (o + 1)), .ref (ad (o + 4)), .ref (ad (o + 54)), .ref (ad (o + 61)), .ref (ad (o + 62)), .ref (ad (o + 67)), .ref (ad (o + 73)), .ref (ad (o + 74)), .int (nI co)]) := (zf2 _ (by omega)).trans zk1_0
  have zk2_1 : zE2 (o + 2) = eI G 500 cs := (zf2 _ (by omega)).trans zk1_2
  have zk2_2 : zE2 (o + 3) = eI G 4 op := (zf2 _ (by omega)).trans zk1_3
  have zk2_3 : zE2 w9 = eI G 10 pt := (zf2 _ (by omega)).trans zk1_4
  have zfr2 : ∀ j, ¬ ((o + 4) ≤ j ∧ j < (o + 54)) → j ≠ (o + 1) → zE2 j = E j := fun j zm0 zm1 => (zf2 j zm1).trans (zfr1 j zm0)
  have zy2_rg : Ring G ad zE2 (o + 4) (ntF pa pm s) (ntK pm + 1) := zrg1.same (fun j zj1 zj2 => zf2 j (by omega))
  refine lv_aload_n hx hb dX7_comes_24 rfl (lv_at hl 0 rfl) ?_
  refine r_get C zw2 RX7 TX7 9 4 hinX7 (i := o) (by omega) zk2_0 rfl 0 (by decide) (by decide +kernel) rfl (v := .ref (ad (o + 1))) rfl dX7_comes_25 ?_
  refine lv_aload_n hx hb dX7_comes_28 rfl (lv_at hl 1 rfl) ?_
  refine r_sI C zw2 hl.1 [.ref (ad (o + 1)), .ref (ad w9)] 2 rfl (c_X3_take (l := l) (G := G) (tC := tC) (ad := ad) (N := N) (E := zE2) (i := (o + 1)) (pg := pg) (cm := cm + 1) (hd := hd) (lst := lst) (md := md) (sd := sd) (cs := cs) (op := op) (w9 := w9) (pt := pt) (pk := pk) (s := (cmS s)) (by omega) (by omega) zh2_0 zk2_1 zk2_2 zk2_3 (by omega) (by first | assumption | omega) (come_rep hrep) (by first | assumption | omega)) gX7_comes_X3_take rfl ⟨rfl, rfl⟩ (by decide +kernel) ⟨Nat.le_of_ble_eq_true rfl, Nat.le_of_ble_eq_true rfl⟩ (rest := []) rfl (Nat.le_of_ble_eq_true rfl) dX7_comes_29 ⟨Nat.zero_le _, Nat.zero_le _⟩ (fun zr3 zE3 zH3 zL3 zp3 zw3 => ?_)
  obtain ⟨zcs23, zop23, zpg23, zhd23, zmd23, zg3_0, zg3_1, zg3_2, zf3, zq3⟩ := zp3
  have zh3_0 : zE3 (o + 1) = .inr (2, [.ref (ad (o + 2)), .ref (ad (o + 3)), .int (nI zpg23), .int (nI (cm + 1)), .int lst, .int zmd23, .int sd, .int (nI zhd23)]) := zg3_0
  have zh3_1 : zE3 (o + 2) = eI G 500 zcs23 := zg3_1
  have zh3_2 : zE3 (o + 3) = eI G 4 zop23 := zg3_2
  have zk3_0 : zE3 o = .inr (4, [.ref (ad (o + 1)), .ref (ad (o + 4)), .ref (ad (o + 54)), .ref (ad (o + 61)), .ref (ad (o + 62)), .ref (ad (o + 67)), .ref (ad (o + 73)), .ref (ad (o + 74)), .int (nI co)]) := (zf3 _ (by omega) (by omega) (by omega)).trans zk2_0
  have zk3_1 : zE3 w9 = eI G 10 pt := (zf3 _ (by omega) (by omega) (by omega)).trans zk2_3
  have zfr3 : ∀ j, ¬ ((o + 4) ≤ j ∧ j < (o + 54)) → j ≠ (o + 1) → j ≠ (o + 2) → j ≠ (o + 3) → zE3 j = E j := fun j zm0 zm1 zm2 zm3 => (zf3 j zm1 zm2 zm3).trans (zfr2 j zm0 zm1)
  have zy3_rg : Ring G ad zE3 (o + 4) (ntF pa pm s) (ntK pm + 1) := zy2_rg.same (fun j zj1 zj2 => zf3 j (by omega) (by omega) (by omega))
  obtain ⟨ztr, ztb⟩ := zq3
  refine lv_istore_n (lv' := [(2, .int zr3), (0, .ref (ad o)), (1, .ref (ad w9))]) hx hb dX7_comes_32 rfl hl (by decide) rfl (fun ls hl => ?_)
  refine lv_iload_n hx hb dX7_comes_33 rfl (lv_at hl 0 rfl) ?_
  refine r_as (if tkB s pk then 1 else 0) (come_i ztb) ?_
  refine b_if_ne (tgt := 50) hx hb dX7_comes_34 (by decide) (fun zc34 => ?_) (fun zc34 => ?_)
  · refine lv_iload_n hx hb dX7_comes_50 rfl (lv_at hl 0 rfl) ?_
    refine r_as (if tkB s pk then 1 else 0) (come_i ztb) ?_
    exact r_zret C zw3 dX7_comes_51 (by split <;> simp) ⟨zcs23, zop23, zpg23, zhd23, lst, zmd23, zh3_0, zh3_1, zh3_2, (fun j zm0 zm1 zm2 zm3 => zfr3 j (by omega) zm0 zm1 zm2), (by exact ⟨come_y zc34 ztr, zy3_rg, rfl⟩)⟩
  · refine lv_aload_n hx hb dX7_comes_37 rfl (lv_at hl 1 rfl) ?_
    refine r_get C zw3 RX7 TX7 9 4 hinX7 (i := o) (by omega) zk3_0 rfl 0 (by decide) (by decide +kernel) rfl (v := .ref (ad (o + 1))) rfl dX7_comes_38 ?_
    refine lv_dup hx hb dX7_comes_41 rfl ?_
    refine r_get C zw3 RX5 TX5 8 2 hinX5 (i := (o + 1)) (by omega) zh3_0 rfl 4 (by decide) (by decide +kernel) rfl (v := .int lst) rfl dX7_comes_42 ?_
    refine lv_iconst (v := nI 1) hx hb dX7_comes_45 rfl ?_
    refine lv_iadd hx hb dX7_comes_46 ?_
    refine r_put C zw3 RX5 TX5 8 2 hinX5 tyX5 tyX5_ok nmX5 (i := (o + 1)) (by omega) zh3_0 rfl 4 (by decide) (by decide +kernel) rfl rfl (v := .int (lst + (nI 1))) rfl rfl (Nat.le_of_ble_eq_true rfl) dX7_comes_47 (fun zE4 zH4 zL4 zg4 zf4 zw4 => ?_)
    have zh4_0 : zE4 (o + 1) = .inr (2, [.ref (ad (o + 2)), .ref (ad (o + 3)), .int (nI zpg23), .int (nI (cm + 1)), .int (lst + (nI 1)), .int zmd23, .int sd, .int (nI zhd23)]) := zg4
    have zk4_0 : zE4 o = .inr (4, [.ref (ad (o + 1)), .ref (ad (o + 4)), .ref (ad (o + 54)), .ref (ad (o + 61)), .ref (ad (o + 62)), .ref (ad (o + 67)), .ref (ad (o + 73)), .ref (ad (o + 74)), .int (nI co)]) := (zf4 _ (by omega)).trans zk3_0
    have zk4_1 : zE4 w9 = eI G 10 pt := (zf4 _ (by omega)).trans zk3_1
    have zk4_2 : zE4 (o + 2) = eI G 500 zcs23 := (zf4 _ (by omega)).trans zh3_1
    have zk4_3 : zE4 (o + 3) = eI G 4 zop23 := (zf4 _ (by omega)).trans zh3_2
    have zfr4 : ∀ j, ¬ ((o + 4) ≤ j ∧ j < (o + 54)) → j ≠ (o + 1) → j ≠ (o + 2) → j ≠ (o + 3) → zE4 j = E j := fun j zm0 zm1 zm2 zm3 => (zf4 j zm1).trans (zfr3 j zm0 zm1 zm2 zm3)
    have zy4_rg : Ring G ad zE4 (o + 4) (ntF pa pm s) (ntK pm + 1) := zy3_rg.same (fun j zj1 zj2 => zf4 j (by omega))
    refine lv_iload_n hx hb dX7_comes_50 rfl (lv_at hl 0 rfl) ?_
    refine r_as (if tkB s pk then 1 else 0) (come_i ztb) ?_
    exact r_zret C zw4 dX7_comes_51 (by split <;> simp) ⟨zcs23, zop23, zpg23, zhd23, lst + (nI 1), zmd23, zh4_0, zk4_2, zk4_3, (fun j zm0 zm1 zm2 zm3 => zfr4 j (by omega) zm0 zm1 zm2), (by exact ⟨come_n zc34 ztr, zy4_rg, rfl⟩)⟩

set_option maxHeartbeats 4000000 in
set_option maxRecDepth 100000 in
theorem c_X7_isPlace {l : Launch} {G : vG} {tC : Nat} {ad : Nat → Nat} {N : Nat} {E : Nat → va_E} {x y : Int32}  : MI l yX7_isPlace wsX7_isPlace ({ frames := 1, cells := 0, slots := 0, locals := 22 } : Room) G tC ad N E [.int x, .int y] (fun r E2 => E2 = E ∧ r = if (nI 0 ≤ x ∧ x ≤ nI 4) ∧ (nI 0 ≤ y ∧ y ≤ nI 7) then 1 else 0) := by
  refine MI_of RX7 rfl (by decide) rfl (Nat.le_of_ble_eq_true rfl) ?_
  intro pp_ ee_ ss_ mm_ aa_ bb_ me_ cc_ A ls C hw hl
  have hx := C.1
  have hb := C.2.1
  have hown := C.2.2.2.2.1
  have hts := C.2.2.2.2.2.1
  have hl : lv_has ls 2 [(0, .int x), (1, .int y)] := hl
  refine lv_iload_n hx hb dX7_isPlace_0 rfl (lv_at hl 0 rfl) ?_
  refine lv_iconst (v := nI 0) hx hb dX7_isPlace_1 rfl ?_
  refine lv_iconst (v := nI 4) hx hb dX7_isPlace_2 rfl ?_
  refine r_sI C hw hl.1 [.int x, .int (nI 0), .int (nI 4)] 3 rfl (c_X7_isWithin (l := l) (G := G) (tC := tC) (ad := ad) (N := N) (E := E) (x := x) (a := nI 0) (b := nI 4)   ) gX7_isPlace_X7_isWithin rfl ⟨rfl, rfl⟩ (by decide +kernel) ⟨Nat.le_of_ble_eq_true rfl, Nat.le_of_ble_eq_true rfl⟩ (rest := []) rfl (Nat.le_of_ble_eq_true rfl) dX7_isPlace_3 ⟨Nat.zero_le _, Nat.zero_le _⟩ (fun zr1 zE1 zH1 zL1 zp1 zw1 => ?_)
  obtain ⟨ze1, zq1⟩ := zp1
  rw [ze1] at zw1
  clear ze1
  rw [zq1]
  refine b_if_eq (tgt := 23) hx hb dX7_isPlace_6 (by decide) (fun zc6 => ?_) (fun zc6 => ?_)
  · refine lv_iconst (v := nI 0) hx hb dX7_isPlace_23 rfl ?_
    exact r_zret C zw1 dX7_isPlace_24 (Or.inl rfl) ⟨rfl, (by first | (rw [if_pos ⟨zc6, zc16⟩]; rfl) | (rw [if_neg (fun zq => zc16 zq.2)]; rfl) | (rw [if_neg (fun zq => zc6 zq.1)]; rfl))⟩
  · refine lv_iload_n hx hb dX7_isPlace_9 rfl (lv_at hl 1 rfl) ?_
    refine lv_iconst (v := nI 0) hx hb dX7_isPlace_10 rfl ?_
    refine lv_bipush (v := nI 7) hx hb dX7_isPlace_11 rfl ?_
    refine r_sI C zw1 hl.1 [.int y, .int (nI 0), .int (nI 7)] 3 rfl (c_X7_isWithin (l := l) (G := G) (tC := tC) (ad := ad) (N := N) (E := E) (x := y) (a := nI 0) (b := nI 7)   ) gX7_isPlace_X7_isWithin rfl ⟨rfl, rfl⟩ (by decide +kernel) ⟨Nat.le_of_ble_eq_true rfl, Nat.le_of_ble_eq_true rfl⟩ (rest := []) rfl (Nat.le_of_ble_eq_true rfl) dX7_isPlace_13 ⟨Nat.zero_le _, Nat.zero_le _⟩ (fun zr2 zE2 zH2 zL2 zp2 zw2 => ?_)
    obtain ⟨ze2, zq2⟩ := zp2
    rw [ze2] at zw2
    clear ze2
    rw [zq2]
    refine b_if_eq (tgt := 23) hx hb dX7_isPlace_16 (by decide) (fun zc16 => ?_) (fun zc16 => ?_)
    · refine lv_iconst (v := nI 0) hx hb dX7_isPlace_23 rfl ?_
      exact r_zret C zw2 dX7_isPlace_24 (Or.inl rfl) ⟨rfl, (by first | (rw [if_pos ⟨zc6, zc16⟩]; rfl) | (rw [if_neg (fun zq => zc16 zq.2)]; rfl) | (rw [if_neg (fun zq => zc6 zq.1)]; rfl))⟩
    · refine lv_iconst (v := nI 1) hx hb dX7_isPlace_19 rfl ?_
      refine lv_goto (tgt := 24) hx hb dX7_isPlace_20 (by decide) ?_
      exact r_zret C zw2 dX7_isPlace_24 (Or.inr rfl) ⟨rfl, (by first | (rw [if_pos ⟨zc6, zc16⟩]; rfl) | (rw [if_neg (fun zq => zc16 zq.2)]; rfl) | (rw [if_neg (fun zq => zc6 zq.1)]; rfl))⟩

set_option maxHeartbeats 4000000 in
set_option maxRecDepth 100000 in
theorem c_X7_bodyOctet {l : Launch} {G : vG} {tC : Nat} {ad : Nat → Nat} {N : Nat} {E : Nat → va_E} {kd v : Nat} (hkd : kd < 16) (hv : v < 16) : MI l yX7_bodyOctet wsX7_bodyOctet ({ frames := 3, cells := 0, slots := 0, locals := 60 } : Room) G tC ad N E [.int (nI kd), .int (nI v)] (fun r E2 => E2 = E ∧ r = nI (laidN kd v)) := by
  refine MI_of RX7 rfl (by decide) rfl (Nat.le_of_ble_eq_true rfl) ?_
  intro pp_ ee_ ss_ mm_ aa_ bb_ me_ cc_ A ls C hw hl
  have hx := C.1
  have hb := C.2.1
  have hown := C.2.2.2.2.1
  have hts := C.2.2.2.2.2.1
  have hl : lv_has ls 2 [(0, .int (nI kd)), (1, .int (nI v))] := hl
  refine lv_iload_n hx hb dX7_bodyOctet_0 rfl (lv_at hl 0 rfl) ?_
  refine n_if_eq (tgt := 10) hx hb dX7_bodyOctet_1 (by decide) (by omega) (fun zc1 => ?_) (fun zc1 => ?_)
  · refine lv_iload_n hx hb dX7_bodyOctet_10 rfl (lv_at hl 1 rfl) ?_
    refine r_sI C hw hl.1 [.int (nI v)] 1 rfl (c_X1_encode (l := l) (G := G) (tC := tC) (ad := ad) (N := N) (E := E) (v := v)   (by first | assumption | omega)) gX7_bodyOctet_X1_encode rfl ⟨rfl, rfl⟩ (by decide +kernel) ⟨Nat.le_of_ble_eq_true rfl, Nat.le_of_ble_eq_true rfl⟩ (rest := []) rfl (Nat.le_of_ble_eq_true rfl) dX7_bodyOctet_11 ⟨Nat.zero_le _, Nat.zero_le _⟩ (fun zr1 zE1 zH1 zL1 zp1 zw1 => ?_)
    obtain ⟨ze1, zq1⟩ := zp1
    rw [ze1] at zw1
    clear ze1
    rw [zq1]
    refine r_nat (codeN v) (codeT_nI v hv) ?_
    refine lv_goto (tgt := 24) hx hb dX7_bodyOctet_14 (by decide) ?_
    exact r_iret C zw1 dX7_bodyOctet_24 ⟨rfl, (by rw [laidN, if_pos (by first | exact Or.inl zc1 | exact Or.inr zc7)])⟩
  · refine lv_iload_n hx hb dX7_bodyOctet_4 rfl (lv_at hl 0 rfl) ?_
    refine lv_bipush (v := nI 6) hx hb dX7_bodyOctet_5 rfl ?_
    refine n_icmp_ne (tgt := 17) hx hb dX7_bodyOctet_7 (by decide) (by omega) (by omega) (fun zc7 => ?_) (fun zc7 => ?_)
    · refine lv_bipush (v := nI 64) hx hb dX7_bodyOctet_17 rfl ?_
      refine lv_iload_n hx hb dX7_bodyOctet_19 rfl (lv_at hl 1 rfl) ?_
      refine lv_iadd hx hb dX7_bodyOctet_20 ?_
      refine r_nat (64 + v) (nI_add _ _) ?_
      refine r_sI C hw hl.1 [.int (nI (64 + v))] 1 rfl (c_X1_oddOctet (l := l) (G := G) (tC := tC) (ad := ad) (N := N) (E := E) (n := 64 + v)   (by first | assumption | omega)) gX7_bodyOctet_X1_oddOctet rfl ⟨rfl, rfl⟩ (by decide +kernel) ⟨Nat.le_of_ble_eq_true rfl, Nat.le_of_ble_eq_true rfl⟩ (rest := []) rfl (Nat.le_of_ble_eq_true rfl) dX7_bodyOctet_21 ⟨Nat.zero_le _, Nat.zero_le _⟩ (fun zr2 zE2 zH2 zL2 zp2 zw2 => ?_)
      obtain ⟨ze2, zq2⟩ := zp2
      rw [ze2] at zw2
      clear ze2
      rw [zq2]
      exact r_iret C zw2 dX7_bodyOctet_24 ⟨rfl, (by show nI (ltr (64 + v)) = nI (laidN kd v); rw [laidN, if_neg (fun (zq : kd = 0 ∨ kd = 6) => zq.elim zc1 zc7)])⟩
    · refine lv_iload_n hx hb dX7_bodyOctet_10 rfl (lv_at hl 1 rfl) ?_
      refine r_sI C hw hl.1 [.int (nI v)] 1 rfl (c_X1_encode (l := l) (G := G) (tC := tC) (ad := ad) (N := N) (E := E) (v := v)   (by first | assumption | omega)) gX7_bodyOctet_X1_encode rfl ⟨rfl, rfl⟩ (by decide +kernel) ⟨Nat.le_of_ble_eq_true rfl, Nat.le_of_ble_eq_true rfl⟩ (rest := []) rfl (Nat.le_of_ble_eq_true rfl) dX7_bodyOctet_11 ⟨Nat.zero_le _, Nat.zero_le _⟩ (fun zr3 zE3 zH3 zL3 zp3 zw3 => ?_)
      obtain ⟨ze3, zq3⟩ := zp3
      rw [ze3] at zw3
      clear ze3
      rw [zq3]
      refine r_nat (codeN v) (codeT_nI v hv) ?_
      refine lv_goto (tgt := 24) hx hb dX7_bodyOctet_14 (by decide) ?_
      exact r_iret C zw3 dX7_bodyOctet_24 ⟨rfl, (by rw [laidN, if_pos (by first | exact Or.inl zc1 | exact Or.inr zc7)])⟩

set_option maxHeartbeats 4000000 in
set_option maxRecDepth 100000 in
theorem c_X7_drawPacket {l : Launch} {G : vG} {tC : Nat} {ad : Nat → Nat} {N : Nat} {E : Nat → va_E} {o co pg cm hd sn : Nat} {lst md : Int32} {pt : Nat → Int32} (hN0 : o + 75 ≤ N) (hE0 : E o = .inr (4, [.ref (ad (o + 1)), .ref (ad (o + 4)), .ref (ad (o + 54)), .ref (ad (o + 61)), .ref (ad (o + 62)), .ref (ad (o + 67)), .ref (ad (o + 73)), .ref (ad (o + 74)), .int (nI co)])) (hE1 : E (o + 1) = .inr (2, [.ref (ad (o + 2)), .ref (ad (o + 3)), .int (nI pg), .int (nI cm), .int lst, .int md, .int (nI sn), .int (nI hd)])) (hE2 : E (o + 74) = eI G 10 pt) (hsd : sn < 2147483648) : MV l yX7_drawPacket wsX7_drawPacket ({ frames := 4, cells := 0, slots := 0, locals := 81 } : Room) G tC ad N E [.ref (ad o)] (fun E2 => ∃ pt2 : Nat → Int32, E2 (o + 1) = .inr (2, [.ref (ad (o + 2)), .ref (ad (o + 3)), .int (nI pg), .int (nI cm), .int lst, .int md, .int (nI (lcgI sn 11)), .int (nI hd)]) ∧ E2 (o + 74) = eI G 10 pt2 ∧ (∀ j, j ≠ (o + 1) → j ≠ (o + 74) → E2 j = E j) ∧ ∀ x, x < 10 → pt2 x = nI (dpk sn x) ∧ dpk sn x < 256) := by
  refine MV_of RX7 rfl (by decide) rfl (Nat.le_of_ble_eq_true rfl) ?_
  intro pp_ ee_ ss_ mm_ aa_ bb_ me_ cc_ A ls C hw hl
  have hx := C.1
  have hb := C.2.1
  have hown := C.2.2.2.2.1
  have hts := C.2.2.2.2.2.1
  have hl : lv_has ls 4 [(0, .ref (ad o))] := hl
  have hinX7 : ∀ w ∈ u_ws RX7 TX7 9, w ∈ wsX7_drawPacket := by decide +kernel
  refine lv_aload_n hx hb dX7_drawPacket_0 rfl (lv_at hl 0 rfl) ?_
  refine r_get C hw RX7 TX7 9 4 hinX7 (i := o) (by omega) hE0 rfl 0 (by decide) (by decide +kernel) rfl (v := .ref (ad (o + 1))) rfl dX7_drawPacket_1 ?_
  refine lv_iconst (v := nI 4) hx hb dX7_drawPacket_4 rfl ?_
  refine r_vI C hw hl.1 (i := (o + 1)) (by omega) hE1 (T := TX5) (n := 8) rfl [.int (nI 4)] 1 rfl (c_X5_draw (l := l) (G := G) (tC := tC) (ad := ad) (N := N) (E := E) (i := (o + 1)) (pg := pg) (cm := cm) (hd := hd) (lst := lst) (md := md) (sd := nI sn) (sn := sn) (n := 4) (by omega) hE1 rfl hsd (by first | assumption | omega) (by first | assumption | omega)) gX7_drawPacket_X5_draw rfl ⟨rfl, rfl⟩ (by decide +kernel) ⟨Nat.le_of_ble_eq_true rfl, Nat.le_of_ble_eq_true rfl⟩ (rest := []) rfl (Nat.le_of_ble_eq_true rfl) dX7_drawPacket_5 ⟨Nat.zero_le _, Nat.zero_le _⟩ (fun zr1 zE1 zH1 zL1 zp1 zw1 => ?_)
  obtain ⟨zg1_0, zf1, zq1⟩ := zp1
  have zh1_0 : zE1 (o + 1) = .inr (2, [.ref (ad (o + 2)), .ref (ad (o + 3)), .int (nI pg), .int (nI cm), .int lst, .int md, .int (nI (lcg sn)), .int (nI hd)]) := zg1_0
  have zk1_0 : zE1 o = .inr (4, [.ref (ad (o + 1)), .ref (ad (o + 4)), .ref (ad (o + 54)), .ref (ad (o + 61)), .ref (ad (o + 62)), .ref (ad (o + 67)), .ref (ad (o + 73)), .ref (ad (o + 74)), .int (nI co)]) := (zf1 _ (by omega)).trans hE0
  have zk1_1 : zE1 (o + 74) = eI G 10 pt := (zf1 _ (by omega)).trans hE2
  have zfr1 : ∀ j, j ≠ (o + 1) → zE1 j = E j := fun j zm0 => zf1 j zm0
  rw [zq1]
  refine r_nat (drB sn) rfl ?_
  refine lv_istore_n (lv' := [(1, .int (nI (drB sn))), (0, .ref (ad o))]) hx hb dX7_drawPacket_8 rfl hl (by decide) rfl (fun ls hl => ?_)
  refine lv_aload_n hx hb dX7_drawPacket_9 rfl (lv_at hl 1 rfl) ?_
  refine r_get C zw1 RX7 TX7 9 4 hinX7 (i := o) (by omega) zk1_0 rfl 0 (by decide) (by decide +kernel) rfl (v := .ref (ad (o + 1))) rfl dX7_drawPacket_10 ?_
  refine lv_bipush (v := nI 8) hx hb dX7_drawPacket_13 rfl ?_
  refine r_vI C zw1 hl.1 (i := (o + 1)) (by omega) zh1_0 (T := TX5) (n := 8) rfl [.int (nI 8)] 1 rfl (c_X5_draw (l := l) (G := G) (tC := tC) (ad := ad) (N := N) (E := zE1) (i := (o + 1)) (pg := pg) (cm := cm) (hd := hd) (lst := lst) (md := md) (sd := nI (lcg sn)) (sn := (lcg sn)) (n := 8) (by omega) zh1_0 rfl (lcg_lt _) (by first | assumption | omega) (by first | assumption | omega)) gX7_drawPacket_X5_draw rfl ⟨rfl, rfl⟩ (by decide +kernel) ⟨Nat.le_of_ble_eq_true rfl, Nat.le_of_ble_eq_true rfl⟩ (rest := []) rfl (Nat.le_of_ble_eq_true rfl) dX7_drawPacket_15 ⟨Nat.zero_le _, Nat.zero_le _⟩ (fun zr2 zE2 zH2 zL2 zp2 zw2 => ?_)
  obtain ⟨zg2_0, zf2, zq2⟩ := zp2
  have zh2_0 : zE2 (o + 1) = .inr (2, [.ref (ad (o + 2)), .ref (ad (o + 3)), .int (nI pg), .int (nI cm), .int lst, .int md, .int (nI (lcg (lcg sn))), .int (nI hd)]) := zg2_0
  have zk2_0 : zE2 o = .inr (4, [.ref (ad (o + 1)), .ref (ad (o + 4)), .ref (ad (o + 54)), .ref (ad (o + 61)), .ref (ad (o + 62)), .ref (ad (o + 67)), .ref (ad (o + 73)), .ref (ad (o + 74)), .int (nI co)]) := (zf2 _ (by omega)).trans zk1_0
  have zk2_1 : zE2 (o + 74) = eI G 10 pt := (zf2 _ (by omega)).trans zk1_1
  have zfr2 : ∀ j, j ≠ (o + 1) → zE2 j = E j := fun j zm0 => (zf2 j zm0).trans (zfr1 j zm0)
  rw [zq2]
  refine r_nat (drK sn) rfl ?_
  refine lv_istore_n (lv' := [(2, .int (nI (drK sn))), (1, .int (nI (drB sn))), (0, .ref (ad o))]) hx hb dX7_drawPacket_18 rfl hl (by decide) rfl (fun ls hl => ?_)
  refine lv_aload_n hx hb dX7_drawPacket_19 rfl (lv_at hl 2 rfl) ?_
  refine r_get C zw2 RX7 TX7 9 4 hinX7 (i := o) (by omega) zk2_0 rfl 7 (by decide) (by decide +kernel) rfl (v := .ref (ad (o + 74))) rfl dX7_drawPacket_20 ?_
  refine lv_iconst (v := nI 0) hx hb dX7_drawPacket_23 rfl ?_
  refine lv_iload_n hx hb dX7_drawPacket_24 rfl (lv_at hl 1 rfl) ?_
  refine r_sI C zw2 hl.1 [.int (nI (drB sn))] 1 rfl (c_X1_encode (l := l) (G := G) (tC := tC) (ad := ad) (N := N) (E := zE2) (v := drB sn)   (Nat.lt_of_lt_of_le (Nat.mod_lt _ (by omega)) (by omega))) gX7_drawPacket_X1_encode rfl ⟨rfl, rfl⟩ (by decide +kernel) ⟨Nat.le_of_ble_eq_true rfl, Nat.le_of_ble_eq_true rfl⟩ (rest := [.int (nI 0), .ref (ad (o + 74))]) rfl (Nat.le_of_ble_eq_true rfl) dX7_drawPacket_25 ⟨Nat.zero_le _, Nat.zero_le _⟩ (fun zr3 zE3 zH3 zL3 zp3 zw3 => ?_)
  obtain ⟨ze3, zq3⟩ := zp3
  rw [ze3] at zw3
  clear ze3
  rw [zq3]
  refine r_nat (codeN (drB sn)) (codeT_nI _ (Nat.lt_of_lt_of_le (Nat.mod_lt _ (by omega)) (by omega))) ?_
  refine r_iasN C zw3 (i := (o + 74)) (by omega) zk2_1 (j := 0) (by omega) (by omega) dX7_drawPacket_28 (fun zE4 zH4 zL4 zg4 zf4 zw4 => ?_)
  have zh4_0 : zE4 (o + 74) = eI G 10 (upd pt 0 (nI (codeN (drB sn)))) := zg4
  have zk4_0 : zE4 o = .inr (4, [.ref (ad (o + 1)), .ref (ad (o + 4)), .ref (ad (o + 54)), .ref (ad (o + 61)), .ref (ad (o + 62)), .ref (ad (o + 67)), .ref (ad (o + 73)), .ref (ad (o + 74)), .int (nI co)]) := (zf4 _ (by omega)).trans zk2_0
  have zk4_1 : zE4 (o + 1) = .inr (2, [.ref (ad (o + 2)), .ref (ad (o + 3)), .int (nI pg), .int (nI cm), .int lst, .int md, .int (nI (lcg (lcg sn))), .int (nI hd)]) := (zf4 _ (by omega)).trans zh2_0
  have zfr4 : ∀ j, j ≠ (o + 1) → j ≠ (o + 74) → zE4 j = E j := fun j zm0 zm1 => (zf4 j zm1).trans (zfr2 j zm0)
  refine lv_aload_n hx hb dX7_drawPacket_29 rfl (lv_at hl 2 rfl) ?_
  refine r_get C zw4 RX7 TX7 9 4 hinX7 (i := o) (by omega) zk4_0 rfl 7 (by decide) (by decide +kernel) rfl (v := .ref (ad (o + 74))) rfl dX7_drawPacket_30 ?_
  refine lv_iconst (v := nI 1) hx hb dX7_drawPacket_33 rfl ?_
  refine lv_iload_n hx hb dX7_drawPacket_34 rfl (lv_at hl 0 rfl) ?_
  refine r_sI C zw4 hl.1 [.int (nI (drK sn))] 1 rfl (c_X1_encode (l := l) (G := G) (tC := tC) (ad := ad) (N := N) (E := zE4) (v := drK sn)   (Nat.lt_of_lt_of_le (Nat.mod_lt _ (by omega)) (by omega))) gX7_drawPacket_X1_encode rfl ⟨rfl, rfl⟩ (by decide +kernel) ⟨Nat.le_of_ble_eq_true rfl, Nat.le_of_ble_eq_true rfl⟩ (rest := [.int (nI 1), .ref (ad (o + 74))]) rfl (Nat.le_of_ble_eq_true rfl) dX7_drawPacket_35 ⟨Nat.zero_le _, Nat.zero_le _⟩ (fun zr5 zE5 zH5 zL5 zp5 zw5 => ?_)
  obtain ⟨ze5, zq5⟩ := zp5
  rw [ze5] at zw5
  clear ze5
  rw [zq5]
  refine r_nat (codeN (drK sn)) (codeT_nI _ (Nat.lt_of_lt_of_le (Nat.mod_lt _ (by omega)) (by omega))) ?_
  refine r_iasN C zw5 (i := (o + 74)) (by omega) zh4_0 (j := 1) (by omega) (by omega) dX7_drawPacket_38 (fun zE6 zH6 zL6 zg6 zf6 zw6 => ?_)
  have zh6_0 : zE6 (o + 74) = eI G 10 (upd (upd pt 0 (nI (codeN (drB sn)))) 1 (nI (codeN (drK sn)))) := zg6
  have zk6_0 : zE6 o = .inr (4, [.ref (ad (o + 1)), .ref (ad (o + 4)), .ref (ad (o + 54)), .ref (ad (o + 61)), .ref (ad (o + 62)), .ref (ad (o + 67)), .ref (ad (o + 73)), .ref (ad (o + 74)), .int (nI co)]) := (zf6 _ (by omega)).trans zk4_0
  have zk6_1 : zE6 (o + 1) = .inr (2, [.ref (ad (o + 2)), .ref (ad (o + 3)), .int (nI pg), .int (nI cm), .int lst, .int md, .int (nI (lcg (lcg sn))), .int (nI hd)]) := (zf6 _ (by omega)).trans zk4_1
  have zfr6 : ∀ j, j ≠ (o + 1) → j ≠ (o + 74) → zE6 j = E j := fun j zm0 zm1 => (zf6 j zm1).trans (zfr4 j zm0 zm1)
  refine lv_iconst (v := nI 2) hx hb dX7_drawPacket_39 rfl ?_
  refine lv_istore_n (lv' := [(3, .int (nI 2)), (2, .int (nI (drK sn))), (1, .int (nI (drB sn))), (0, .ref (ad o))]) hx hb dX7_drawPacket_40 rfl hl (by decide) rfl (fun ls hl => ?_)
  have zlp41 : ∀ (zn : Nat) (j : Nat) (g : Nat → Int32), 10 - j < zn → (2 ≤ j) → (j ≤ 10) → (∀ x, x < j → g x = nI (dp0 sn x)) → ∀ (E9 : Nat → va_E) (H9 : Heap) (L9 : List Loc), E9 o = .inr (4, [.ref (ad (o + 1)), .ref (ad (o + 4)), .ref (ad (o + 54)), .ref (ad (o + 61)), .ref (ad (o + 62)), .ref (ad (o + 67)), .ref (ad (o + 73)), .ref (ad (o + 74)), .int (nI co)]) → E9 (o + 1) = .inr (2, [.ref (ad (o + 2)), .ref (ad (o + 3)), .int (nI pg), .int (nI cm), .int lst, .int md, .int (nI (lcgI sn j)), .int (nI hd)]) → E9 (o + 74) = eI G 10 g → (∀ j, j ≠ (o + 1) → j ≠ (o + 74) → E9 j = E j) → Wd G A ss_.heap H9 L9 ad E9 N → ∀ (ls : Array Slot), lv_has ls 4 [(0, .ref (ad o)), (2, .int (nI (drK sn))), (3, .int (nI j))] → W pp_ l ee_ ({ frames := 4, cells := 0, slots := 0, locals := 81 } : Room) ss_ mm_ aa_ bb_ me_ cc_ H9 L9 0 0 (QV bb_ aa_ ss_ G ad N A (fun E2 => ∃ pt2 : Nat → Int32, E2 (o + 1) = .inr (2, [.ref (ad (o + 2)), .ref (ad (o + 3)), .int (nI pg), .int (nI cm), .int lst, .int md, .int (nI (lcgI sn 11)), .int (nI hd)]) ∧ E2 (o + 74) = eI G 10 pt2 ∧ (∀ j, j ≠ (o + 1) → j ≠ (o + 74) → E2 j = E j) ∧ ∀ x, x < 10 → pt2 x = nI (dpk sn x) ∧ dpk sn x < 256)) (F0 mm_ 41 ls []) := by
    intro zn
    induction zn with
    | zero => intro j g zhm; exact absurd zhm (Nat.not_lt_zero _)
    | succ zn zih41 =>
      intro j g zhm41 hj2 hj hg zE_41 zH_41 zL_41 zl41_0 zl41_1 zl41_2 zlf41  zlw41 ls hl
      refine lv_iload_n hx hb dX7_drawPacket_41 rfl (lv_at hl 2 rfl) ?_
      refine lv_bipush (v := nI 10) hx hb dX7_drawPacket_42 rfl ?_
      refine n_icmp_ge (tgt := 72) hx hb dX7_drawPacket_44 (by decide) (by omega) (by omega) (fun zc44 => ?_) (fun zc44 => ?_)
      · refine lv_aload_n hx hb dX7_drawPacket_72 rfl (lv_at hl 0 rfl) ?_
        refine r_get C zlw41 RX7 TX7 9 4 hinX7 (i := o) (by omega) zl41_0 rfl 0 (by decide) (by decide +kernel) rfl (v := .ref (ad (o + 1))) rfl dX7_drawPacket_73 ?_
        refine lv_bipush (v := nI 80) hx hb dX7_drawPacket_76 rfl ?_
        refine r_vI C zlw41 hl.1 (i := (o + 1)) (by omega) zl41_1 (T := TX5) (n := 8) rfl [.int (nI 80)] 1 rfl (c_X5_draw (l := l) (G := G) (tC := tC) (ad := ad) (N := N) (E := zE_41) (i := (o + 1)) (pg := pg) (cm := cm) (hd := hd) (lst := lst) (md := md) (sd := nI (lcgI sn j)) (sn := (lcgI sn j)) (n := 80) (by omega) zl41_1 rfl (lcgI_lt hsd j) (by first | assumption | omega) (by first | assumption | omega)) gX7_drawPacket_X5_draw rfl ⟨rfl, rfl⟩ (by decide +kernel) ⟨Nat.le_of_ble_eq_true rfl, Nat.le_of_ble_eq_true rfl⟩ (rest := []) rfl (Nat.le_of_ble_eq_true rfl) dX7_drawPacket_78 ⟨Nat.zero_le _, Nat.zero_le _⟩ (fun zr7 zE7 zH7 zL7 zp7 zw7 => ?_)
        obtain ⟨zg7_0, zf7, zq7⟩ := zp7
        have zh7_0 : zE7 (o + 1) = .inr (2, [.ref (ad (o + 2)), .ref (ad (o + 3)), .int (nI pg), .int (nI cm), .int lst, .int md, .int (nI (lcg (lcgI sn j))), .int (nI hd)]) := zg7_0
        have zk7_0 : zE7 o = .inr (4, [.ref (ad (o + 1)), .ref (ad (o + 4)), .ref (ad (o + 54)), .ref (ad (o + 61)), .ref (ad (o + 62)), .ref (ad (o + 67)), .ref (ad (o + 73)), .ref (ad (o + 74)), .int (nI co)]) := (zf7 _ (by omega)).trans zl41_0
        have zk7_1 : zE7 (o + 74) = eI G 10 g := (zf7 _ (by omega)).trans zl41_2
        have zfr7 : ∀ j, j ≠ (o + 1) → j ≠ (o + 74) → zE7 j = E j := fun j zm0 zm1 => (zf7 j zm0).trans (zlf41 j zm0 zm1)
        rw [zq7]
        refine r_nat (drT sn) (by rw [show j = 10 by omega]; rfl) ?_
        refine lv_istore_n (lv' := [(3, .int (nI (drT sn))), (0, .ref (ad o)), (2, .int (nI (drK sn)))]) hx hb dX7_drawPacket_81 rfl hl (by decide) rfl (fun ls hl => ?_)
        have zt9 : drT sn < 80 := Nat.mod_lt _ (by omega)
        refine lv_aload_n hx hb dX7_drawPacket_82 rfl (lv_at hl 1 rfl) ?_
        refine r_get C zw7 RX7 TX7 9 4 hinX7 (i := o) (by omega) zk7_0 rfl 7 (by decide) (by decide +kernel) rfl (v := .ref (ad (o + 74))) rfl dX7_drawPacket_83 ?_
        refine lv_iload_n hx hb dX7_drawPacket_86 rfl (lv_at hl 0 rfl) ?_
        refine lv_bipush (v := nI 8) hx hb dX7_drawPacket_87 rfl ?_
        refine lv_idiv hx hb dX7_drawPacket_89 (by decide) ?_
        refine r_nat (drT sn / 8) (pk_div (by omega) (by omega) (by omega)) ?_
        refine lv_dup2_11 hx hb dX7_drawPacket_90 rfl rfl ?_
        refine r_iaN C zw7 (i := (o + 74)) (by omega) zk7_1 (j := drT sn / 8) (by omega) (by omega) dX7_drawPacket_91 ?_
        refine r_nat (dp0 sn (drT sn / 8)) (hg _ (by omega)) ?_
        refine lv_iconst (v := nI 1) hx hb dX7_drawPacket_92 rfl ?_
        refine lv_iload_n hx hb dX7_drawPacket_93 rfl (lv_at hl 0 rfl) ?_
        refine lv_bipush (v := nI 8) hx hb dX7_drawPacket_94 rfl ?_
        refine lv_irem hx hb dX7_drawPacket_96 (by decide) ?_
        refine r_nat (drT sn % 8) (pk_rem (by omega) (by omega) (by omega)) ?_
        refine lv_ishl hx hb dX7_drawPacket_97 ?_
        refine r_nat (2 ^ (drT sn % 8)) (shl1 _ (Nat.mod_lt _ (by omega))) ?_
        refine lv_ixor hx hb dX7_drawPacket_98 ?_
        refine r_nat (dp0 sn (drT sn / 8) ^^^ 2 ^ (drT sn % 8)) (xor_nI _ _) ?_
        refine r_iasN C zw7 (i := (o + 74)) (by omega) zk7_1 (j := drT sn / 8) (by omega) (by omega) dX7_drawPacket_99 (fun zE8 zH8 zL8 zg8 zf8 zw8 => ?_)
        have zh8_0 : zE8 (o + 74) = eI G 10 (upd g (drT sn / 8) (nI (dp0 sn (drT sn / 8) ^^^ 2 ^ (drT sn % 8)))) := zg8
        have zk8_0 : zE8 o = .inr (4, [.ref (ad (o + 1)), .ref (ad (o + 4)), .ref (ad (o + 54)), .ref (ad (o + 61)), .ref (ad (o + 62)), .ref (ad (o + 67)), .ref (ad (o + 73)), .ref (ad (o + 74)), .int (nI co)]) := (zf8 _ (by omega)).trans zk7_0
        have zk8_1 : zE8 (o + 1) = .inr (2, [.ref (ad (o + 2)), .ref (ad (o + 3)), .int (nI pg), .int (nI cm), .int lst, .int md, .int (nI (lcg (lcgI sn j))), .int (nI hd)]) := (zf8 _ (by omega)).trans zh7_0
        have zfr8 : ∀ j, j ≠ (o + 1) → j ≠ (o + 74) → zE8 j = E j := fun j zm0 zm1 => (zf8 j zm1).trans (zfr7 j zm0 zm1)
        exact r_vret C zw8 dX7_drawPacket_100 ⟨upd g (drT sn / 8) (nI (dp0 sn (drT sn / 8) ^^^ 2 ^ (drT sn % 8))), (zk8_1.trans (by rw [show j = 10 by omega]; rfl)), zh8_0, (fun j zm0 zm1 => zfr8 j zm0 zm1), (by exact dpk_ok (fun x hx => hg x (by omega)))⟩
      · refine lv_aload_n hx hb dX7_drawPacket_47 rfl (lv_at hl 0 rfl) ?_
        refine r_get C zlw41 RX7 TX7 9 4 hinX7 (i := o) (by omega) zl41_0 rfl 7 (by decide) (by decide +kernel) rfl (v := .ref (ad (o + 74))) rfl dX7_drawPacket_48 ?_
        refine lv_iload_n hx hb dX7_drawPacket_51 rfl (lv_at hl 2 rfl) ?_
        refine lv_iload_n hx hb dX7_drawPacket_52 rfl (lv_at hl 1 rfl) ?_
        refine lv_aload_n hx hb dX7_drawPacket_53 rfl (lv_at hl 0 rfl) ?_
        refine r_get C zlw41 RX7 TX7 9 4 hinX7 (i := o) (by omega) zl41_0 rfl 0 (by decide) (by decide +kernel) rfl (v := .ref (ad (o + 1))) rfl dX7_drawPacket_54 ?_
        refine lv_bipush (v := nI 10) hx hb dX7_drawPacket_57 rfl ?_
        refine r_vI C zlw41 hl.1 (i := (o + 1)) (by omega) zl41_1 (T := TX5) (n := 8) rfl [.int (nI 10)] 1 rfl (c_X5_draw (l := l) (G := G) (tC := tC) (ad := ad) (N := N) (E := zE_41) (i := (o + 1)) (pg := pg) (cm := cm) (hd := hd) (lst := lst) (md := md) (sd := nI (lcgI sn j)) (sn := (lcgI sn j)) (n := 10) (by omega) zl41_1 rfl (lcgI_lt hsd j) (by first | assumption | omega) (by first | assumption | omega)) gX7_drawPacket_X5_draw rfl ⟨rfl, rfl⟩ (by decide +kernel) ⟨Nat.le_of_ble_eq_true rfl, Nat.le_of_ble_eq_true rfl⟩ (rest := [.int (nI (drK sn)), .int (nI j), .ref (ad (o + 74))]) rfl (Nat.le_of_ble_eq_true rfl) dX7_drawPacket_59 ⟨Nat.zero_le _, Nat.zero_le _⟩ (fun zr9 zE9 zH9 zL9 zp9 zw9 => ?_)
        obtain ⟨zg9_0, zf9, zq9⟩ := zp9
        have zh9_0 : zE9 (o + 1) = .inr (2, [.ref (ad (o + 2)), .ref (ad (o + 3)), .int (nI pg), .int (nI cm), .int lst, .int md, .int (nI (lcg (lcgI sn j))), .int (nI hd)]) := zg9_0
        have zk9_0 : zE9 o = .inr (4, [.ref (ad (o + 1)), .ref (ad (o + 4)), .ref (ad (o + 54)), .ref (ad (o + 61)), .ref (ad (o + 62)), .ref (ad (o + 67)), .ref (ad (o + 73)), .ref (ad (o + 74)), .int (nI co)]) := (zf9 _ (by omega)).trans zl41_0
        have zk9_1 : zE9 (o + 74) = eI G 10 g := (zf9 _ (by omega)).trans zl41_2
        have zfr9 : ∀ j, j ≠ (o + 1) → j ≠ (o + 74) → zE9 j = E j := fun j zm0 zm1 => (zf9 j zm0).trans (zlf41 j zm0 zm1)
        rw [zq9]
        refine r_nat (drF sn j) rfl ?_
        refine r_sI C zw9 hl.1 [.int (nI (drK sn)), .int (nI (drF sn j))] 2 rfl (c_X7_bodyOctet (l := l) (G := G) (tC := tC) (ad := ad) (N := N) (E := zE9) (kd := drK sn) (v := drF sn j)   (Nat.lt_of_lt_of_le (Nat.mod_lt _ (by omega)) (by omega)) (Nat.lt_of_lt_of_le (Nat.mod_lt _ (by omega)) (by omega))) gX7_drawPacket_X7_bodyOctet rfl ⟨rfl, rfl⟩ (by decide +kernel) ⟨Nat.le_of_ble_eq_true rfl, Nat.le_of_ble_eq_true rfl⟩ (rest := [.int (nI j), .ref (ad (o + 74))]) rfl (Nat.le_of_ble_eq_true rfl) dX7_drawPacket_62 ⟨Nat.zero_le _, Nat.zero_le _⟩ (fun zr10 zE10 zH10 zL10 zp10 zw10 => ?_)
        obtain ⟨ze10, zq10⟩ := zp10
        rw [ze10] at zw10
        clear ze10
        rw [zq10]
        refine r_iasN C zw10 (i := (o + 74)) (by omega) zk9_1 (j := j) (by omega) (by omega) dX7_drawPacket_65 (fun zE11 zH11 zL11 zg11 zf11 zw11 => ?_)
        have zh11_0 : zE11 (o + 74) = eI G 10 (upd g j (nI (laidN (drK sn) (drF sn j)))) := zg11
        have zk11_0 : zE11 o = .inr (4, [.ref (ad (o + 1)), .ref (ad (o + 4)), .ref (ad (o + 54)), .ref (ad (o + 61)), .ref (ad (o + 62)), .ref (ad (o + 67)), .ref (ad (o + 73)), .ref (ad (o + 74)), .int (nI co)]) := (zf11 _ (by omega)).trans zk9_0
        have zk11_1 : zE11 (o + 1) = .inr (2, [.ref (ad (o + 2)), .ref (ad (o + 3)), .int (nI pg), .int (nI cm), .int lst, .int md, .int (nI (lcg (lcgI sn j))), .int (nI hd)]) := (zf11 _ (by omega)).trans zh9_0
        have zfr11 : ∀ j, j ≠ (o + 1) → j ≠ (o + 74) → zE11 j = E j := fun j zm0 zm1 => (zf11 j zm1).trans (zfr9 j zm0 zm1)
        refine lv_iinc (v := nI (j + 1)) (lv' := [(3, .int (nI (j + 1))), (0, .ref (ad o)), (2, .int (nI (drK sn)))]) hx hb dX7_drawPacket_66 hl (k := 2) rfl (by rw [show Int32.ofInt 1 = nI 1 from rfl, nI_add]) (by decide) rfl (fun ls hl => ?_)
        refine lv_goto (tgt := 41) hx hb dX7_drawPacket_69 (by decide) ?_
        exact zih41 (j + 1) (upd g j (nI (laidN (drK sn) (drF sn j)))) (by omega) (by omega) (by omega) (by exact dp_s hj2 hg) _ _ _ zk11_0 zk11_1 zh11_0 (fun j zm0 zm1 => zfr11 j zm0 zm1) zw11 _ (lv_sub hl [1, 2, 0] rfl)
  exact zlp41 _ 2 (upd (upd pt 0 (nI (codeN (drB sn)))) 1 (nI (codeN (drK sn)))) (Nat.lt_succ_self _) (by omega) (by omega) (by exact dp_init) _ _ _ zk6_0 zk6_1 zh6_0 (fun j zm0 zm1 => zfr6 j zm0 zm1) zw6 _ (lv_sub hl [3, 1, 0] rfl)

