set_option maxHeartbeats 4000000 in
set_option maxRecDepth 100000 in
theorem c_X5_become {l : Launch} {G : vG} {tC : Nat} {ad : Nat → Nat} {N : Nat} {E : Nat → va_E} {i pg cm hd : Nat} {lst md sd : Int32} {cs : Nat → Int32} {op : Nat → Int32} {o pg2 cm2 hd2 : Nat} {lst2 md2 sd2 : Int32} {cs2 op2 : Nat → Int32} (hN0 : i + 3 ≤ N) (hN1 : o + 3 ≤ N) (hE0 : E i = .inr (2, [.ref (ad (i + 1)), .ref (ad (i + 2)), .int (nI pg), .int (nI cm), .int lst, .int md, .int sd, .int (nI hd)])) (hE1 : E (i + 1) = eI G 500 cs) (hE2 : E (i + 2) = eI G 4 op) (hE3 : E o = .inr (2, [.ref (ad (o + 1)), .ref (ad (o + 2)), .int (nI pg2), .int (nI cm2), .int lst2, .int md2, .int sd2, .int (nI hd2)])) (hE4 : E (o + 1) = eI G 500 cs2) (hE5 : E (o + 2) = eI G 4 op2) (hd9 : i + 3 ≤ o ∨ o + 3 ≤ i) (hp2 : pg2 ≤ 10) : MV l yX5_become wsX5_become ({ frames := 1, cells := 0, slots := 0, locals := 40 } : Room) G tC ad N E [.ref (ad i), .ref (ad o)] (fun E2 => E2 i = .inr (2, [.ref (ad (i + 1)), .ref (ad (i + 2)), .int (nI pg2), .int (nI cm2), .int lst2, .int md2, .int sd, .int (nI hd2)]) ∧ E2 (i + 1) = eI G 500 (va_cpy cs2 cs 0 0 (pg2 * 50)) ∧ E2 (i + 2) = eI G 4 (va_cpy op2 op 0 0 4) ∧ (∀ j, j ≠ i → j ≠ (i + 1) → j ≠ (i + 2) → E2 j = E j)) := by
  refine MV_of RX5 rfl (by decide) rfl (Nat.le_of_ble_eq_true rfl) ?_
  intro pp_ ee_ ss_ mm_ aa_ bb_ me_ cc_ A ls C hw hl
  have hx := C.1
  have hb := C.2.1
  have hown := C.2.2.2.2.1
  have hts := C.2.2.2.2.2.1
  have hl : lv_has ls 2 [(0, .ref (ad i)), (1, .ref (ad o))] := hl
  have hinX5 : ∀ w ∈ u_ws RX5 TX5 8, w ∈ wsX5_become := by decide +kernel
  refine lv_aload_n hx hb dX5_become_0 rfl (lv_at hl 1 rfl) ?_
  refine r_get C hw RX5 TX5 8 2 hinX5 (i := o) (by omega) hE3 rfl 0 (by decide) (by decide +kernel) rfl (v := .ref (ad (o + 1))) rfl dX5_become_1 ?_
  refine lv_iconst (v := nI 0) hx hb dX5_become_4 rfl ?_
  refine lv_aload_n hx hb dX5_become_5 rfl (lv_at hl 0 rfl) ?_
  refine r_get C hw RX5 TX5 8 2 hinX5 (i := i) (by omega) hE0 rfl 0 (by decide) (by decide +kernel) rfl (v := .ref (ad (i + 1))) rfl dX5_become_6 ?_
  refine lv_iconst (v := nI 0) hx hb dX5_become_9 rfl ?_
  refine lv_aload_n hx hb dX5_become_10 rfl (lv_at hl 1 rfl) ?_
  refine r_get C hw RX5 TX5 8 2 hinX5 (i := o) (by omega) hE3 rfl 2 (by decide) (by decide +kernel) rfl (v := .int (nI pg2)) rfl dX5_become_11 ?_
  refine lv_bipush (v := nI 50) hx hb dX5_become_14 rfl ?_
  refine lv_imul hx hb dX5_become_16 ?_
  refine r_nat (pg2 * 50) (pk_mul _ _) ?_
  refine r_copy C hw (by rw [C.2.2.2.1]; exact hl.1.symm) (by decide +kernel) (by decide +kernel) (by decide +kernel) (by decide +kernel) (i0 := (o + 1)) (i1 := (i + 1)) (by omega) (by omega) hE4 hE1 (sp := 0) (dp := 0) (n := pg2 * 50) (by omega) (by omega) (by omega) (by omega) (by omega) (by decide) (by decide) dX5_become_17 (fun zE1 zH1 zL1 zg1 zf1 zw1 => ?_)
  have zh1_0 : zE1 (i + 1) = eI G 500 (va_cpy cs2 cs 0 0 (pg2 * 50)) := zg1
  have zk1_0 : zE1 i = .inr (2, [.ref (ad (i + 1)), .ref (ad (i + 2)), .int (nI pg), .int (nI cm), .int lst, .int md, .int sd, .int (nI hd)]) := (zf1 _ (by omega)).trans hE0
  have zk1_1 : zE1 (i + 2) = eI G 4 op := (zf1 _ (by omega)).trans hE2
  have zk1_2 : zE1 o = .inr (2, [.ref (ad (o + 1)), .ref (ad (o + 2)), .int (nI pg2), .int (nI cm2), .int lst2, .int md2, .int sd2, .int (nI hd2)]) := (zf1 _ (by omega)).trans hE3
  have zk1_3 : zE1 (o + 1) = eI G 500 cs2 := (zf1 _ (by omega)).trans hE4
  have zk1_4 : zE1 (o + 2) = eI G 4 op2 := (zf1 _ (by omega)).trans hE5
  have zfr1 : ∀ j, j ≠ (i + 1) → zE1 j = E j := fun j zm0 => zf1 j zm0
  refine lv_aload_n hx hb dX5_become_20 rfl (lv_at hl 1 rfl) ?_
  refine r_get C zw1 RX5 TX5 8 2 hinX5 (i := o) (by omega) zk1_2 rfl 1 (by decide) (by decide +kernel) rfl (v := .ref (ad (o + 2))) rfl dX5_become_21 ?_
  refine lv_iconst (v := nI 0) hx hb dX5_become_24 rfl ?_
  refine lv_aload_n hx hb dX5_become_25 rfl (lv_at hl 0 rfl) ?_
  refine r_get C zw1 RX5 TX5 8 2 hinX5 (i := i) (by omega) zk1_0 rfl 1 (by decide) (by decide +kernel) rfl (v := .ref (ad (i + 2))) rfl dX5_become_26 ?_
  refine lv_iconst (v := nI 0) hx hb dX5_become_29 rfl ?_
  refine lv_aload_n hx hb dX5_become_30 rfl (lv_at hl 0 rfl) ?_
  refine r_get C zw1 RX5 TX5 8 2 hinX5 (i := i) (by omega) zk1_0 rfl 1 (by decide) (by decide +kernel) rfl (v := .ref (ad (i + 2))) rfl dX5_become_31 ?_
  refine r_alenI C zw1 (i := (i + 2)) (by omega) zk1_1 dX5_become_34 ?_
  refine r_copy C zw1 (by rw [C.2.2.2.1]; exact hl.1.symm) (by decide +kernel) (by decide +kernel) (by decide +kernel) (by decide +kernel) (i0 := (o + 2)) (i1 := (i + 2)) (by omega) (by omega) zk1_4 zk1_1 (sp := 0) (dp := 0) (n := 4) (by omega) (by omega) (by omega) (by omega) (by omega) (by decide) (by decide) dX5_become_35 (fun zE2 zH2 zL2 zg2 zf2 zw2 => ?_)
  have zh2_0 : zE2 (i + 2) = eI G 4 (va_cpy op2 op 0 0 4) := zg2
  have zk2_0 : zE2 i = .inr (2, [.ref (ad (i + 1)), .ref (ad (i + 2)), .int (nI pg), .int (nI cm), .int lst, .int md, .int sd, .int (nI hd)]) := (zf2 _ (by omega)).trans zk1_0
  have zk2_1 : zE2 o = .inr (2, [.ref (ad (o + 1)), .ref (ad (o + 2)), .int (nI pg2), .int (nI cm2), .int lst2, .int md2, .int sd2, .int (nI hd2)]) := (zf2 _ (by omega)).trans zk1_2
  have zk2_2 : zE2 (o + 1) = eI G 500 cs2 := (zf2 _ (by omega)).trans zk1_3
  have zk2_3 : zE2 (o + 2) = eI G 4 op2 := (zf2 _ (by omega)).trans zk1_4
  have zk2_4 : zE2 (i + 1) = eI G 500 (va_cpy cs2 cs 0 0 (pg2 * 50)) := (zf2 _ (by omega)).trans zh1_0
  have zfr2 : ∀ j, j ≠ (i + 1) → j ≠ (i + 2) → zE2 j = E j := fun j zm0 zm1 => (zf2 j zm1).trans (zfr1 j zm0)
  refine lv_aload_n hx hb dX5_become_38 rfl (lv_at hl 0 rfl) ?_
  refine lv_aload_n hx hb dX5_become_39 rfl (lv_at hl 1 rfl) ?_
  refine r_get C zw2 RX5 TX5 8 2 hinX5 (i := o) (by omega) zk2_1 rfl 2 (by decide) (by decide +kernel) rfl (v := .int (nI pg2)) rfl dX5_become_40 ?_
  refine r_put C zw2 RX5 TX5 8 2 hinX5 tyX5 tyX5_ok nmX5 (i := i) (by omega) zk2_0 rfl 2 (by decide) (by decide +kernel) rfl rfl (v := .int (nI pg2)) rfl rfl (Nat.le_of_ble_eq_true rfl) dX5_become_43 (fun zE3 zH3 zL3 zg3 zf3 zw3 => ?_)
  have zh3_0 : zE3 i = .inr (2, [.ref (ad (i + 1)), .ref (ad (i + 2)), .int (nI pg2), .int (nI cm), .int lst, .int md, .int sd, .int (nI hd)]) := zg3
  have zk3_0 : zE3 o = .inr (2, [.ref (ad (o + 1)), .ref (ad (o + 2)), .int (nI pg2), .int (nI cm2), .int lst2, .int md2, .int sd2, .int (nI hd2)]) := (zf3 _ (by omega)).trans zk2_1
  have zk3_1 : zE3 (o + 1) = eI G 500 cs2 := (zf3 _ (by omega)).trans zk2_2
  have zk3_2 : zE3 (o + 2) = eI G 4 op2 := (zf3 _ (by omega)).trans zk2_3
  have zk3_3 : zE3 (i + 1) = eI G 500 (va_cpy cs2 cs 0 0 (pg2 * 50)) := (zf3 _ (by omega)).trans zk2_4
  have zk3_4 : zE3 (i + 2) = eI G 4 (va_cpy op2 op 0 0 4) := (zf3 _ (by omega)).trans zh2_0
  have zfr3 : ∀ j, j ≠ (i + 1) → j ≠ (i + 2) → j ≠ i → zE3 j = E j := fun j zm0 zm1 zm2 => (zf3 j zm2).trans (zfr2 j zm0 zm1)
  refine lv_aload_n hx hb dX5_become_46 rfl (lv_at hl 0 rfl) ?_
  refine lv_aload_n hx hb dX5_become_47 rfl (lv_at hl 1 rfl) ?_
  refine r_get C zw3 RX5 TX5 8 2 hinX5 (i := o) (by omega) zk3_0 rfl 3 (by decide) (by decide +kernel) rfl (v := .int (nI cm2)) rfl dX5_become_48 ?_
  refine r_put C zw3 RX5 TX5 8 2 hinX5 tyX5 tyX5_ok nmX5 (i := i) (by omega) zh3_0 rfl 3 (by decide) (by decide +kernel) rfl rfl (v := .int (nI cm2)) rfl rfl (Nat.le_of_ble_eq_true rfl) dX5_become_51 (fun zE4 zH4 zL4 zg4 zf4 zw4 => ?_)
  have zh4_0 : zE4 i = .inr (2, [.ref (ad (i + 1)), .ref (ad (i + 2)), .int (nI pg2), .int (nI cm2), .int lst, .int md, .int sd, .int (nI hd)]) := zg4
  have zk4_0 : zE4 o = .inr (2, [.ref (ad (o + 1)), .ref (ad (o + 2)), .int (nI pg2), .int (nI cm2), .int lst2, .int md2, .int sd2, .int (nI hd2)]) := (zf4 _ (by omega)).trans zk3_0
  have zk4_1 : zE4 (o + 1) = eI G 500 cs2 := (zf4 _ (by omega)).trans zk3_1
  have zk4_2 : zE4 (o + 2) = eI G 4 op2 := (zf4 _ (by omega)).trans zk3_2
  have zk4_3 : zE4 (i + 1) = eI G 500 (va_cpy cs2 cs 0 0 (pg2 * 50)) := (zf4 _ (by omega)).trans zk3_3
  have zk4_4 : zE4 (i + 2) = eI G 4 (va_cpy op2 op 0 0 4) := (zf4 _ (by omega)).trans zk3_4
  have zfr4 : ∀ j, j ≠ (i + 1) → j ≠ (i + 2) → j ≠ i → zE4 j = E j := fun j zm0 zm1 zm2 => (zf4 j zm2).trans (zfr3 j zm0 zm1 zm2)
  refine lv_aload_n hx hb dX5_become_54 rfl (lv_at hl 0 rfl) ?_
  refine lv_aload_n hx hb dX5_become_55 rfl (lv_at hl 1 rfl) ?_
  refine r_get C zw4 RX5 TX5 8 2 hinX5 (i := o) (by omega) zk4_0 rfl 4 (by decide) (by decide +kernel) rfl (v := .int lst2) rfl dX5_become_56 ?_
  refine r_put C zw4 RX5 TX5 8 2 hinX5 tyX5 tyX5_ok nmX5 (i := i) (by omega) zh4_0 rfl 4 (by decide) (by decide +kernel) rfl rfl (v := .int lst2) rfl rfl (Nat.le_of_ble_eq_true rfl) dX5_become_59 (fun zE5 zH5 zL5 zg5 zf5 zw5 => ?_)
  have zh5_0 : zE5 i = .inr (2, [.ref (ad (i + 1)), .ref (ad (i + 2)), .int (nI pg2), .int (nI cm2), .int lst2, .int md, .int sd, .int (nI hd)]) := zg5
  have zk5_0 : zE5 o = .inr (2, [.ref (ad (o + 1)), .ref (ad (o + 2)), .int (nI pg2), .int (nI cm2), .int lst2, .int md2, .int sd2, .int (nI hd2)]) := (zf5 _ (by omega)).trans zk4_0
  have zk5_1 : zE5 (o + 1) = eI G 500 cs2 := (zf5 _ (by omega)).trans zk4_1
  have zk5_2 : zE5 (o + 2) = eI G 4 op2 := (zf5 _ (by omega)).trans zk4_2
  have zk5_3 : zE5 (i + 1) = eI G 500 (va_cpy cs2 cs 0 0 (pg2 * 50)) := (zf5 _ (by omega)).trans zk4_3
  have zk5_4 : zE5 (i + 2) = eI G 4 (va_cpy op2 op 0 0 4) := (zf5 _ (by omega)).trans zk4_4
  have zfr5 : ∀ j, j ≠ (i + 1) → j ≠ (i + 2) → j ≠ i → zE5 j = E j := fun j zm0 zm1 zm2 => (zf5 j zm2).trans (zfr4 j zm0 zm1 zm2)
  refine lv_aload_n hx hb dX5_become_62 rfl (lv_at hl 0 rfl) ?_
  refine lv_aload_n hx hb dX5_become_63 rfl (lv_at hl 1 rfl) ?_
  refine r_get C zw5 RX5 TX5 8 2 hinX5 (i := o) (by omega) zk5_0 rfl 5 (by decide) (by decide +kernel) rfl (v := .int md2) rfl dX5_become_64 ?_
  refine r_put C zw5 RX5 TX5 8 2 hinX5 tyX5 tyX5_ok nmX5 (i := i) (by omega) zh5_0 rfl 5 (by decide) (by decide +kernel) rfl rfl (v := .int md2) rfl rfl (Nat.le_of_ble_eq_true rfl) dX5_become_67 (fun zE6 zH6 zL6 zg6 zf6 zw6 => ?_)
  have zh6_0 : zE6 i = .inr (2, [.ref (ad (i + 1)), .ref (ad (i + 2)), .int (nI pg2), .int (nI cm2), .int lst2, .int md2, .int sd, .int (nI hd)]) := zg6
  have zk6_0 : zE6 o = .inr (2, [.ref (ad (o + 1)), .ref (ad (o + 2)), .int (nI pg2), .int (nI cm2), .int lst2, .int md2, .int sd2, .int (nI hd2)]) := (zf6 _ (by omega)).trans zk5_0
  have zk6_1 : zE6 (o + 1) = eI G 500 cs2 := (zf6 _ (by omega)).trans zk5_1
  have zk6_2 : zE6 (o + 2) = eI G 4 op2 := (zf6 _ (by omega)).trans zk5_2
  have zk6_3 : zE6 (i + 1) = eI G 500 (va_cpy cs2 cs 0 0 (pg2 * 50)) := (zf6 _ (by omega)).trans zk5_3
  have zk6_4 : zE6 (i + 2) = eI G 4 (va_cpy op2 op 0 0 4) := (zf6 _ (by omega)).trans zk5_4
  have zfr6 : ∀ j, j ≠ (i + 1) → j ≠ (i + 2) → j ≠ i → zE6 j = E j := fun j zm0 zm1 zm2 => (zf6 j zm2).trans (zfr5 j zm0 zm1 zm2)
  refine lv_aload_n hx hb dX5_become_70 rfl (lv_at hl 0 rfl) ?_
  refine lv_aload_n hx hb dX5_become_71 rfl (lv_at hl 1 rfl) ?_
  refine r_get C zw6 RX5 TX5 8 2 hinX5 (i := o) (by omega) zk6_0 rfl 7 (by decide) (by decide +kernel) rfl (v := .int (nI hd2)) rfl dX5_become_72 ?_
  refine r_put C zw6 RX5 TX5 8 2 hinX5 tyX5 tyX5_ok nmX5 (i := i) (by omega) zh6_0 rfl 7 (by decide) (by decide +kernel) rfl rfl (v := .int (nI hd2)) rfl rfl (Nat.le_of_ble_eq_true rfl) dX5_become_75 (fun zE7 zH7 zL7 zg7 zf7 zw7 => ?_)
  have zh7_0 : zE7 i = .inr (2, [.ref (ad (i + 1)), .ref (ad (i + 2)), .int (nI pg2), .int (nI cm2), .int lst2, .int md2, .int sd, .int (nI hd2)]) := zg7
  have zk7_0 : zE7 o = .inr (2, [.ref (ad (o + 1)), .ref (ad (o + 2)), .int (nI pg2), .int (nI cm2), .int lst2, .int md2, .int sd2, .int (nI hd2)]) := (zf7 _ (by omega)).trans zk6_0
  have zk7_1 : zE7 (o + 1) = eI G 500 cs2 := (zf7 _ (by omega)).trans zk6_1
  have zk7_2 : zE7 (o + 2) = eI G 4 op2 := (zf7 _ (by omega)).trans zk6_2
  have zk7_3 : zE7 (i + 1) = eI G 500 (va_cpy cs2 cs 0 0 (pg2 * 50)) := (zf7 _ (by omega)).trans zk6_3
  have zk7_4 : zE7 (i + 2) = eI G 4 (va_cpy op2 op 0 0 4) := (zf7 _ (by omega)).trans zk6_4
  have zfr7 : ∀ j, j ≠ (i + 1) → j ≠ (i + 2) → j ≠ i → zE7 j = E j := fun j zm0 zm1 zm2 => (zf7 j zm2).trans (zfr6 j zm0 zm1 zm2)
  exact r_vret C zw7 dX5_become_78 ⟨zh7_0, zk7_3, zk7_4, (fun j zm0 zm1 zm2 => zfr7 j zm1 zm2 zm0)⟩

set_option maxHeartbeats 4000000 in
set_option maxRecDepth 100000 in
theorem c_X5_draw {l : Launch} {G : vG} {tC : Nat} {ad : Nat → Nat} {N : Nat} {E : Nat → va_E} {i pg cm hd : Nat} {lst md sd : Int32} {sn n : Nat} (hN0 : i + 3 ≤ N) (hE0 : E i = .inr (2, [.ref (ad (i + 1)), .ref (ad (i + 2)), .int (nI pg), .int (nI cm), .int lst, .int md, .int sd, .int (nI hd)])) (hsn : sd = nI sn) (hsd : sn < 2147483648) (hn1 : 1 ≤ n) (hn : n < 2147483648) : MI l yX5_draw wsX5_draw ({ frames := 1, cells := 0, slots := 0, locals := 22 } : Room) G tC ad N E [.ref (ad i), .int (nI n)] (fun r E2 => E2 i = .inr (2, [.ref (ad (i + 1)), .ref (ad (i + 2)), .int (nI pg), .int (nI cm), .int lst, .int md, .int (nI (lcg sn)), .int (nI hd)]) ∧ (∀ j, j ≠ i → E2 j = E j) ∧ r = nI (lcg sn / 65536 % n)) := by
  refine MI_of RX5 rfl (by decide) rfl (Nat.le_of_ble_eq_true rfl) ?_
  intro pp_ ee_ ss_ mm_ aa_ bb_ me_ cc_ A ls C hw hl
  have hx := C.1
  have hb := C.2.1
  have hown := C.2.2.2.2.1
  have hts := C.2.2.2.2.2.1
  have hl : lv_has ls 2 [(0, .ref (ad i)), (1, .int (nI n))] := hl
  have hinX5 : ∀ w ∈ u_ws RX5 TX5 8, w ∈ wsX5_draw := by decide +kernel
  refine lv_aload_n hx hb dX5_draw_0 rfl (lv_at hl 0 rfl) ?_
  refine lv_aload_n hx hb dX5_draw_1 rfl (lv_at hl 0 rfl) ?_
  refine r_get C hw RX5 TX5 8 2 hinX5 (i := i) (by omega) hE0 rfl 6 (by decide) (by decide +kernel) rfl (v := .int sd) rfl dX5_draw_2 ?_
  refine lv_i2l (v := sd.toInt64) hx hb dX5_draw_5 rfl ?_
  refine r_asL (lN sn) (by rw [hsn]; exact nI_l hsd) ?_
  refine lv_ldc2 (v := 1103515245) hx hb hown (hts (.constantLong RX5 49 (1103515245)) (by decide +kernel)) dX5_draw_6 ?_
  refine lv_lmul hx hb dX5_draw_9 ?_
  refine r_asL (lN (sn * 1103515245)) (lN_mul _ _) ?_
  refine lv_ldc2 (v := 12345) hx hb hown (hts (.constantLong RX5 51 (12345)) (by decide +kernel)) dX5_draw_10 ?_
  refine lv_ladd hx hb dX5_draw_13 ?_
  refine r_asL (lN (sn * 1103515245 + 12345)) (lN_add _ _) ?_
  refine lv_ldc2 (v := 2147483648) hx hb hown (hts (.constantLong RX5 53 (2147483648)) (by decide +kernel)) dX5_draw_14 ?_
  refine lv_lrem hx hb dX5_draw_17 (by decide) ?_
  refine r_asL (lN (lcg sn)) (lcg_L hsd) ?_
  refine lv_l2i (v := (lN (lcg sn)).toInt32) hx hb dX5_draw_18 rfl ?_
  refine r_nat (lcg sn) (lN_i _) ?_
  refine r_put C hw RX5 TX5 8 2 hinX5 tyX5 tyX5_ok nmX5 (i := i) (by omega) hE0 rfl 6 (by decide) (by decide +kernel) rfl rfl (v := .int (nI (lcg sn))) rfl rfl (Nat.le_of_ble_eq_true rfl) dX5_draw_19 (fun zE1 zH1 zL1 zg1 zf1 zw1 => ?_)
  have zh1_0 : zE1 i = .inr (2, [.ref (ad (i + 1)), .ref (ad (i + 2)), .int (nI pg), .int (nI cm), .int lst, .int md, .int (nI (lcg sn)), .int (nI hd)]) := zg1
  have zfr1 : ∀ j, j ≠ i → zE1 j = E j := fun j zm0 => zf1 j zm0
  refine lv_iload_n hx hb dX5_draw_22 rfl (lv_at hl 1 rfl) ?_
  refine lv_iconst (v := nI 1) hx hb dX5_draw_23 rfl ?_
  refine n_icmp_ge (tgt := 31) hx hb dX5_draw_24 (by decide) (by omega) (by omega) (fun zc24 => ?_) (fun zc24 => ?_)
  · refine lv_aload_n hx hb dX5_draw_31 rfl (lv_at hl 0 rfl) ?_
    refine r_get C zw1 RX5 TX5 8 2 hinX5 (i := i) (by omega) zh1_0 rfl 6 (by decide) (by decide +kernel) rfl (v := .int (nI (lcg sn))) rfl dX5_draw_32 ?_
    refine lv_ldc (v := 65536) hx hb hown (hts (.constant RX5 55 (65536)) (by decide +kernel)) dX5_draw_35 ?_
    refine r_nat 65536 rfl ?_
    refine lv_idiv hx hb dX5_draw_37 (by decide) ?_
    refine r_nat (lcg sn / 65536) (pk_div (by have := lcg_lt sn; omega) (by omega) (by omega)) ?_
    refine lv_iload_n hx hb dX5_draw_38 rfl (lv_at hl 1 rfl) ?_
    refine r_sI C zw1 hl.1 [.int (nI (lcg sn / 65536)), .int (nI n)] 2 rfl (c_J9_floorMod_7cf53_p (l := l) (G := G) (tC := tC) (ad := ad) (N := N) (E := zE1) (a := lcg sn / 65536) (b := n)   (by have := lcg_lt sn; omega) (by first | assumption | omega) (by first | assumption | omega)) gX5_draw_J9_floorMod_7cf53 rfl ⟨rfl, rfl⟩ (by decide +kernel) ⟨Nat.le_of_ble_eq_true rfl, Nat.le_of_ble_eq_true rfl⟩ (rest := []) rfl (Nat.le_of_ble_eq_true rfl) dX5_draw_39 ⟨Nat.zero_le _, Nat.zero_le _⟩ (fun zr2 zE2 zH2 zL2 zp2 zw2 => ?_)
    obtain ⟨ze2, zq2⟩ := zp2
    rw [ze2] at zw2
    clear ze2
    rw [zq2]
    exact r_iret C zw2 dX5_draw_42 ⟨zh1_0, (fun j zm0 => zfr1 j zm0), (by rfl)⟩
  · exact absurd zc24 (by omega)

set_option maxHeartbeats 4000000 in
set_option maxRecDepth 100000 in
theorem c_X5_countMended {l : Launch} {G : vG} {tC : Nat} {ad : Nat → Nat} {N : Nat} {E : Nat → va_E} {i pg cm hd : Nat} {lst md sd : Int32} {w9 : Nat} {pt : Nat → Int32} {pk : Nat → Nat} {a b : Nat} (hN0 : i + 3 ≤ N) (hN1 : w9 + 1 ≤ N) (hE0 : E i = .inr (2, [.ref (ad (i + 1)), .ref (ad (i + 2)), .int (nI pg), .int (nI cm), .int lst, .int md, .int sd, .int (nI hd)])) (hE1 : E w9 = eI G 10 pt) (hw9 : w9 < i ∨ i + 3 ≤ w9) (hpk : ∀ j, j < 10 → pt j = nI (pk j) ∧ pk j < 256) (hab : a ≤ b) (hb10 : b ≤ 10) : MV l yX5_countMended wsX5_countMended ({ frames := 2, cells := 0, slots := 0, locals := 41 } : Room) G tC ad N E [.ref (ad i), .ref (ad w9), .int (nI a), .int (nI b)] (fun E2 => E2 i = .inr (2, [.ref (ad (i + 1)), .ref (ad (i + 2)), .int (nI pg), .int (nI cm), .int lst, .int (mdF pk a (b - a) md), .int sd, .int (nI hd)]) ∧ (∀ j, j ≠ i → E2 j = E j)) := by
  refine MV_of RX5 rfl (by decide) rfl (Nat.le_of_ble_eq_true rfl) ?_
  intro pp_ ee_ ss_ mm_ aa_ bb_ me_ cc_ A ls C hw hl
  have hx := C.1
  have hb := C.2.1
  have hown := C.2.2.2.2.1
  have hts := C.2.2.2.2.2.1
  have hl : lv_has ls 6 [(0, .ref (ad i)), (1, .ref (ad w9)), (2, .int (nI a)), (3, .int (nI b))] := hl
  have hinX5 : ∀ w ∈ u_ws RX5 TX5 8, w ∈ wsX5_countMended := by decide +kernel
  refine lv_iload_n hx hb dX5_countMended_0 rfl (lv_at hl 2 rfl) ?_
  refine lv_istore (lv' := [(4, .int (nI a)), (0, .ref (ad i)), (1, .ref (ad w9)), (2, .int (nI a)), (3, .int (nI b))]) hx hb dX5_countMended_1 hl (by decide) rfl (fun ls hl => ?_)
  have zlp3 : ∀ (zn : Nat) (k : Nat) (m2 : Int32), b - k < zn → (a ≤ k) → (k ≤ b) → (m2 = mdF pk a (k - a) md) → ∀ (E9 : Nat → va_E) (H9 : Heap) (L9 : List Loc), E9 i = .inr (2, [.ref (ad (i + 1)), .ref (ad (i + 2)), .int (nI pg), .int (nI cm), .int lst, .int m2, .int sd, .int (nI hd)]) → E9 w9 = eI G 10 pt → (∀ j, j ≠ i → E9 j = E j) → Wd G A ss_.heap H9 L9 ad E9 N → ∀ (ls : Array Slot), lv_has ls 6 [(0, .ref (ad i)), (1, .ref (ad w9)), (3, .int (nI b)), (4, .int (nI k))] → W pp_ l ee_ ({ frames := 2, cells := 0, slots := 0, locals := 41 } : Room) ss_ mm_ aa_ bb_ me_ cc_ H9 L9 0 0 (QV bb_ aa_ ss_ G ad N A (fun E2 => E2 i = .inr (2, [.ref (ad (i + 1)), .ref (ad (i + 2)), .int (nI pg), .int (nI cm), .int lst, .int (mdF pk a (b - a) md), .int sd, .int (nI hd)]) ∧ (∀ j, j ≠ i → E2 j = E j))) (F0 mm_ 3 ls []) := by
    intro zn
    induction zn with
    | zero => intro k m2 zhm; exact absurd zhm (Nat.not_lt_zero _)
    | succ zn zih3 =>
      intro k m2 zhm3 hk1 hk2 hm zE_3 zH_3 zL_3 zl3_0 zl3_1 zlf3  zlw3 ls hl
      refine lv_iload hx hb dX5_countMended_3 (lv_at hl 3 rfl) ?_
      refine lv_iload_n hx hb dX5_countMended_5 rfl (lv_at hl 2 rfl) ?_
      refine n_icmp_ge (tgt := 68) hx hb dX5_countMended_6 (by decide) (by omega) (by omega) (fun zc6 => ?_) (fun zc6 => ?_)
      · exact r_vret C zlw3 dX5_countMended_68 ⟨(zl3_0.trans (by rw [hm, show k = b by omega])), (fun j zm0 => zlf3 j zm0)⟩
      · refine lv_iload hx hb dX5_countMended_9 (lv_at hl 3 rfl) ?_
        refine lv_aload_n hx hb dX5_countMended_11 rfl (lv_at hl 1 rfl) ?_
        refine r_alenI C zlw3 (i := w9) (by omega) zl3_1 dX5_countMended_12 ?_
        refine n_icmp_ge (tgt := 68) hx hb dX5_countMended_13 (by decide) (by omega) (by omega) (fun zc13 => ?_) (fun zc13 => ?_)
        · exact absurd zc13 (by omega)
        · refine lv_aload_n hx hb dX5_countMended_16 rfl (lv_at hl 1 rfl) ?_
          refine lv_iload hx hb dX5_countMended_17 (lv_at hl 3 rfl) ?_
          refine r_iaN C zlw3 (i := w9) (by omega) zl3_1 (j := k) (by omega) (by omega) dX5_countMended_19 ?_
          refine r_nat (pk k) (hpk k (by omega)).1 ?_
          refine r_sI C zlw3 hl.1 [.int (nI (pk k))] 1 rfl (c_X1_decode (l := l) (G := G) (tC := tC) (ad := ad) (N := N) (E := zE_3) (o := pk k)   (hpk k (by omega)).2) gX5_countMended_X1_decode rfl ⟨rfl, rfl⟩ (by decide +kernel) ⟨Nat.le_of_ble_eq_true rfl, Nat.le_of_ble_eq_true rfl⟩ (rest := []) rfl (Nat.le_of_ble_eq_true rfl) dX5_countMended_20 ⟨Nat.zero_le _, Nat.zero_le _⟩ (fun zr1 zE1 zH1 zL1 zp1 zw1 => ?_)
          obtain ⟨ze1, zq1⟩ := zp1
          rw [ze1] at zw1
          clear ze1
          rw [zq1]
          refine lv_istore (lv' := [(5, .int (dec (pk k))), (0, .ref (ad i)), (1, .ref (ad w9)), (3, .int (nI b)), (4, .int (nI k))]) hx hb dX5_countMended_23 hl (by decide) rfl (fun ls hl => ?_)
          refine lv_iload hx hb dX5_countMended_25 (lv_at hl 0 rfl) ?_
          refine lv_iconst (v := -1) hx hb dX5_countMended_27 (by decide) ?_
          refine lv_icmp_eq (tgt := 62) hx hb dX5_countMended_28 (by decide) (fun zc28 => ?_) (fun zc28 => ?_)
          · refine lv_iinc (v := nI (k + 1)) (lv' := [(4, .int (nI (k + 1))), (5, .int (dec (pk k))), (0, .ref (ad i)), (1, .ref (ad w9)), (3, .int (nI b))]) hx hb dX5_countMended_62 hl (k := 4) rfl (by rw [show Int32.ofInt 1 = nI 1 from rfl, nI_add]) (by decide) rfl (fun ls hl => ?_)
            refine lv_goto (tgt := 3) hx hb dX5_countMended_65 (by decide) ?_
            exact zih3 (k + 1) m2 (by omega) (by omega) (by omega) (by rw [mdF_s _ _ hk1, ← hm]; simp only [mend1]; rw [if_neg (fun zq => (dec_m1.mp zc28) zq.1.1)]) _ _ _ zl3_0 zl3_1 (fun j zm0 => zlf3 j zm0) zw1 _ (lv_sub hl [2, 3, 4, 0] rfl)
          · refine lv_aload_n hx hb dX5_countMended_31 rfl (lv_at hl 2 rfl) ?_
            refine lv_iload hx hb dX5_countMended_32 (lv_at hl 4 rfl) ?_
            refine r_iaN C zw1 (i := w9) (by omega) zl3_1 (j := k) (by omega) (by omega) dX5_countMended_34 ?_
            refine r_nat (pk k) (hpk k (by omega)).1 ?_
            refine lv_iload hx hb dX5_countMended_35 (lv_at hl 0 rfl) ?_
            refine r_nat (decN (pk k)) (dec_nat zc28).1 ?_
            refine r_sI C zw1 hl.1 [.int (nI (decN (pk k)))] 1 rfl (c_X1_encode (l := l) (G := G) (tC := tC) (ad := ad) (N := N) (E := zE_3) (v := decN (pk k))   (dec_nat zc28).2) gX5_countMended_X1_encode rfl ⟨rfl, rfl⟩ (by decide +kernel) ⟨Nat.le_of_ble_eq_true rfl, Nat.le_of_ble_eq_true rfl⟩ (rest := [.int (nI (pk k))]) rfl (Nat.le_of_ble_eq_true rfl) dX5_countMended_37 ⟨Nat.zero_le _, Nat.zero_le _⟩ (fun zr2 zE2 zH2 zL2 zp2 zw2 => ?_)
            obtain ⟨ze2, zq2⟩ := zp2
            rw [ze2] at zw2
            clear ze2
            rw [zq2]
            refine r_nat (codeN (decN (pk k))) (codeT_nI _ (dec_nat zc28).2) ?_
            have zb7 := codeN_lt _ (dec_nat zc28).2
            have zb6 := (hpk k (by omega)).2
            refine n_icmp_eq (tgt := 62) hx hb dX5_countMended_40 (by decide) (by omega) (by omega) (fun zc40 => ?_) (fun zc40 => ?_)
            · refine lv_iinc (v := nI (k + 1)) (lv' := [(4, .int (nI (k + 1))), (5, .int (dec (pk k))), (0, .ref (ad i)), (1, .ref (ad w9)), (3, .int (nI b))]) hx hb dX5_countMended_62 hl (k := 4) rfl (by rw [show Int32.ofInt 1 = nI 1 from rfl, nI_add]) (by decide) rfl (fun ls hl => ?_)
              refine lv_goto (tgt := 3) hx hb dX5_countMended_65 (by decide) ?_
              exact zih3 (k + 1) m2 (by omega) (by omega) (by omega) (by rw [mdF_s _ _ hk1, ← hm]; simp only [mend1]; rw [if_neg (fun zq => zq.1.2 zc40.symm)]) _ _ _ zl3_0 zl3_1 (fun j zm0 => zlf3 j zm0) zw2 _ (lv_sub hl [2, 3, 4, 0] rfl)
            · refine lv_aload_n hx hb dX5_countMended_43 rfl (lv_at hl 1 rfl) ?_
              refine r_get C zw2 RX5 TX5 8 2 hinX5 (i := i) (by omega) zl3_0 rfl 5 (by decide) (by decide +kernel) rfl (v := .int m2) rfl dX5_countMended_44 ?_
              refine lv_ldc (v := 99999) hx hb hown (hts (.constant RX5 71 (99999)) (by decide +kernel)) dX5_countMended_47 ?_
              refine r_nat 99999 rfl ?_
              refine lv_icmp_ge (tgt := 62) hx hb dX5_countMended_49 (by decide) (fun zc49 => ?_) (fun zc49 => ?_)
              · refine lv_iinc (v := nI (k + 1)) (lv' := [(4, .int (nI (k + 1))), (5, .int (dec (pk k))), (0, .ref (ad i)), (1, .ref (ad w9)), (3, .int (nI b))]) hx hb dX5_countMended_62 hl (k := 4) rfl (by rw [show Int32.ofInt 1 = nI 1 from rfl, nI_add]) (by decide) rfl (fun ls hl => ?_)
                refine lv_goto (tgt := 3) hx hb dX5_countMended_65 (by decide) ?_
                exact zih3 (k + 1) m2 (by omega) (by omega) (by omega) (by rw [mdF_s _ _ hk1, ← hm]; simp only [mend1]; rw [if_neg (fun zq => Int32.not_le.mpr zq.2 zc49)]) _ _ _ zl3_0 zl3_1 (fun j zm0 => zlf3 j zm0) zw2 _ (lv_sub hl [2, 3, 4, 0] rfl)
              · refine lv_aload_n hx hb dX5_countMended_52 rfl (lv_at hl 1 rfl) ?_
                refine lv_dup hx hb dX5_countMended_53 rfl ?_
                refine r_get C zw2 RX5 TX5 8 2 hinX5 (i := i) (by omega) zl3_0 rfl 5 (by decide) (by decide +kernel) rfl (v := .int m2) rfl dX5_countMended_54 ?_
                refine lv_iconst (v := nI 1) hx hb dX5_countMended_57 rfl ?_
                refine lv_iadd hx hb dX5_countMended_58 ?_
                refine r_put C zw2 RX5 TX5 8 2 hinX5 tyX5 tyX5_ok nmX5 (i := i) (by omega) zl3_0 rfl 5 (by decide) (by decide +kernel) rfl rfl (v := .int (m2 + (nI 1))) rfl rfl (Nat.le_of_ble_eq_true rfl) dX5_countMended_59 (fun zE3 zH3 zL3 zg3 zf3 zw3 => ?_)
                have zh3_0 : zE3 i = .inr (2, [.ref (ad (i + 1)), .ref (ad (i + 2)), .int (nI pg), .int (nI cm), .int lst, .int (m2 + (nI 1)), .int sd, .int (nI hd)]) := zg3
                have zk3_0 : zE3 w9 = eI G 10 pt := (zf3 _ (by omega)).trans zl3_1
                have zfr3 : ∀ j, j ≠ i → zE3 j = E j := fun j zm0 => (zf3 j zm0).trans (zlf3 j zm0)
                refine lv_iinc (v := nI (k + 1)) (lv' := [(4, .int (nI (k + 1))), (5, .int (dec (pk k))), (0, .ref (ad i)), (1, .ref (ad w9)), (3, .int (nI b))]) hx hb dX5_countMended_62 hl (k := 4) rfl (by rw [show Int32.ofInt 1 = nI 1 from rfl, nI_add]) (by decide) rfl (fun ls hl => ?_)
                refine lv_goto (tgt := 3) hx hb dX5_countMended_65 (by decide) ?_
                exact zih3 (k + 1) (m2 + (nI 1)) (by omega) (by omega) (by omega) (by rw [mdF_s _ _ hk1, ← hm]; simp only [mend1]; rw [if_pos ⟨⟨(dec_nat zc28).2, fun zq => zc40 zq.symm⟩, Int32.not_le.mp zc49⟩]; rfl) _ _ _ zh3_0 zk3_0 (fun j zm0 => zfr3 j zm0) zw3 _ (lv_sub hl [2, 3, 4, 0] rfl)
  exact zlp3 _ a md (Nat.lt_succ_self _) (by omega) (by omega) (by rw [Nat.sub_self, mdF]) _ _ _ hE0 hE1 (fun j _ => rfl) hw _ (lv_sub hl [1, 2, 4, 0] rfl)

set_option maxHeartbeats 4000000 in
set_option maxRecDepth 100000 in
theorem c_X5_putLetter {l : Launch} {G : vG} {tC : Nat} {ad : Nat → Nat} {N : Nat} {E : Nat → va_E} {i pg cm hd : Nat} {lst md sd : Int32} {cs : Nat → Int32} {k row j o : Nat} (hN0 : i + 3 ≤ N) (hE0 : E i = .inr (2, [.ref (ad (i + 1)), .ref (ad (i + 2)), .int (nI pg), .int (nI cm), .int lst, .int md, .int sd, .int (nI hd)])) (hE1 : E (i + 1) = eI G 500 cs) (hk : k * 50 + (10 + row * 8 + j) < 500) (ho : o < 256) (hm1 : -1 ≤ cs (k * 50 + (10 + row * 8 + j))) : MV l yX5_putLetter wsX5_putLetter ({ frames := 2, cells := 0, slots := 0, locals := 42 } : Room) G tC ad N E [.ref (ad i), .int (nI k), .int (nI row), .int (nI j), .int (nI o)] (fun E2 => E2 (i + 1) = eI G 500 (upd cs (k * 50 + (10 + row * 8 + j)) (row1 (cs (k * 50 + (10 + row * 8 + j))) o)) ∧ (∀ j, j ≠ (i + 1) → E2 j = E j)) := by
  refine MV_of RX5 rfl (by decide) rfl (Nat.le_of_ble_eq_true rfl) ?_
  intro pp_ ee_ ss_ mm_ aa_ bb_ me_ cc_ A ls C hw hl
  have hx := C.1
  have hb := C.2.1
  have hown := C.2.2.2.2.1
  have hts := C.2.2.2.2.2.1
  have hl : lv_has ls 7 [(0, .ref (ad i)), (1, .int (nI k)), (2, .int (nI row)), (3, .int (nI j)), (4, .int (nI o))] := hl
  refine lv_bipush (v := nI 10) hx hb dX5_putLetter_0 rfl ?_
  refine lv_iload_n hx hb dX5_putLetter_2 rfl (lv_at hl 2 rfl) ?_
  refine lv_bipush (v := nI 8) hx hb dX5_putLetter_3 rfl ?_
  refine lv_imul hx hb dX5_putLetter_5 ?_
  refine r_nat (row * 8) (pk_mul _ _) ?_
  refine lv_iadd hx hb dX5_putLetter_6 ?_
  refine r_nat (10 + row * 8) (nI_add _ _) ?_
  refine lv_iload_n hx hb dX5_putLetter_7 rfl (lv_at hl 3 rfl) ?_
  refine lv_iadd hx hb dX5_putLetter_8 ?_
  refine r_nat (10 + row * 8 + j) (nI_add _ _) ?_
  refine lv_istore (lv' := [(5, .int (nI (10 + row * 8 + j))), (0, .ref (ad i)), (1, .int (nI k)), (2, .int (nI row)), (3, .int (nI j)), (4, .int (nI o))]) hx hb dX5_putLetter_9 hl (by decide) rfl (fun ls hl => ?_)
  refine lv_iload hx hb dX5_putLetter_11 (lv_at hl 5 rfl) ?_
  refine lv_bipush (v := nI 127) hx hb dX5_putLetter_13 rfl ?_
  refine lv_iand hx hb dX5_putLetter_15 ?_
  refine r_nat (o % 128) (pk_andN (by omega) 7 rfl) ?_
  refine lv_istore (lv' := [(6, .int (nI (o % 128))), (5, .int (nI (10 + row * 8 + j))), (0, .ref (ad i)), (1, .int (nI k)), (2, .int (nI row)), (3, .int (nI j)), (4, .int (nI o))]) hx hb dX5_putLetter_16 hl (by decide) rfl (fun ls hl => ?_)
  refine lv_iload hx hb dX5_putLetter_18 (lv_at hl 6 rfl) ?_
  refine r_sI C hw hl.1 [.int (nI o)] 1 rfl (c_X1_isWell (l := l) (G := G) (tC := tC) (ad := ad) (N := N) (E := E) (n := o)   (by first | assumption | omega)) gX5_putLetter_X1_isWell rfl ⟨rfl, rfl⟩ (by decide +kernel) ⟨Nat.le_of_ble_eq_true rfl, Nat.le_of_ble_eq_true rfl⟩ (rest := []) rfl (Nat.le_of_ble_eq_true rfl) dX5_putLetter_20 ⟨Nat.zero_le _, Nat.zero_le _⟩ (fun zr1 zE1 zH1 zL1 zp1 zw1 => ?_)
  obtain ⟨ze1, zq1⟩ := zp1
  rw [ze1] at zw1
  clear ze1
  rw [zq1]
  refine b_if_eq (tgt := 38) hx hb dX5_putLetter_23 (by decide) (fun zc23 => ?_) (fun zc23 => ?_)
  · refine lv_aload_n hx hb dX5_putLetter_38 rfl (lv_at hl 2 rfl) ?_
    refine lv_iload_n hx hb dX5_putLetter_39 rfl (lv_at hl 3 rfl) ?_
    refine lv_iload hx hb dX5_putLetter_40 (lv_at hl 1 rfl) ?_
    refine r_vI C zw1 hl.1 (i := i) (by omega) hE0 (T := TX5) (n := 8) rfl [.int (nI k), .int (nI (10 + row * 8 + j))] 2 rfl (c_X5_get (l := l) (G := G) (tC := tC) (ad := ad) (N := N) (E := E) (i := i) (pg := pg) (cm := cm) (hd := hd) (lst := lst) (md := md) (sd := sd) (cs := cs) (k := k) (cl := 10 + row * 8 + j) (by omega) hE0 hE1 (by first | assumption | omega)) gX5_putLetter_X5_get rfl ⟨rfl, rfl⟩ (by decide +kernel) ⟨Nat.le_of_ble_eq_true rfl, Nat.le_of_ble_eq_true rfl⟩ (rest := []) rfl (Nat.le_of_ble_eq_true rfl) dX5_putLetter_42 ⟨Nat.zero_le _, Nat.zero_le _⟩ (fun zr2 zE2 zH2 zL2 zp2 zw2 => ?_)
    obtain ⟨ze2, zq2⟩ := zp2
    rw [ze2] at zw2
    clear ze2
    rw [zq2]
    refine r_sI C zw2 hl.1 [.int (cs (k * 50 + (10 + row * 8 + j)))] 1 rfl (c_X5_isSure (l := l) (G := G) (tC := tC) (ad := ad) (N := N) (E := E) (x := cs (k * 50 + (10 + row * 8 + j)))   ) gX5_putLetter_X5_isSure rfl ⟨rfl, rfl⟩ (by decide +kernel) ⟨Nat.le_of_ble_eq_true rfl, Nat.le_of_ble_eq_true rfl⟩ (rest := []) rfl (Nat.le_of_ble_eq_true rfl) dX5_putLetter_45 ⟨Nat.zero_le _, Nat.zero_le _⟩ (fun zr3 zE3 zH3 zL3 zp3 zw3 => ?_)
    obtain ⟨ze3, zq3⟩ := zp3
    rw [ze3] at zw3
    clear ze3
    rw [zq3]
    refine b_if_ne (tgt := 64) hx hb dX5_putLetter_48 (by decide) (fun zc48 => ?_) (fun zc48 => ?_)
    · exact r_vret C zw3 dX5_putLetter_64 ⟨(hE1.trans (by rw [row1, if_neg zc23, if_neg (ns_neg zc48), upd_id])), (fun j _ => rfl)⟩
    · refine lv_aload_n hx hb dX5_putLetter_51 rfl (lv_at hl 2 rfl) ?_
      refine lv_iload_n hx hb dX5_putLetter_52 rfl (lv_at hl 3 rfl) ?_
      refine lv_iload hx hb dX5_putLetter_53 (lv_at hl 1 rfl) ?_
      refine lv_iload hx hb dX5_putLetter_55 (lv_at hl 0 rfl) ?_
      refine lv_sipush (v := nI 128) hx hb dX5_putLetter_57 rfl ?_
      refine lv_iadd hx hb dX5_putLetter_60 ?_
      refine r_nat (128 + o % 128) (by rw [nI_add, Nat.add_comm]) ?_
      refine r_vV C zw3 hl.1 (i := i) (by omega) hE0 (T := TX5) (n := 8) rfl [.int (nI k), .int (nI (10 + row * 8 + j)), .int (nI (128 + o % 128))] 3 rfl (c_X5_set (l := l) (G := G) (tC := tC) (ad := ad) (N := N) (E := E) (i := i) (pg := pg) (cm := cm) (hd := hd) (lst := lst) (md := md) (sd := sd) (cs := cs) (k := k) (cl := 10 + row * 8 + j) (v := nI (128 + o % 128)) (by omega) hE0 hE1 (by first | assumption | omega)) gX5_putLetter_X5_set rfl ⟨rfl, rfl⟩ (by decide +kernel) ⟨Nat.le_of_ble_eq_true rfl, Nat.le_of_ble_eq_true rfl⟩ (rest := []) rfl (Nat.le_of_ble_eq_true rfl) dX5_putLetter_61 ⟨Nat.zero_le _, Nat.zero_le _⟩ (fun zE4 zH4 zL4 zp4 zw4 => ?_)
      obtain ⟨zg4_0, zf4⟩ := zp4
      have zh4_0 : zE4 (i + 1) = eI G 500 (upd cs (k * 50 + (10 + row * 8 + j)) (nI (128 + o % 128))) := zg4_0
      have zk4_0 : zE4 i = .inr (2, [.ref (ad (i + 1)), .ref (ad (i + 2)), .int (nI pg), .int (nI cm), .int lst, .int md, .int sd, .int (nI hd)]) := (zf4 _ (by omega)).trans hE0
      have zfr4 : ∀ j, j ≠ (i + 1) → zE4 j = E j := fun j zm0 => zf4 j zm0
      exact r_vret C zw4 dX5_putLetter_64 ⟨(zh4_0.trans (by rw [row1, if_neg zc23, if_pos (ns_iff hm1 zc48)])), (fun j zm0 => zfr4 j zm0)⟩
  · refine lv_aload_n hx hb dX5_putLetter_26 rfl (lv_at hl 2 rfl) ?_
    refine lv_iload_n hx hb dX5_putLetter_27 rfl (lv_at hl 3 rfl) ?_
    refine lv_iload hx hb dX5_putLetter_28 (lv_at hl 1 rfl) ?_
    refine lv_iload hx hb dX5_putLetter_30 (lv_at hl 0 rfl) ?_
    refine r_vV C zw1 hl.1 (i := i) (by omega) hE0 (T := TX5) (n := 8) rfl [.int (nI k), .int (nI (10 + row * 8 + j)), .int (nI (o % 128))] 3 rfl (c_X5_set (l := l) (G := G) (tC := tC) (ad := ad) (N := N) (E := E) (i := i) (pg := pg) (cm := cm) (hd := hd) (lst := lst) (md := md) (sd := sd) (cs := cs) (k := k) (cl := 10 + row * 8 + j) (v := nI (o % 128)) (by omega) hE0 hE1 (by first | assumption | omega)) gX5_putLetter_X5_set rfl ⟨rfl, rfl⟩ (by decide +kernel) ⟨Nat.le_of_ble_eq_true rfl, Nat.le_of_ble_eq_true rfl⟩ (rest := []) rfl (Nat.le_of_ble_eq_true rfl) dX5_putLetter_32 ⟨Nat.zero_le _, Nat.zero_le _⟩ (fun zE5 zH5 zL5 zp5 zw5 => ?_)
    obtain ⟨zg5_0, zf5⟩ := zp5
    have zh5_0 : zE5 (i + 1) = eI G 500 (upd cs (k * 50 + (10 + row * 8 + j)) (nI (o % 128))) := zg5_0
    have zk5_0 : zE5 i = .inr (2, [.ref (ad (i + 1)), .ref (ad (i + 2)), .int (nI pg), .int (nI cm), .int lst, .int md, .int sd, .int (nI hd)]) := (zf5 _ (by omega)).trans hE0
    have zfr5 : ∀ j, j ≠ (i + 1) → zE5 j = E j := fun j zm0 => zf5 j zm0
    refine lv_goto (tgt := 64) hx hb dX5_putLetter_35 (by decide) ?_
    exact r_vret C zw5 dX5_putLetter_64 ⟨(zh5_0.trans (by rw [row1, if_pos zc23])), (fun j zm0 => zfr5 j zm0)⟩

set_option maxHeartbeats 4000000 in
set_option maxRecDepth 100000 in
theorem c_X5_search {l : Launch} {G : vG} {tC : Nat} {ad : Nat → Nat} {N : Nat} {E : Nat → va_E} {i pg cm hd : Nat} {lst md sd : Int32} {cs : Nat → Int32} {s : Nat → Int32} {b n p9 : Int32} (hN0 : i + 3 ≤ N) (hE0 : E i = .inr (2, [.ref (ad (i + 1)), .ref (ad (i + 2)), .int (nI pg), .int (nI cm), .int lst, .int md, .int sd, .int (nI hd)])) (hE1 : E (i + 1) = eI G 500 cs) (hag : agr cs s pg) (hp : pg ≤ 10) : MI l yX5_search wsX5_search ({ frames := 1, cells := 0, slots := 0, locals := 23 } : Room) G tC ad N E [.ref (ad i), .int b, .int n, .int p9] (fun r E2 => E2 = E ∧ r = fdI (srch (cel s) b n p9 pg 0) pg) := by
  refine MI_of RX5 rfl (by decide) rfl (Nat.le_of_ble_eq_true rfl) ?_
  intro pp_ ee_ ss_ mm_ aa_ bb_ me_ cc_ A ls C hw hl
  have hx := C.1
  have hb := C.2.1
  have hown := C.2.2.2.2.1
  have hts := C.2.2.2.2.2.1
  have hl : lv_has ls 5 [(0, .ref (ad i)), (1, .int b), (2, .int n), (3, .int p9)] := hl
  have hinX5 : ∀ w ∈ u_ws RX5 TX5 8, w ∈ wsX5_search := by decide +kernel
  refine lv_iconst (v := nI 0) hx hb dX5_search_0 rfl ?_
  refine lv_istore (lv' := [(4, .int (nI 0)), (0, .ref (ad i)), (1, .int b), (2, .int n), (3, .int p9)]) hx hb dX5_search_1 hl (by decide) rfl (fun ls hl => ?_)
  have zlp3 : ∀ (zn : Nat) (k : Nat), pg - k < zn → (k ≤ pg) → (srch (cel s) b n p9 (pg - k) k = srch (cel s) b n p9 pg 0) → ∀ (H9 : Heap) (L9 : List Loc), Wd G A ss_.heap H9 L9 ad E N → ∀ (ls : Array Slot), lv_has ls 5 [(0, .ref (ad i)), (1, .int b), (2, .int n), (3, .int p9), (4, .int (nI k))] → W pp_ l ee_ ({ frames := 1, cells := 0, slots := 0, locals := 23 } : Room) ss_ mm_ aa_ bb_ me_ cc_ H9 L9 0 0 (QI bb_ aa_ ss_ G ad N A (fun r E2 => E2 = E ∧ r = fdI (srch (cel s) b n p9 pg 0) pg)) (F0 mm_ 3 ls []) := by
    intro zn
    induction zn with
    | zero => intro k zhm; exact absurd zhm (Nat.not_lt_zero _)
    | succ zn zih3 =>
      intro k zhm3 hk hr zH_3 zL_3 zlw3 ls hl
      refine lv_iload hx hb dX5_search_3 (lv_at hl 4 rfl) ?_
      refine lv_aload_n hx hb dX5_search_5 rfl (lv_at hl 0 rfl) ?_
      refine r_get C zlw3 RX5 TX5 8 2 hinX5 (i := i) (by omega) hE0 rfl 2 (by decide) (by decide +kernel) rfl (v := .int (nI pg)) rfl dX5_search_6 ?_
      refine n_icmp_ge (tgt := 54) hx hb dX5_search_9 (by decide) (by omega) (by omega) (fun zc9 => ?_) (fun zc9 => ?_)
      · refine lv_iconst (v := -1) hx hb dX5_search_54 (by decide) ?_
        exact r_iret C zlw3 dX5_search_55 ⟨rfl, (by rw [← hr, show pg - k = 0 by omega, srch, fdI, if_neg (by omega)])⟩
      · refine lv_aload_n hx hb dX5_search_12 rfl (lv_at hl 0 rfl) ?_
        refine lv_iload hx hb dX5_search_13 (lv_at hl 4 rfl) ?_
        refine lv_iconst (v := nI 0) hx hb dX5_search_15 rfl ?_
        refine r_vI C zlw3 hl.1 (i := i) (by omega) hE0 (T := TX5) (n := 8) rfl [.int (nI k), .int (nI 0)] 2 rfl (c_X5_get_s (l := l) (G := G) (tC := tC) (ad := ad) (N := N) (E := E) (i := i) (pg := pg) (cm := cm) (hd := hd) (lst := lst) (md := md) (sd := sd) (cs := cs) (s := s) (k := k) (cl := 0) (by omega) hE0 hE1 (by first | assumption | omega) (by first | assumption | omega) (by first | assumption | omega) (by first | assumption | omega) (by first | assumption | omega)) gX5_search_X5_get rfl ⟨rfl, rfl⟩ (by decide +kernel) ⟨Nat.le_of_ble_eq_true rfl, Nat.le_of_ble_eq_true rfl⟩ (rest := []) rfl (Nat.le_of_ble_eq_true rfl) dX5_search_16 ⟨Nat.zero_le _, Nat.zero_le _⟩ (fun zr1 zE1 zH1 zL1 zp1 zw1 => ?_)
        obtain ⟨ze1, zq1⟩ := zp1
        rw [ze1] at zw1
        clear ze1
        rw [zq1]
        refine lv_iload_n hx hb dX5_search_19 rfl (lv_at hl 1 rfl) ?_
        refine lv_icmp_ne (tgt := 48) hx hb dX5_search_20 (by decide) (fun zc20 => ?_) (fun zc20 => ?_)
        · refine lv_iinc (v := nI (k + 1)) (lv' := [(4, .int (nI (k + 1))), (0, .ref (ad i)), (1, .int b), (2, .int n), (3, .int p9)]) hx hb dX5_search_48 hl (k := 4) rfl (by rw [show Int32.ofInt 1 = nI 1 from rfl, nI_add]) (by decide) rfl (fun ls hl => ?_)
          refine lv_goto (tgt := 3) hx hb dX5_search_51 (by decide) ?_
          exact zih3 (k + 1) (by omega) (by omega) (by rw [← hr, srch_n (k := k) zc9 (fun zq => by first | exact zc20 zq.1 | exact zc31 zq.2.1 | exact zc42 zq.2.2)]) _ _ zw1 _ (lv_sub hl [1, 2, 3, 4, 0] rfl)
        · refine lv_aload_n hx hb dX5_search_23 rfl (lv_at hl 0 rfl) ?_
          refine lv_iload hx hb dX5_search_24 (lv_at hl 4 rfl) ?_
          refine lv_iconst (v := nI 1) hx hb dX5_search_26 rfl ?_
          refine r_vI C zw1 hl.1 (i := i) (by omega) hE0 (T := TX5) (n := 8) rfl [.int (nI k), .int (nI 1)] 2 rfl (c_X5_get_s (l := l) (G := G) (tC := tC) (ad := ad) (N := N) (E := E) (i := i) (pg := pg) (cm := cm) (hd := hd) (lst := lst) (md := md) (sd := sd) (cs := cs) (s := s) (k := k) (cl := 1) (by omega) hE0 hE1 (by first | assumption | omega) (by first | assumption | omega) (by first | assumption | omega) (by first | assumption | omega) (by first | assumption | omega)) gX5_search_X5_get rfl ⟨rfl, rfl⟩ (by decide +kernel) ⟨Nat.le_of_ble_eq_true rfl, Nat.le_of_ble_eq_true rfl⟩ (rest := []) rfl (Nat.le_of_ble_eq_true rfl) dX5_search_27 ⟨Nat.zero_le _, Nat.zero_le _⟩ (fun zr2 zE2 zH2 zL2 zp2 zw2 => ?_)
          obtain ⟨ze2, zq2⟩ := zp2
          rw [ze2] at zw2
          clear ze2
          rw [zq2]
          refine lv_iload_n hx hb dX5_search_30 rfl (lv_at hl 2 rfl) ?_
          refine lv_icmp_ne (tgt := 48) hx hb dX5_search_31 (by decide) (fun zc31 => ?_) (fun zc31 => ?_)
          · refine lv_iinc (v := nI (k + 1)) (lv' := [(4, .int (nI (k + 1))), (0, .ref (ad i)), (1, .int b), (2, .int n), (3, .int p9)]) hx hb dX5_search_48 hl (k := 4) rfl (by rw [show Int32.ofInt 1 = nI 1 from rfl, nI_add]) (by decide) rfl (fun ls hl => ?_)
            refine lv_goto (tgt := 3) hx hb dX5_search_51 (by decide) ?_
            exact zih3 (k + 1) (by omega) (by omega) (by rw [← hr, srch_n (k := k) zc9 (fun zq => by first | exact zc20 zq.1 | exact zc31 zq.2.1 | exact zc42 zq.2.2)]) _ _ zw2 _ (lv_sub hl [1, 2, 3, 4, 0] rfl)
          · refine lv_aload_n hx hb dX5_search_34 rfl (lv_at hl 0 rfl) ?_
            refine lv_iload hx hb dX5_search_35 (lv_at hl 4 rfl) ?_
            refine lv_iconst (v := nI 2) hx hb dX5_search_37 rfl ?_
            refine r_vI C zw2 hl.1 (i := i) (by omega) hE0 (T := TX5) (n := 8) rfl [.int (nI k), .int (nI 2)] 2 rfl (c_X5_get_s (l := l) (G := G) (tC := tC) (ad := ad) (N := N) (E := E) (i := i) (pg := pg) (cm := cm) (hd := hd) (lst := lst) (md := md) (sd := sd) (cs := cs) (s := s) (k := k) (cl := 2) (by omega) hE0 hE1 (by first | assumption | omega) (by first | assumption | omega) (by first | assumption | omega) (by first | assumption | omega) (by first | assumption | omega)) gX5_search_X5_get rfl ⟨rfl, rfl⟩ (by decide +kernel) ⟨Nat.le_of_ble_eq_true rfl, Nat.le_of_ble_eq_true rfl⟩ (rest := []) rfl (Nat.le_of_ble_eq_true rfl) dX5_search_38 ⟨Nat.zero_le _, Nat.zero_le _⟩ (fun zr3 zE3 zH3 zL3 zp3 zw3 => ?_)
            obtain ⟨ze3, zq3⟩ := zp3
            rw [ze3] at zw3
            clear ze3
            rw [zq3]
            refine lv_iload_n hx hb dX5_search_41 rfl (lv_at hl 3 rfl) ?_
            refine lv_icmp_ne (tgt := 48) hx hb dX5_search_42 (by decide) (fun zc42 => ?_) (fun zc42 => ?_)
            · refine lv_iinc (v := nI (k + 1)) (lv' := [(4, .int (nI (k + 1))), (0, .ref (ad i)), (1, .int b), (2, .int n), (3, .int p9)]) hx hb dX5_search_48 hl (k := 4) rfl (by rw [show Int32.ofInt 1 = nI 1 from rfl, nI_add]) (by decide) rfl (fun ls hl => ?_)
              refine lv_goto (tgt := 3) hx hb dX5_search_51 (by decide) ?_
              exact zih3 (k + 1) (by omega) (by omega) (by rw [← hr, srch_n (k := k) zc9 (fun zq => by first | exact zc20 zq.1 | exact zc31 zq.2.1 | exact zc42 zq.2.2)]) _ _ zw3 _ (lv_sub hl [1, 2, 3, 4, 0] rfl)
            · refine lv_iload hx hb dX5_search_45 (lv_at hl 4 rfl) ?_
              exact r_iret C zw3 dX5_search_47 ⟨rfl, (by rw [← hr, srch_y (k := k) zc9 ⟨zc20, zc31, zc42⟩, fdI, if_pos (by omega)])⟩
  exact zlp3 _ 0 (Nat.lt_succ_self _) (by omega) (by rfl) _ _ hw _ (lv_sub hl [1, 2, 3, 4, 0] rfl)

set_option maxHeartbeats 4000000 in
set_option maxRecDepth 100000 in
theorem c_X5_append {l : Launch} {G : vG} {tC : Nat} {ad : Nat → Nat} {N : Nat} {E : Nat → va_E} {i pg cm hd : Nat} {lst md sd : Int32} {cs : Nat → Int32} {b n p9 : Int32} (hN0 : i + 3 ≤ N) (hE0 : E i = .inr (2, [.ref (ad (i + 1)), .ref (ad (i + 2)), .int (nI pg), .int (nI cm), .int lst, .int md, .int sd, .int (nI hd)])) (hE1 : E (i + 1) = eI G 500 cs) (hp : pg < 10) : MI l yX5_append wsX5_append ({ frames := 1, cells := 0, slots := 0, locals := 24 } : Room) G tC ad N E [.ref (ad i), .int b, .int n, .int p9] (fun r E2 => E2 i = .inr (2, [.ref (ad (i + 1)), .ref (ad (i + 2)), .int (nI (pg + 1)), .int (nI cm), .int lst, .int md, .int sd, .int (nI hd)]) ∧ E2 (i + 1) = eI G 500 (upd (upd (upd (upd (upd cs (pg * 50 + 0) b) (pg * 50 + 1) n) (pg * 50 + 2) p9) (pg * 50 + 3) (nI 0)) (pg * 50 + 4) (nI 1)) ∧ (∀ j, j ≠ i → j ≠ (i + 1) → E2 j = E j) ∧ r = nI pg) := by
  refine MI_of RX5 rfl (by decide) rfl (Nat.le_of_ble_eq_true rfl) ?_
  intro pp_ ee_ ss_ mm_ aa_ bb_ me_ cc_ A ls C hw hl
  have hx := C.1
  have hb := C.2.1
  have hown := C.2.2.2.2.1
  have hts := C.2.2.2.2.2.1
  have hl : lv_has ls 5 [(0, .ref (ad i)), (1, .int b), (2, .int n), (3, .int p9)] := hl
  have hinX5 : ∀ w ∈ u_ws RX5 TX5 8, w ∈ wsX5_append := by decide +kernel
  refine lv_aload_n hx hb dX5_append_0 rfl (lv_at hl 0 rfl) ?_
  refine r_get C hw RX5 TX5 8 2 hinX5 (i := i) (by omega) hE0 rfl 2 (by decide) (by decide +kernel) rfl (v := .int (nI pg)) rfl dX5_append_1 ?_
  refine lv_istore (lv' := [(4, .int (nI pg)), (0, .ref (ad i)), (1, .int b), (2, .int n), (3, .int p9)]) hx hb dX5_append_4 hl (by decide) rfl (fun ls hl => ?_)
  refine lv_aload_n hx hb dX5_append_6 rfl (lv_at hl 1 rfl) ?_
  refine lv_dup hx hb dX5_append_7 rfl ?_
  refine r_get C hw RX5 TX5 8 2 hinX5 (i := i) (by omega) hE0 rfl 2 (by decide) (by decide +kernel) rfl (v := .int (nI pg)) rfl dX5_append_8 ?_
  refine lv_iconst (v := nI 1) hx hb dX5_append_11 rfl ?_
  refine lv_iadd hx hb dX5_append_12 ?_
  refine r_nat (pg + 1) (nI_add _ _) ?_
  refine r_put C hw RX5 TX5 8 2 hinX5 tyX5 tyX5_ok nmX5 (i := i) (by omega) hE0 rfl 2 (by decide) (by decide +kernel) rfl rfl (v := .int (nI (pg + 1))) rfl rfl (Nat.le_of_ble_eq_true rfl) dX5_append_13 (fun zE1 zH1 zL1 zg1 zf1 zw1 => ?_)
  have zh1_0 : zE1 i = .inr (2, [.ref (ad (i + 1)), .ref (ad (i + 2)), .int (nI (pg + 1)), .int (nI cm), .int lst, .int md, .int sd, .int (nI hd)]) := zg1
  have zk1_0 : zE1 (i + 1) = eI G 500 cs := (zf1 _ (by omega)).trans hE1
  have zfr1 : ∀ j, j ≠ i → zE1 j = E j := fun j zm0 => zf1 j zm0
  refine lv_aload_n hx hb dX5_append_16 rfl (lv_at hl 1 rfl) ?_
  refine lv_iload hx hb dX5_append_17 (lv_at hl 0 rfl) ?_
  refine lv_iconst (v := nI 0) hx hb dX5_append_19 rfl ?_
  refine lv_iload_n hx hb dX5_append_20 rfl (lv_at hl 2 rfl) ?_
  refine r_vV C zw1 hl.1 (i := i) (by omega) zh1_0 (T := TX5) (n := 8) rfl [.int (nI pg), .int (nI 0), .int b] 3 rfl (c_X5_set (l := l) (G := G) (tC := tC) (ad := ad) (N := N) (E := zE1) (i := i) (pg := pg + 1) (cm := cm) (hd := hd) (lst := lst) (md := md) (sd := sd) (cs := cs) (k := pg) (cl := 0) (v := b) (by omega) zh1_0 zk1_0 (by first | assumption | omega)) gX5_append_X5_set rfl ⟨rfl, rfl⟩ (by decide +kernel) ⟨Nat.le_of_ble_eq_true rfl, Nat.le_of_ble_eq_true rfl⟩ (rest := []) rfl (Nat.le_of_ble_eq_true rfl) dX5_append_21 ⟨Nat.zero_le _, Nat.zero_le _⟩ (fun zE2 zH2 zL2 zp2 zw2 => ?_)
  obtain ⟨zg2_0, zf2⟩ := zp2
  have zh2_0 : zE2 (i + 1) = eI G 500 (upd cs (pg * 50 + 0) b) := zg2_0
  have zk2_0 : zE2 i = .inr (2, [.ref (ad (i + 1)), .ref (ad (i + 2)), .int (nI (pg + 1)), .int (nI cm), .int lst, .int md, .int sd, .int (nI hd)]) := (zf2 _ (by omega)).trans zh1_0
  have zfr2 : ∀ j, j ≠ i → j ≠ (i + 1) → zE2 j = E j := fun j zm0 zm1 => (zf2 j zm1).trans (zfr1 j zm0)
  refine lv_aload_n hx hb dX5_append_24 rfl (lv_at hl 1 rfl) ?_
  refine lv_iload hx hb dX5_append_25 (lv_at hl 0 rfl) ?_
  refine lv_iconst (v := nI 1) hx hb dX5_append_27 rfl ?_
  refine lv_iload_n hx hb dX5_append_28 rfl (lv_at hl 3 rfl) ?_
  refine r_vV C zw2 hl.1 (i := i) (by omega) zk2_0 (T := TX5) (n := 8) rfl [.int (nI pg), .int (nI 1), .int n] 3 rfl (c_X5_set (l := l) (G := G) (tC := tC) (ad := ad) (N := N) (E := zE2) (i := i) (pg := pg + 1) (cm := cm) (hd := hd) (lst := lst) (md := md) (sd := sd) (cs := upd cs (pg * 50 + 0) b) (k := pg) (cl := 1) (v := n) (by omega) zk2_0 zh2_0 (by first | assumption | omega)) gX5_append_X5_set rfl ⟨rfl, rfl⟩ (by decide +kernel) ⟨Nat.le_of_ble_eq_true rfl, Nat.le_of_ble_eq_true rfl⟩ (rest := []) rfl (Nat.le_of_ble_eq_true rfl) dX5_append_29 ⟨Nat.zero_le _, Nat.zero_le _⟩ (fun zE3 zH3 zL3 zp3 zw3 => ?_)
  obtain ⟨zg3_0, zf3⟩ := zp3
  have zh3_0 : zE3 (i + 1) = eI G 500 (upd (upd cs (pg * 50 + 0) b) (pg * 50 + 1) n) := zg3_0
  have zk3_0 : zE3 i = .inr (2, [.ref (ad (i + 1)), .ref (ad (i + 2)), .int (nI (pg + 1)), .int (nI cm), .int lst, .int md, .int sd, .int (nI hd)]) := (zf3 _ (by omega)).trans zk2_0
  have zfr3 : ∀ j, j ≠ i → j ≠ (i + 1) → zE3 j = E j := fun j zm0 zm1 => (zf3 j zm1).trans (zfr2 j zm0 zm1)
  refine lv_aload_n hx hb dX5_append_32 rfl (lv_at hl 1 rfl) ?_
  refine lv_iload hx hb dX5_append_33 (lv_at hl 0 rfl) ?_
  refine lv_iconst (v := nI 2) hx hb dX5_append_35 rfl ?_
  refine lv_iload_n hx hb dX5_append_36 rfl (lv_at hl 4 rfl) ?_
  refine r_vV C zw3 hl.1 (i := i) (by omega) zk3_0 (T := TX5) (n := 8) rfl [.int (nI pg), .int (nI 2), .int p9] 3 rfl (c_X5_set (l := l) (G := G) (tC := tC) (ad := ad) (N := N) (E := zE3) (i := i) (pg := pg + 1) (cm := cm) (hd := hd) (lst := lst) (md := md) (sd := sd) (cs := upd (upd cs (pg * 50 + 0) b) (pg * 50 + 1) n) (k := pg) (cl := 2) (v := p9) (by omega) zk3_0 zh3_0 (by first | assumption | omega)) gX5_append_X5_set rfl ⟨rfl, rfl⟩ (by decide +kernel) ⟨Nat.le_of_ble_eq_true rfl, Nat.le_of_ble_eq_true rfl⟩ (rest := []) rfl (Nat.le_of_ble_eq_true rfl) dX5_append_37 ⟨Nat.zero_le _, Nat.zero_le _⟩ (fun zE4 zH4 zL4 zp4 zw4 => ?_)
  obtain ⟨zg4_0, zf4⟩ := zp4
  have zh4_0 : zE4 (i + 1) = eI G 500 (upd (upd (upd cs (pg * 50 + 0) b) (pg * 50 + 1) n) (pg * 50 + 2) p9) := zg4_0
  have zk4_0 : zE4 i = .inr (2, [.ref (ad (i + 1)), .ref (ad (i + 2)), .int (nI (pg + 1)), .int (nI cm), .int lst, .int md, .int sd, .int (nI hd)]) := (zf4 _ (by omega)).trans zk3_0
  have zfr4 : ∀ j, j ≠ i → j ≠ (i + 1) → zE4 j = E j := fun j zm0 zm1 => (zf4 j zm1).trans (zfr3 j zm0 zm1)
  refine lv_aload_n hx hb dX5_append_40 rfl (lv_at hl 1 rfl) ?_
  refine lv_iload hx hb dX5_append_41 (lv_at hl 0 rfl) ?_
  refine lv_iconst (v := nI 3) hx hb dX5_append_43 rfl ?_
  refine lv_iconst (v := nI 0) hx hb dX5_append_44 rfl ?_
  refine r_vV C zw4 hl.1 (i := i) (by omega) zk4_0 (T := TX5) (n := 8) rfl [.int (nI pg), .int (nI 3), .int (nI 0)] 3 rfl (c_X5_set (l := l) (G := G) (tC := tC) (ad := ad) (N := N) (E := zE4) (i := i) (pg := pg + 1) (cm := cm) (hd := hd) (lst := lst) (md := md) (sd := sd) (cs := upd (upd (upd cs (pg * 50 + 0) b) (pg * 50 + 1) n) (pg * 50 + 2) p9) (k := pg) (cl := 3) (v := nI 0) (by omega) zk4_0 zh4_0 (by first | assumption | omega)) gX5_append_X5_set rfl ⟨rfl, rfl⟩ (by decide +kernel) ⟨Nat.le_of_ble_eq_true rfl, Nat.le_of_ble_eq_true rfl⟩ (rest := []) rfl (Nat.le_of_ble_eq_true rfl) dX5_append_45 ⟨Nat.zero_le _, Nat.zero_le _⟩ (fun zE5 zH5 zL5 zp5 zw5 => ?_)
  obtain ⟨zg5_0, zf5⟩ := zp5
  have zh5_0 : zE5 (i + 1) = eI G 500 (upd (upd (upd (upd cs (pg * 50 + 0) b) (pg * 50 + 1) n) (pg * 50 + 2) p9) (pg * 50 + 3) (nI 0)) := zg5_0
  have zk5_0 : zE5 i = .inr (2, [.ref (ad (i + 1)), .ref (ad (i + 2)), .int (nI (pg + 1)), .int (nI cm), .int lst, .int md, .int sd, .int (nI hd)]) := (zf5 _ (by omega)).trans zk4_0
  have zfr5 : ∀ j, j ≠ i → j ≠ (i + 1) → zE5 j = E j := fun j zm0 zm1 => (zf5 j zm1).trans (zfr4 j zm0 zm1)
  refine lv_aload_n hx hb dX5_append_48 rfl (lv_at hl 1 rfl) ?_
  refine lv_iload hx hb dX5_append_49 (lv_at hl 0 rfl) ?_
  refine lv_iconst (v := nI 4) hx hb dX5_append_51 rfl ?_
  refine lv_iconst (v := nI 1) hx hb dX5_append_52 rfl ?_
  refine r_vV C zw5 hl.1 (i := i) (by omega) zk5_0 (T := TX5) (n := 8) rfl [.int (nI pg), .int (nI 4), .int (nI 1)] 3 rfl (c_X5_set (l := l) (G := G) (tC := tC) (ad := ad) (N := N) (E := zE5) (i := i) (pg := pg + 1) (cm := cm) (hd := hd) (lst := lst) (md := md) (sd := sd) (cs := upd (upd (upd (upd cs (pg * 50 + 0) b) (pg * 50 + 1) n) (pg * 50 + 2) p9) (pg * 50 + 3) (nI 0)) (k := pg) (cl := 4) (v := nI 1) (by omega) zk5_0 zh5_0 (by first | assumption | omega)) gX5_append_X5_set rfl ⟨rfl, rfl⟩ (by decide +kernel) ⟨Nat.le_of_ble_eq_true rfl, Nat.le_of_ble_eq_true rfl⟩ (rest := []) rfl (Nat.le_of_ble_eq_true rfl) dX5_append_53 ⟨Nat.zero_le _, Nat.zero_le _⟩ (fun zE6 zH6 zL6 zp6 zw6 => ?_)
  obtain ⟨zg6_0, zf6⟩ := zp6
  have zh6_0 : zE6 (i + 1) = eI G 500 (upd (upd (upd (upd (upd cs (pg * 50 + 0) b) (pg * 50 + 1) n) (pg * 50 + 2) p9) (pg * 50 + 3) (nI 0)) (pg * 50 + 4) (nI 1)) := zg6_0
  have zk6_0 : zE6 i = .inr (2, [.ref (ad (i + 1)), .ref (ad (i + 2)), .int (nI (pg + 1)), .int (nI cm), .int lst, .int md, .int sd, .int (nI hd)]) := (zf6 _ (by omega)).trans zk5_0
  have zfr6 : ∀ j, j ≠ i → j ≠ (i + 1) → zE6 j = E j := fun j zm0 zm1 => (zf6 j zm1).trans (zfr5 j zm0 zm1)
  refine lv_iload hx hb dX5_append_56 (lv_at hl 0 rfl) ?_
  exact r_iret C zw6 dX5_append_58 ⟨zk6_0, zh6_0, (fun j zm0 zm1 => zfr6 j zm0 zm1), (by rfl)⟩

set_option maxHeartbeats 4000000 in
set_option maxRecDepth 100000 in
theorem c_X5_remove {l : Launch} {G : vG} {tC : Nat} {ad : Nat → Nat} {N : Nat} {E : Nat → va_E} {i pg cm hd : Nat} {lst md sd : Int32} {cs : Nat → Int32} {op : Nat → Int32} {k : Nat} (hN0 : i + 3 ≤ N) (hE0 : E i = .inr (2, [.ref (ad (i + 1)), .ref (ad (i + 2)), .int (nI pg), .int (nI cm), .int lst, .int md, .int sd, .int (nI hd)])) (hE1 : E (i + 1) = eI G 500 cs) (hE2 : E (i + 2) = eI G 4 op) (hk : k < pg) (hp : pg ≤ 10) : MV l yX5_remove wsX5_remove ({ frames := 1, cells := 0, slots := 0, locals := 40 } : Room) G tC ad N E [.ref (ad i), .int (nI k)] (fun E2 => E2 i = .inr (2, [.ref (ad (i + 1)), .ref (ad (i + 2)), .int (nI (pg - 1)), .int (nI cm), .int lst, .int md, .int sd, .int (nI hd)]) ∧ E2 (i + 1) = eI G 500 (rmF cs pg k) ∧ E2 (i + 2) = eI G 4 (shQ op k 4) ∧ (∀ j, j ≠ i → j ≠ (i + 1) → j ≠ (i + 2) → E2 j = E j)) := by
  refine MV_of RX5 rfl (by decide) rfl (Nat.le_of_ble_eq_true rfl) ?_
  intro pp_ ee_ ss_ mm_ aa_ bb_ me_ cc_ A ls C hw hl
  have hx := C.1
  have hb := C.2.1
  have hown := C.2.2.2.2.1
  have hts := C.2.2.2.2.2.1
  have hl : lv_has ls 3 [(0, .ref (ad i)), (1, .int (nI k))] := hl
  have hinX5 : ∀ w ∈ u_ws RX5 TX5 8, w ∈ wsX5_remove := by decide +kernel
  refine lv_iload_n hx hb dX5_remove_0 rfl (lv_at hl 1 rfl) ?_
  refine n_if_lt (tgt := 12) hx hb dX5_remove_1 (by decide) (by omega) (fun zc1 => ?_) (fun zc1 => ?_)
  · exact zc1.elim
  · refine lv_iload_n hx hb dX5_remove_4 rfl (lv_at hl 1 rfl) ?_
    refine lv_aload_n hx hb dX5_remove_5 rfl (lv_at hl 0 rfl) ?_
    refine r_get C hw RX5 TX5 8 2 hinX5 (i := i) (by omega) hE0 rfl 2 (by decide) (by decide +kernel) rfl (v := .int (nI pg)) rfl dX5_remove_6 ?_
    refine n_icmp_lt (tgt := 13) hx hb dX5_remove_9 (by decide) (by omega) (by omega) (fun zc9 => ?_) (fun zc9 => ?_)
    · refine lv_aload_n hx hb dX5_remove_13 rfl (lv_at hl 0 rfl) ?_
      refine r_get C hw RX5 TX5 8 2 hinX5 (i := i) (by omega) hE0 rfl 0 (by decide) (by decide +kernel) rfl (v := .ref (ad (i + 1))) rfl dX5_remove_14 ?_
      refine lv_iload_n hx hb dX5_remove_17 rfl (lv_at hl 1 rfl) ?_
      refine lv_iconst (v := nI 1) hx hb dX5_remove_18 rfl ?_
      refine lv_iadd hx hb dX5_remove_19 ?_
      refine r_nat (k + 1) (nI_add _ _) ?_
      refine lv_bipush (v := nI 50) hx hb dX5_remove_20 rfl ?_
      refine lv_imul hx hb dX5_remove_22 ?_
      refine r_nat ((k + 1) * 50) (pk_mul _ _) ?_
      refine lv_aload_n hx hb dX5_remove_23 rfl (lv_at hl 0 rfl) ?_
      refine r_get C hw RX5 TX5 8 2 hinX5 (i := i) (by omega) hE0 rfl 0 (by decide) (by decide +kernel) rfl (v := .ref (ad (i + 1))) rfl dX5_remove_24 ?_
      refine lv_iload_n hx hb dX5_remove_27 rfl (lv_at hl 1 rfl) ?_
      refine lv_bipush (v := nI 50) hx hb dX5_remove_28 rfl ?_
      refine lv_imul hx hb dX5_remove_30 ?_
      refine r_nat (k * 50) (pk_mul _ _) ?_
      refine lv_aload_n hx hb dX5_remove_31 rfl (lv_at hl 0 rfl) ?_
      refine r_get C hw RX5 TX5 8 2 hinX5 (i := i) (by omega) hE0 rfl 2 (by decide) (by decide +kernel) rfl (v := .int (nI pg)) rfl dX5_remove_32 ?_
      refine lv_iconst (v := nI 1) hx hb dX5_remove_35 rfl ?_
      refine lv_isub hx hb dX5_remove_36 ?_
      refine r_nat (pg - 1) (pk_sub (by omega)) ?_
      refine lv_iload_n hx hb dX5_remove_37 rfl (lv_at hl 1 rfl) ?_
      refine lv_isub hx hb dX5_remove_38 ?_
      refine r_nat (pg - 1 - k) (pk_sub (by omega)) ?_
      refine lv_bipush (v := nI 50) hx hb dX5_remove_39 rfl ?_
      refine lv_imul hx hb dX5_remove_41 ?_
      refine r_nat ((pg - 1 - k) * 50) (pk_mul _ _) ?_
      refine r_copy C hw (by rw [C.2.2.2.1]; exact hl.1.symm) (by decide +kernel) (by decide +kernel) (by decide +kernel) (by decide +kernel) (i0 := (i + 1)) (i1 := (i + 1)) (by omega) (by omega) hE1 hE1 (sp := (k + 1) * 50) (dp := k * 50) (n := (pg - 1 - k) * 50) (by omega) (by omega) (by omega) (by omega) (by omega) (by decide) (by decide) dX5_remove_42 (fun zE1 zH1 zL1 zg1 zf1 zw1 => ?_)
      have zh1_0 : zE1 (i + 1) = eI G 500 (va_cpy cs cs ((k + 1) * 50) (k * 50) ((pg - 1 - k) * 50)) := zg1
      have zk1_0 : zE1 i = .inr (2, [.ref (ad (i + 1)), .ref (ad (i + 2)), .int (nI pg), .int (nI cm), .int lst, .int md, .int sd, .int (nI hd)]) := (zf1 _ (by omega)).trans hE0
      have zk1_1 : zE1 (i + 2) = eI G 4 op := (zf1 _ (by omega)).trans hE2
      have zfr1 : ∀ j, j ≠ (i + 1) → zE1 j = E j := fun j zm0 => zf1 j zm0
      refine lv_aload_n hx hb dX5_remove_45 rfl (lv_at hl 0 rfl) ?_
      refine lv_dup hx hb dX5_remove_46 rfl ?_
      refine r_get C zw1 RX5 TX5 8 2 hinX5 (i := i) (by omega) zk1_0 rfl 2 (by decide) (by decide +kernel) rfl (v := .int (nI pg)) rfl dX5_remove_47 ?_
      refine lv_iconst (v := nI 1) hx hb dX5_remove_50 rfl ?_
      refine lv_isub hx hb dX5_remove_51 ?_
      refine r_nat (pg - 1) (pk_sub (by omega)) ?_
      refine r_put C zw1 RX5 TX5 8 2 hinX5 tyX5 tyX5_ok nmX5 (i := i) (by omega) zk1_0 rfl 2 (by decide) (by decide +kernel) rfl rfl (v := .int (nI (pg - 1))) rfl rfl (Nat.le_of_ble_eq_true rfl) dX5_remove_52 (fun zE2 zH2 zL2 zg2 zf2 zw2 => ?_)
      have zh2_0 : zE2 i = .inr (2, [.ref (ad (i + 1)), .ref (ad (i + 2)), .int (nI (pg - 1)), .int (nI cm), .int lst, .int md, .int sd, .int (nI hd)]) := zg2
      have zk2_0 : zE2 (i + 2) = eI G 4 op := (zf2 _ (by omega)).trans zk1_1
      have zk2_1 : zE2 (i + 1) = eI G 500 (va_cpy cs cs ((k + 1) * 50) (k * 50) ((pg - 1 - k) * 50)) := (zf2 _ (by omega)).trans zh1_0
      have zfr2 : ∀ j, j ≠ (i + 1) → j ≠ i → zE2 j = E j := fun j zm0 zm1 => (zf2 j zm1).trans (zfr1 j zm0)
      refine lv_iconst (v := nI 0) hx hb dX5_remove_55 rfl ?_
      refine lv_istore_n (lv' := [(2, .int (nI 0)), (0, .ref (ad i)), (1, .int (nI k))]) hx hb dX5_remove_56 rfl hl (by decide) rfl (fun ls hl => ?_)
      have zlp57 : ∀ (zn : Nat) (b : Nat) (g : Nat → Int32), 4 - b < zn → (b ≤ 4) → (g = shQ op k b) → ∀ (E9 : Nat → va_E) (H9 : Heap) (L9 : List Loc), E9 (i + 2) = eI G 4 g → E9 (i + 1) = eI G 500 (va_cpy cs cs ((k + 1) * 50) (k * 50) ((pg - 1 - k) * 50)) → E9 i = .inr (2, [.ref (ad (i + 1)), .ref (ad (i + 2)), .int (nI (pg - 1)), .int (nI cm), .int lst, .int md, .int sd, .int (nI hd)]) → (∀ j, j ≠ (i + 1) → j ≠ i → j ≠ (i + 2) → E9 j = E j) → Wd G A ss_.heap H9 L9 ad E9 N → ∀ (ls : Array Slot), lv_has ls 3 [(0, .ref (ad i)), (1, .int (nI k)), (2, .int (nI b))] → W pp_ l ee_ ({ frames := 1, cells := 0, slots := 0, locals := 40 } : Room) ss_ mm_ aa_ bb_ me_ cc_ H9 L9 0 0 (QV bb_ aa_ ss_ G ad N A (fun E2 => E2 i = .inr (2, [.ref (ad (i + 1)), .ref (ad (i + 2)), .int (nI (pg - 1)), .int (nI cm), .int lst, .int md, .int sd, .int (nI hd)]) ∧ E2 (i + 1) = eI G 500 (rmF cs pg k) ∧ E2 (i + 2) = eI G 4 (shQ op k 4) ∧ (∀ j, j ≠ i → j ≠ (i + 1) → j ≠ (i + 2) → E2 j = E j))) (F0 mm_ 57 ls []) := by
        intro zn
        induction zn with
        | zero => intro b g zhm; exact absurd zhm (Nat.not_lt_zero _)
        | succ zn zih57 =>
          intro b g zhm57 hb4 hg zE_57 zH_57 zL_57 zl57_0 zl57_1 zl57_2 zlf57  zlw57 ls hl
          refine lv_iload_n hx hb dX5_remove_57 rfl (lv_at hl 2 rfl) ?_
          refine lv_iconst (v := nI 4) hx hb dX5_remove_58 rfl ?_
          refine n_icmp_ge (tgt := 108) hx hb dX5_remove_59 (by decide) (by omega) (by omega) (fun zc59 => ?_) (fun zc59 => ?_)
          · exact r_vret C zlw57 dX5_remove_108 ⟨zl57_2, zl57_1, (zl57_0.trans (by rw [hg, show b = 4 by omega])), (fun j zm0 zm1 zm2 => zlf57 j zm1 zm0 zm2)⟩
          · refine lv_aload_n hx hb dX5_remove_62 rfl (lv_at hl 0 rfl) ?_
            refine r_get C zlw57 RX5 TX5 8 2 hinX5 (i := i) (by omega) zl57_2 rfl 1 (by decide) (by decide +kernel) rfl (v := .ref (ad (i + 2))) rfl dX5_remove_63 ?_
            refine lv_iload_n hx hb dX5_remove_66 rfl (lv_at hl 2 rfl) ?_
            refine r_iaN C zlw57 (i := (i + 2)) (by omega) zl57_0 (j := b) (by omega) (by omega) dX5_remove_67 ?_
            refine lv_iload_n hx hb dX5_remove_68 rfl (lv_at hl 1 rfl) ?_
            refine lv_icmp_ne (tgt := 82) hx hb dX5_remove_69 (by decide) (fun zc69 => ?_) (fun zc69 => ?_)
            · refine lv_aload_n hx hb dX5_remove_82 rfl (lv_at hl 0 rfl) ?_
              refine r_get C zlw57 RX5 TX5 8 2 hinX5 (i := i) (by omega) zl57_2 rfl 1 (by decide) (by decide +kernel) rfl (v := .ref (ad (i + 2))) rfl dX5_remove_83 ?_
              refine lv_iload_n hx hb dX5_remove_86 rfl (lv_at hl 2 rfl) ?_
              refine r_iaN C zlw57 (i := (i + 2)) (by omega) zl57_0 (j := b) (by omega) (by omega) dX5_remove_87 ?_
              refine lv_iload_n hx hb dX5_remove_88 rfl (lv_at hl 1 rfl) ?_
              refine lv_icmp_le (tgt := 102) hx hb dX5_remove_89 (by decide) (fun zc89 => ?_) (fun zc89 => ?_)
              · refine lv_iinc (v := nI (b + 1)) (lv' := [(2, .int (nI (b + 1))), (0, .ref (ad i)), (1, .int (nI k))]) hx hb dX5_remove_102 hl (k := 2) rfl (by rw [show Int32.ofInt 1 = nI 1 from rfl, nI_add]) (by decide) rfl (fun ls hl => ?_)
                refine lv_goto (tgt := 57) hx hb dX5_remove_105 (by decide) ?_
                exact zih57 (b + 1) g (by omega) (by omega) (by rw [hg, shQ_g] at zc69; rw [hg]; first | exact shQ_s _ _ _ (by rw [shO, if_pos zc69]) | (rw [hg, shQ_g] at zc89; first | exact shQ_s _ _ _ (by rw [shQ_g, shO, if_neg zc69, if_pos (Int32.not_le.mp zc89)]; rfl) | exact shQ_k _ _ _ (by rw [shO, if_neg zc69, if_neg (Int32.not_lt.mpr zc89)]))) _ _ _ zl57_0 zl57_1 zl57_2 (fun j zm0 zm1 zm2 => zlf57 j zm0 zm1 zm2) zlw57 _ (lv_sub hl [1, 2, 0] rfl)
              · refine lv_aload_n hx hb dX5_remove_92 rfl (lv_at hl 0 rfl) ?_
                refine r_get C zlw57 RX5 TX5 8 2 hinX5 (i := i) (by omega) zl57_2 rfl 1 (by decide) (by decide +kernel) rfl (v := .ref (ad (i + 2))) rfl dX5_remove_93 ?_
                refine lv_iload_n hx hb dX5_remove_96 rfl (lv_at hl 2 rfl) ?_
                refine lv_dup2_11 hx hb dX5_remove_97 rfl rfl ?_
                refine r_iaN C zlw57 (i := (i + 2)) (by omega) zl57_0 (j := b) (by omega) (by omega) dX5_remove_98 ?_
                refine lv_iconst (v := nI 1) hx hb dX5_remove_99 rfl ?_
                refine lv_isub hx hb dX5_remove_100 ?_
                refine r_iasN C zlw57 (i := (i + 2)) (by omega) zl57_0 (j := b) (by omega) (by omega) dX5_remove_101 (fun zE3 zH3 zL3 zg3 zf3 zw3 => ?_)
                have zh3_0 : zE3 (i + 2) = eI G 4 (upd g b ((g b) - (nI 1))) := zg3
                have zk3_0 : zE3 (i + 1) = eI G 500 (va_cpy cs cs ((k + 1) * 50) (k * 50) ((pg - 1 - k) * 50)) := (zf3 _ (by omega)).trans zl57_1
                have zk3_1 : zE3 i = .inr (2, [.ref (ad (i + 1)), .ref (ad (i + 2)), .int (nI (pg - 1)), .int (nI cm), .int lst, .int md, .int sd, .int (nI hd)]) := (zf3 _ (by omega)).trans zl57_2
                have zfr3 : ∀ j, j ≠ (i + 1) → j ≠ i → j ≠ (i + 2) → zE3 j = E j := fun j zm0 zm1 zm2 => (zf3 j zm2).trans (zlf57 j zm0 zm1 zm2)
                refine lv_iinc (v := nI (b + 1)) (lv' := [(2, .int (nI (b + 1))), (0, .ref (ad i)), (1, .int (nI k))]) hx hb dX5_remove_102 hl (k := 2) rfl (by rw [show Int32.ofInt 1 = nI 1 from rfl, nI_add]) (by decide) rfl (fun ls hl => ?_)
                refine lv_goto (tgt := 57) hx hb dX5_remove_105 (by decide) ?_
                exact zih57 (b + 1) (upd g b ((g b) - (nI 1))) (by omega) (by omega) (by rw [hg, shQ_g] at zc69; rw [hg]; first | exact shQ_s _ _ _ (by rw [shO, if_pos zc69]) | (rw [hg, shQ_g] at zc89; first | exact shQ_s _ _ _ (by rw [shQ_g, shO, if_neg zc69, if_pos (Int32.not_le.mp zc89)]; rfl) | exact shQ_k _ _ _ (by rw [shO, if_neg zc69, if_neg (Int32.not_lt.mpr zc89)]))) _ _ _ zh3_0 zk3_0 zk3_1 (fun j zm0 zm1 zm2 => zfr3 j zm0 zm1 zm2) zw3 _ (lv_sub hl [1, 2, 0] rfl)
            · refine lv_aload_n hx hb dX5_remove_72 rfl (lv_at hl 0 rfl) ?_
              refine r_get C zlw57 RX5 TX5 8 2 hinX5 (i := i) (by omega) zl57_2 rfl 1 (by decide) (by decide +kernel) rfl (v := .ref (ad (i + 2))) rfl dX5_remove_73 ?_
              refine lv_iload_n hx hb dX5_remove_76 rfl (lv_at hl 2 rfl) ?_
              refine lv_iconst (v := -1) hx hb dX5_remove_77 (by decide) ?_
              refine r_iasN C zlw57 (i := (i + 2)) (by omega) zl57_0 (j := b) (by omega) (by omega) dX5_remove_78 (fun zE4 zH4 zL4 zg4 zf4 zw4 => ?_)
              have zh4_0 : zE4 (i + 2) = eI G 4 (upd g b (-1)) := zg4
              have zk4_0 : zE4 (i + 1) = eI G 500 (va_cpy cs cs ((k + 1) * 50) (k * 50) ((pg - 1 - k) * 50)) := (zf4 _ (by omega)).trans zl57_1
              have zk4_1 : zE4 i = .inr (2, [.ref (ad (i + 1)), .ref (ad (i + 2)), .int (nI (pg - 1)), .int (nI cm), .int lst, .int md, .int sd, .int (nI hd)]) := (zf4 _ (by omega)).trans zl57_2
              have zfr4 : ∀ j, j ≠ (i + 1) → j ≠ i → j ≠ (i + 2) → zE4 j = E j := fun j zm0 zm1 zm2 => (zf4 j zm2).trans (zlf57 j zm0 zm1 zm2)
              refine lv_goto (tgt := 102) hx hb dX5_remove_79 (by decide) ?_
              refine lv_iinc (v := nI (b + 1)) (lv' := [(2, .int (nI (b + 1))), (0, .ref (ad i)), (1, .int (nI k))]) hx hb dX5_remove_102 hl (k := 2) rfl (by rw [show Int32.ofInt 1 = nI 1 from rfl, nI_add]) (by decide) rfl (fun ls hl => ?_)
              refine lv_goto (tgt := 57) hx hb dX5_remove_105 (by decide) ?_
              exact zih57 (b + 1) (upd g b (-1)) (by omega) (by omega) (by rw [hg, shQ_g] at zc69; rw [hg]; first | exact shQ_s _ _ _ (by rw [shO, if_pos zc69]) | (rw [hg, shQ_g] at zc89; first | exact shQ_s _ _ _ (by rw [shQ_g, shO, if_neg zc69, if_pos (Int32.not_le.mp zc89)]; rfl) | exact shQ_k _ _ _ (by rw [shO, if_neg zc69, if_neg (Int32.not_lt.mpr zc89)]))) _ _ _ zh4_0 zk4_0 zk4_1 (fun j zm0 zm1 zm2 => zfr4 j zm0 zm1 zm2) zw4 _ (lv_sub hl [1, 2, 0] rfl)
      exact zlp57 _ 0 op (Nat.lt_succ_self _) (by omega) (by exact (shQ_0 _ _).symm) _ _ _ zk2_0 zk2_1 zh2_0 (fun j zm0 zm1 zm2 => zfr2 j zm0 zm1) zw2 _ (lv_sub hl [1, 2, 0] rfl)
    · exact absurd zc9 (by omega)

set_option maxHeartbeats 4000000 in
set_option maxRecDepth 100000 in
theorem c_X5_longestAgo {l : Launch} {G : vG} {tC : Nat} {ad : Nat → Nat} {N : Nat} {E : Nat → va_E} {i pg cm hd : Nat} {lst md sd : Int32} {cs : Nat → Int32} (hN0 : i + 3 ≤ N) (hE0 : E i = .inr (2, [.ref (ad (i + 1)), .ref (ad (i + 2)), .int (nI pg), .int (nI cm), .int lst, .int md, .int sd, .int (nI hd)])) (hE1 : E (i + 1) = eI G 500 cs) (hp1 : 1 ≤ pg) (hp : pg ≤ 10) : MI l yX5_longestAgo wsX5_longestAgo ({ frames := 1, cells := 0, slots := 0, locals := 23 } : Room) G tC ad N E [.ref (ad i)] (fun r E2 => E2 = E ∧ r = nI (oldS (latA cs) (pg - 1))) := by
  refine MI_of RX5 rfl (by decide) rfl (Nat.le_of_ble_eq_true rfl) ?_
  intro pp_ ee_ ss_ mm_ aa_ bb_ me_ cc_ A ls C hw hl
  have hx := C.1
  have hb := C.2.1
  have hown := C.2.2.2.2.1
  have hts := C.2.2.2.2.2.1
  have hl : lv_has ls 3 [(0, .ref (ad i))] := hl
  have hinX5 : ∀ w ∈ u_ws RX5 TX5 8, w ∈ wsX5_longestAgo := by decide +kernel
  refine lv_iconst (v := nI 0) hx hb dX5_longestAgo_0 rfl ?_
  refine lv_istore_n (lv' := [(1, .int (nI 0)), (0, .ref (ad i))]) hx hb dX5_longestAgo_1 rfl hl (by decide) rfl (fun ls hl => ?_)
  refine lv_iconst (v := nI 1) hx hb dX5_longestAgo_2 rfl ?_
  refine lv_istore_n (lv' := [(2, .int (nI 1)), (1, .int (nI 0)), (0, .ref (ad i))]) hx hb dX5_longestAgo_3 rfl hl (by decide) rfl (fun ls hl => ?_)
  have zlp4 : ∀ (zn : Nat) (k w : Nat), pg - k < zn → (1 ≤ k) → (k ≤ pg) → (w = oldS (latA cs) (k - 1)) → (w < k) → ∀ (H9 : Heap) (L9 : List Loc), Wd G A ss_.heap H9 L9 ad E N → ∀ (ls : Array Slot), lv_has ls 3 [(0, .ref (ad i)), (1, .int (nI w)), (2, .int (nI k))] → W pp_ l ee_ ({ frames := 1, cells := 0, slots := 0, locals := 23 } : Room) ss_ mm_ aa_ bb_ me_ cc_ H9 L9 0 0 (QI bb_ aa_ ss_ G ad N A (fun r E2 => E2 = E ∧ r = nI (oldS (latA cs) (pg - 1)))) (F0 mm_ 4 ls []) := by
    intro zn
    induction zn with
    | zero => intro k w zhm; exact absurd zhm (Nat.not_lt_zero _)
    | succ zn zih4 =>
      intro k w zhm4 hk1 hk2 hww hwl zH_4 zL_4 zlw4 ls hl
      refine lv_iload_n hx hb dX5_longestAgo_4 rfl (lv_at hl 2 rfl) ?_
      refine lv_aload_n hx hb dX5_longestAgo_5 rfl (lv_at hl 0 rfl) ?_
      refine r_get C zlw4 RX5 TX5 8 2 hinX5 (i := i) (by omega) hE0 rfl 2 (by decide) (by decide +kernel) rfl (v := .int (nI pg)) rfl dX5_longestAgo_6 ?_
      refine n_icmp_ge (tgt := 35) hx hb dX5_longestAgo_9 (by decide) (by omega) (by omega) (fun zc9 => ?_) (fun zc9 => ?_)
      · refine lv_iload_n hx hb dX5_longestAgo_35 rfl (lv_at hl 1 rfl) ?_
        exact r_iret C zlw4 dX5_longestAgo_36 ⟨rfl, (by rw [hww, show k = pg by omega])⟩
      · refine lv_aload_n hx hb dX5_longestAgo_12 rfl (lv_at hl 0 rfl) ?_
        refine lv_iload_n hx hb dX5_longestAgo_13 rfl (lv_at hl 2 rfl) ?_
        refine lv_iconst (v := nI 5) hx hb dX5_longestAgo_14 rfl ?_
        refine r_vI C zlw4 hl.1 (i := i) (by omega) hE0 (T := TX5) (n := 8) rfl [.int (nI k), .int (nI 5)] 2 rfl (c_X5_get (l := l) (G := G) (tC := tC) (ad := ad) (N := N) (E := E) (i := i) (pg := pg) (cm := cm) (hd := hd) (lst := lst) (md := md) (sd := sd) (cs := cs) (k := k) (cl := 5) (by omega) hE0 hE1 (by first | assumption | omega)) gX5_longestAgo_X5_get rfl ⟨rfl, rfl⟩ (by decide +kernel) ⟨Nat.le_of_ble_eq_true rfl, Nat.le_of_ble_eq_true rfl⟩ (rest := []) rfl (Nat.le_of_ble_eq_true rfl) dX5_longestAgo_15 ⟨Nat.zero_le _, Nat.zero_le _⟩ (fun zr1 zE1 zH1 zL1 zp1 zw1 => ?_)
        obtain ⟨ze1, zq1⟩ := zp1
        rw [ze1] at zw1
        clear ze1
        rw [zq1]
        refine lv_aload_n hx hb dX5_longestAgo_18 rfl (lv_at hl 0 rfl) ?_
        refine lv_iload_n hx hb dX5_longestAgo_19 rfl (lv_at hl 1 rfl) ?_
        refine lv_iconst (v := nI 5) hx hb dX5_longestAgo_20 rfl ?_
        refine r_vI C zw1 hl.1 (i := i) (by omega) hE0 (T := TX5) (n := 8) rfl [.int (nI w), .int (nI 5)] 2 rfl (c_X5_get (l := l) (G := G) (tC := tC) (ad := ad) (N := N) (E := E) (i := i) (pg := pg) (cm := cm) (hd := hd) (lst := lst) (md := md) (sd := sd) (cs := cs) (k := w) (cl := 5) (by omega) hE0 hE1 (by first | assumption | omega)) gX5_longestAgo_X5_get rfl ⟨rfl, rfl⟩ (by decide +kernel) ⟨Nat.le_of_ble_eq_true rfl, Nat.le_of_ble_eq_true rfl⟩ (rest := [.int (cs (k * 50 + 5))]) rfl (Nat.le_of_ble_eq_true rfl) dX5_longestAgo_21 ⟨Nat.zero_le _, Nat.zero_le _⟩ (fun zr2 zE2 zH2 zL2 zp2 zw2 => ?_)
        obtain ⟨ze2, zq2⟩ := zp2
        rw [ze2] at zw2
        clear ze2
        rw [zq2]
        refine lv_icmp_ge (tgt := 29) hx hb dX5_longestAgo_24 (by decide) (fun zc24 => ?_) (fun zc24 => ?_)
        · refine lv_iinc (v := nI (k + 1)) (lv' := [(2, .int (nI (k + 1))), (0, .ref (ad i)), (1, .int (nI w))]) hx hb dX5_longestAgo_29 hl (k := 2) rfl (by rw [show Int32.ofInt 1 = nI 1 from rfl, nI_add]) (by decide) rfl (fun ls hl => ?_)
          refine lv_goto (tgt := 4) hx hb dX5_longestAgo_32 (by decide) ?_
          exact zih4 (k + 1) w (by omega) (by omega) (by omega) (by rw [show k + 1 - 1 = (k - 1) + 1 by omega, oldS, show k - 1 + 1 = k by omega, ← hww]; first | exact (if_pos (Int32.not_le.mp zc24)).symm | exact (if_neg (Int32.not_lt.mpr zc24)).symm) (by omega) _ _ zw2 _ (lv_sub hl [1, 2, 0] rfl)
        · refine lv_iload_n hx hb dX5_longestAgo_27 rfl (lv_at hl 2 rfl) ?_
          refine lv_istore_n (lv' := [(1, .int (nI k)), (0, .ref (ad i)), (2, .int (nI k))]) hx hb dX5_longestAgo_28 rfl hl (by decide) rfl (fun ls hl => ?_)
          refine lv_iinc (v := nI (k + 1)) (lv' := [(2, .int (nI (k + 1))), (1, .int (nI k)), (0, .ref (ad i))]) hx hb dX5_longestAgo_29 hl (k := 2) rfl (by rw [show Int32.ofInt 1 = nI 1 from rfl, nI_add]) (by decide) rfl (fun ls hl => ?_)
          refine lv_goto (tgt := 4) hx hb dX5_longestAgo_32 (by decide) ?_
          exact zih4 (k + 1) k (by omega) (by omega) (by omega) (by rw [show k + 1 - 1 = (k - 1) + 1 by omega, oldS, show k - 1 + 1 = k by omega, ← hww]; first | exact (if_pos (Int32.not_le.mp zc24)).symm | exact (if_neg (Int32.not_lt.mpr zc24)).symm) (by omega) _ _ zw2 _ (lv_sub hl [2, 1, 0] rfl)
  exact zlp4 _ 1 0 (Nat.lt_succ_self _) (by omega) (by omega) (by rfl) (by omega) _ _ hw _ (lv_sub hl [2, 1, 0] rfl)

set_option maxHeartbeats 4000000 in
set_option maxRecDepth 100000 in
theorem c_X5_openPage {l : Launch} {G : vG} {tC : Nat} {ad : Nat → Nat} {N : Nat} {E : Nat → va_E} {i pg cm hd : Nat} {lst md sd : Int32} {cs : Nat → Int32} {op : Nat → Int32} {s : Nat → Int32} {b : Nat} {n p9 : Int32} (hN0 : i + 3 ≤ N) (hE0 : E i = .inr (2, [.ref (ad (i + 1)), .ref (ad (i + 2)), .int (nI pg), .int (nI cm), .int lst, .int md, .int sd, .int (nI hd)])) (hE1 : E (i + 1) = eI G 500 cs) (hE2 : E (i + 2) = eI G 4 op) (hag : agr cs s pg) (hp : pg ≤ 10) (hb4 : b < 4) (hhd : hd < 1000000) : MI l yX5_openPage wsX5_openPage ({ frames := 3, cells := 0, slots := 0, locals := 67 } : Room) G tC ad N E [.ref (ad i), .int (nI b), .int n, .int p9] (fun r E2 => ∃ cs2 : Nat → Int32, ∃ op2 : Nat → Int32, ∃ pg2 : Nat, ∃ k2 : Nat, E2 i = .inr (2, [.ref (ad (i + 1)), .ref (ad (i + 2)), .int (nI pg2), .int (nI cm), .int lst, .int md, .int sd, .int (nI (hd + 1))]) ∧ E2 (i + 1) = eI G 500 cs2 ∧ E2 (i + 2) = eI G 4 op2 ∧ (∀ j, j ≠ i → j ≠ (i + 1) → j ≠ (i + 2) → E2 j = E j) ∧ opnR cs op pg hd b (srch (cel s) (nI b) n p9 pg 0) n p9 cs2 op2 pg2 k2 ∧ r = nI k2) := by
  refine MI_of RX5 rfl (by decide) rfl (Nat.le_of_ble_eq_true rfl) ?_
  intro pp_ ee_ ss_ mm_ aa_ bb_ me_ cc_ A ls C hw hl
  have hx := C.1
  have hb := C.2.1
  have hown := C.2.2.2.2.1
  have hts := C.2.2.2.2.2.1
  have hl : lv_has ls 5 [(0, .ref (ad i)), (1, .int (nI b)), (2, .int n), (3, .int p9)] := hl
  have hinX5 : ∀ w ∈ u_ws RX5 TX5 8, w ∈ wsX5_openPage := by decide +kernel
  refine lv_aload_n hx hb dX5_openPage_0 rfl (lv_at hl 0 rfl) ?_
  refine lv_iload_n hx hb dX5_openPage_1 rfl (lv_at hl 1 rfl) ?_
  refine lv_iload_n hx hb dX5_openPage_2 rfl (lv_at hl 2 rfl) ?_
  refine lv_iload_n hx hb dX5_openPage_3 rfl (lv_at hl 3 rfl) ?_
  refine r_vI C hw hl.1 (i := i) (by omega) hE0 (T := TX5) (n := 8) rfl [.int (nI b), .int n, .int p9] 3 rfl (c_X5_search (l := l) (G := G) (tC := tC) (ad := ad) (N := N) (E := E) (i := i) (pg := pg) (cm := cm) (hd := hd) (lst := lst) (md := md) (sd := sd) (cs := cs) (s := s) (b := nI b) (n := n) (p9 := p9) (by omega) hE0 hE1 (by first | assumption | omega) (by first | assumption | omega)) gX5_openPage_X5_search rfl ⟨rfl, rfl⟩ (by decide +kernel) ⟨Nat.le_of_ble_eq_true rfl, Nat.le_of_ble_eq_true rfl⟩ (rest := []) rfl (Nat.le_of_ble_eq_true rfl) dX5_openPage_4 ⟨Nat.zero_le _, Nat.zero_le _⟩ (fun zr1 zE1 zH1 zL1 zp1 zw1 => ?_)
  obtain ⟨ze1, zq1⟩ := zp1
  rw [ze1] at zw1
  clear ze1
  rw [zq1]
  refine lv_istore (lv' := [(4, .int (fdI (srch (cel s) (nI b) n p9 pg 0) pg)), (0, .ref (ad i)), (1, .int (nI b)), (2, .int n), (3, .int p9)]) hx hb dX5_openPage_7 hl (by decide) rfl (fun ls hl => ?_)
  refine lv_iload hx hb dX5_openPage_9 (lv_at hl 0 rfl) ?_
  refine lv_iconst (v := -1) hx hb dX5_openPage_11 (by decide) ?_
  refine lv_icmp_ne (tgt := 47) hx hb dX5_openPage_12 (by decide) (fun zc12 => ?_) (fun zc12 => ?_)
  · obtain ⟨zi0, zi1⟩ := fdI_nat zc12
    have hl : lv_has ls 5 [(4, .int (nI (srch (cel s) (nI b) n p9 pg 0))), (0, .ref (ad i)), (1, .int (nI b)), (2, .int n), (3, .int p9)] := by have zh9 := hl; rw [zi0] at zh9; exact zh9
    refine lv_aload_n hx hb dX5_openPage_47 rfl (lv_at hl 1 rfl) ?_
    refine lv_dup hx hb dX5_openPage_48 rfl ?_
    refine r_get C zw1 RX5 TX5 8 2 hinX5 (i := i) (by omega) hE0 rfl 7 (by decide) (by decide +kernel) rfl (v := .int (nI hd)) rfl dX5_openPage_49 ?_
    refine lv_iconst (v := nI 1) hx hb dX5_openPage_52 rfl ?_
    refine lv_iadd hx hb dX5_openPage_53 ?_
    refine r_nat (hd + 1) (nI_add _ _) ?_
    refine r_put C zw1 RX5 TX5 8 2 hinX5 tyX5 tyX5_ok nmX5 (i := i) (by omega) hE0 rfl 7 (by decide) (by decide +kernel) rfl rfl (v := .int (nI (hd + 1))) rfl rfl (Nat.le_of_ble_eq_true rfl) dX5_openPage_54 (fun zE2 zH2 zL2 zg2 zf2 zw2 => ?_)
    have zh2_0 : zE2 i = .inr (2, [.ref (ad (i + 1)), .ref (ad (i + 2)), .int (nI pg), .int (nI cm), .int lst, .int md, .int sd, .int (nI (hd + 1))]) := zg2
    have zk2_0 : zE2 (i + 1) = eI G 500 cs := (zf2 _ (by omega)).trans hE1
    have zk2_1 : zE2 (i + 2) = eI G 4 op := (zf2 _ (by omega)).trans hE2
    have zfr2 : ∀ j, j ≠ i → zE2 j = E j := fun j zm0 => zf2 j zm0
    refine lv_aload_n hx hb dX5_openPage_57 rfl (lv_at hl 1 rfl) ?_
    refine lv_iload hx hb dX5_openPage_58 (lv_at hl 0 rfl) ?_
    refine lv_iconst (v := nI 5) hx hb dX5_openPage_60 rfl ?_
    refine lv_aload_n hx hb dX5_openPage_61 rfl (lv_at hl 1 rfl) ?_
    refine r_get C zw2 RX5 TX5 8 2 hinX5 (i := i) (by omega) zh2_0 rfl 7 (by decide) (by decide +kernel) rfl (v := .int (nI (hd + 1))) rfl dX5_openPage_62 ?_
    refine r_vV C zw2 hl.1 (i := i) (by omega) zh2_0 (T := TX5) (n := 8) rfl [.int (nI (srch (cel s) (nI b) n p9 pg 0)), .int (nI 5), .int (nI (hd + 1))] 3 rfl (c_X5_set (l := l) (G := G) (tC := tC) (ad := ad) (N := N) (E := zE2) (i := i) (pg := pg) (cm := cm) (hd := hd + 1) (lst := lst) (md := md) (sd := sd) (cs := cs) (k := srch (cel s) (nI b) n p9 pg 0) (cl := 5) (v := nI (hd + 1)) (by omega) zh2_0 zk2_0 (by first | assumption | omega)) gX5_openPage_X5_set rfl ⟨rfl, rfl⟩ (by decide +kernel) ⟨Nat.le_of_ble_eq_true rfl, Nat.le_of_ble_eq_true rfl⟩ (rest := []) rfl (Nat.le_of_ble_eq_true rfl) dX5_openPage_65 ⟨Nat.zero_le _, Nat.zero_le _⟩ (fun zE3 zH3 zL3 zp3 zw3 => ?_)
    obtain ⟨zg3_0, zf3⟩ := zp3
    have zh3_0 : zE3 (i + 1) = eI G 500 (upd cs ((srch (cel s) (nI b) n p9 pg 0) * 50 + 5) (nI (hd + 1))) := zg3_0
    have zk3_0 : zE3 (i + 2) = eI G 4 op := (zf3 _ (by omega)).trans zk2_1
    have zk3_1 : zE3 i = .inr (2, [.ref (ad (i + 1)), .ref (ad (i + 2)), .int (nI pg), .int (nI cm), .int lst, .int md, .int sd, .int (nI (hd + 1))]) := (zf3 _ (by omega)).trans zh2_0
    have zfr3 : ∀ j, j ≠ i → j ≠ (i + 1) → zE3 j = E j := fun j zm0 zm1 => (zf3 j zm1).trans (zfr2 j zm0)
    refine lv_aload_n hx hb dX5_openPage_68 rfl (lv_at hl 1 rfl) ?_
    refine lv_iload hx hb dX5_openPage_69 (lv_at hl 0 rfl) ?_
    refine lv_iconst (v := nI 3) hx hb dX5_openPage_71 rfl ?_
    refine lv_aload_n hx hb dX5_openPage_72 rfl (lv_at hl 1 rfl) ?_
    refine lv_iload hx hb dX5_openPage_73 (lv_at hl 0 rfl) ?_
    refine lv_iconst (v := nI 3) hx hb dX5_openPage_75 rfl ?_
    refine r_vI C zw3 hl.1 (i := i) (by omega) zk3_1 (T := TX5) (n := 8) rfl [.int (nI (srch (cel s) (nI b) n p9 pg 0)), .int (nI 3)] 2 rfl (c_X5_get (l := l) (G := G) (tC := tC) (ad := ad) (N := N) (E := zE3) (i := i) (pg := pg) (cm := cm) (hd := hd + 1) (lst := lst) (md := md) (sd := sd) (cs := upd cs ((srch (cel s) (nI b) n p9 pg 0) * 50 + 5) (nI (hd + 1))) (k := srch (cel s) (nI b) n p9 pg 0) (cl := 3) (by omega) zk3_1 zh3_0 (by first | assumption | omega)) gX5_openPage_X5_get rfl ⟨rfl, rfl⟩ (by decide +kernel) ⟨Nat.le_of_ble_eq_true rfl, Nat.le_of_ble_eq_true rfl⟩ (rest := [.int (nI 3), .int (nI (srch (cel s) (nI b) n p9 pg 0)), .ref (ad i)]) rfl (Nat.le_of_ble_eq_true rfl) dX5_openPage_76 ⟨Nat.zero_le _, Nat.zero_le _⟩ (fun zr4 zE4 zH4 zL4 zp4 zw4 => ?_)
    obtain ⟨ze4, zq4⟩ := zp4
    rw [ze4] at zw4
    clear ze4
    rw [zq4]
    refine lv_iconst (v := nI 1) hx hb dX5_openPage_79 rfl ?_
    refine lv_iadd hx hb dX5_openPage_80 ?_
    refine lv_sipush (v := nI 9999) hx hb dX5_openPage_81 rfl ?_
    refine va_mmin hx hb (by rw [C.2.2.2.1]; exact hl.1.symm) hown (hts (.methodLink RX5 111 Lib.Math.min.name) (by decide +kernel)) (hts (.static Lib.Math.min.name) (by decide +kernel)) (hts (.initialized "java/lang/Math") (by decide +kernel)) (hts (.code Lib.Math.min.name Lib.Math.min.code 2 (some .int)) (by decide +kernel)) (Nat.le_of_ble_eq_true rfl) (Nat.le_of_ble_eq_true rfl) (Nat.zero_le _) (Nat.zero_le _) dX5_openPage_84 ?_
    refine r_vV C zw4 hl.1 (i := i) (by omega) zk3_1 (T := TX5) (n := 8) rfl [.int (nI (srch (cel s) (nI b) n p9 pg 0)), .int (nI 3), .int (if nI 9999 < ((upd cs ((srch (cel s) (nI b) n p9 pg 0) * 50 + 5) (nI (hd + 1))) ((srch (cel s) (nI b) n p9 pg 0) * 50 + 3)) + (nI 1) then nI 9999 else ((upd cs ((srch (cel s) (nI b) n p9 pg 0) * 50 + 5) (nI (hd + 1))) ((srch (cel s) (nI b) n p9 pg 0) * 50 + 3)) + (nI 1))] 3 rfl (c_X5_set (l := l) (G := G) (tC := tC) (ad := ad) (N := N) (E := zE3) (i := i) (pg := pg) (cm := cm) (hd := hd + 1) (lst := lst) (md := md) (sd := sd) (cs := upd cs ((srch (cel s) (nI b) n p9 pg 0) * 50 + 5) (nI (hd + 1))) (k := srch (cel s) (nI b) n p9 pg 0) (cl := 3) (v := if nI 9999 < ((upd cs ((srch (cel s) (nI b) n p9 pg 0) * 50 + 5) (nI (hd + 1))) ((srch (cel s) (nI b) n p9 pg 0) * 50 + 3)) + (nI 1) then nI 9999 else ((upd cs ((srch (cel s) (nI b) n p9 pg 0) * 50 + 5) (nI (hd + 1))) ((srch (cel s) (nI b) n p9 pg 0) * 50 + 3)) + (nI 1)) (by omega) zk3_1 zh3_0 (by first | assumption | omega)) gX5_openPage_X5_set rfl ⟨rfl, rfl⟩ (by decide +kernel) ⟨Nat.le_of_ble_eq_true rfl, Nat.le_of_ble_eq_true rfl⟩ (rest := []) rfl (Nat.le_of_ble_eq_true rfl) dX5_openPage_87 ⟨Nat.zero_le _, Nat.zero_le _⟩ (fun zE5 zH5 zL5 zp5 zw5 => ?_)
    obtain ⟨zg5_0, zf5⟩ := zp5
    have zh5_0 : zE5 (i + 1) = eI G 500 (upd (upd cs ((srch (cel s) (nI b) n p9 pg 0) * 50 + 5) (nI (hd + 1))) ((srch (cel s) (nI b) n p9 pg 0) * 50 + 3) (if nI 9999 < ((upd cs ((srch (cel s) (nI b) n p9 pg 0) * 50 + 5) (nI (hd + 1))) ((srch (cel s) (nI b) n p9 pg 0) * 50 + 3)) + (nI 1) then nI 9999 else ((upd cs ((srch (cel s) (nI b) n p9 pg 0) * 50 + 5) (nI (hd + 1))) ((srch (cel s) (nI b) n p9 pg 0) * 50 + 3)) + (nI 1))) := zg5_0
    have zk5_0 : zE5 (i + 2) = eI G 4 op := (zf5 _ (by omega)).trans zk3_0
    have zk5_1 : zE5 i = .inr (2, [.ref (ad (i + 1)), .ref (ad (i + 2)), .int (nI pg), .int (nI cm), .int lst, .int md, .int sd, .int (nI (hd + 1))]) := (zf5 _ (by omega)).trans zk3_1
    have zfr5 : ∀ j, j ≠ i → j ≠ (i + 1) → zE5 j = E j := fun j zm0 zm1 => (zf5 j zm1).trans (zfr3 j zm0 zm1)
    refine lv_iload_n hx hb dX5_openPage_90 rfl (lv_at hl 2 rfl) ?_
    refine lv_iconst (v := nI 0) hx hb dX5_openPage_91 rfl ?_
    refine lv_iconst (v := nI 3) hx hb dX5_openPage_92 rfl ?_
    refine r_nI C zw5 hl.1 [.int (nI b), .int (nI 0), .int (nI 3)] 3 rfl (c_X7_isWithin (l := l) (G := G) (tC := tC) (ad := ad) (N := N) (E := zE5) (x := nI b) (a := nI 0) (b := nI 3)   ) C.2.2.2.2.2.2.1.2.2.2.2.1 gX5_openPage_X7_isWithin_n72 rfl ⟨rfl, rfl⟩ (by decide +kernel) (by decide +kernel) (by decide +kernel) ⟨Nat.le_of_ble_eq_true rfl, Nat.le_of_ble_eq_true rfl⟩ (rest := []) rfl (Nat.le_of_ble_eq_true rfl) dX5_openPage_93 ⟨Nat.zero_le _, Nat.zero_le _⟩ (fun zr6 zE6 zH6 zL6 zp6 zw6 => ?_)
    obtain ⟨ze6, zq6⟩ := zp6
    rw [ze6] at zw6
    clear ze6
    rw [zq6]
    refine b_if_eq (tgt := 107) hx hb dX5_openPage_96 (by decide) (fun zc96 => ?_) (fun zc96 => ?_)
    · exact absurd (in_nI (by omega) (by omega)) zc96
    · refine lv_aload_n hx hb dX5_openPage_99 rfl (lv_at hl 1 rfl) ?_
      refine r_get C zw6 RX5 TX5 8 2 hinX5 (i := i) (by omega) zk5_1 rfl 1 (by decide) (by decide +kernel) rfl (v := .ref (ad (i + 2))) rfl dX5_openPage_100 ?_
      refine lv_iload_n hx hb dX5_openPage_103 rfl (lv_at hl 2 rfl) ?_
      refine lv_iload hx hb dX5_openPage_104 (lv_at hl 0 rfl) ?_
      refine r_iasN C zw6 (i := (i + 2)) (by omega) zk5_0 (j := b) (by omega) (by omega) dX5_openPage_106 (fun zE7 zH7 zL7 zg7 zf7 zw7 => ?_)
      have zh7_0 : zE7 (i + 2) = eI G 4 (upd op b (nI (srch (cel s) (nI b) n p9 pg 0))) := zg7
      have zk7_0 : zE7 i = .inr (2, [.ref (ad (i + 1)), .ref (ad (i + 2)), .int (nI pg), .int (nI cm), .int lst, .int md, .int sd, .int (nI (hd + 1))]) := (zf7 _ (by omega)).trans zk5_1
      have zk7_1 : zE7 (i + 1) = eI G 500 (upd (upd cs ((srch (cel s) (nI b) n p9 pg 0) * 50 + 5) (nI (hd + 1))) ((srch (cel s) (nI b) n p9 pg 0) * 50 + 3) (if nI 9999 < ((upd cs ((srch (cel s) (nI b) n p9 pg 0) * 50 + 5) (nI (hd + 1))) ((srch (cel s) (nI b) n p9 pg 0) * 50 + 3)) + (nI 1) then nI 9999 else ((upd cs ((srch (cel s) (nI b) n p9 pg 0) * 50 + 5) (nI (hd + 1))) ((srch (cel s) (nI b) n p9 pg 0) * 50 + 3)) + (nI 1))) := (zf7 _ (by omega)).trans zh5_0
      have zfr7 : ∀ j, j ≠ i → j ≠ (i + 1) → j ≠ (i + 2) → zE7 j = E j := fun j zm0 zm1 zm2 => (zf7 j zm2).trans (zfr5 j zm0 zm1)
      refine lv_iload hx hb dX5_openPage_107 (lv_at hl 0 rfl) ?_
      exact r_iret C zw7 dX5_openPage_109 ⟨upd (upd cs ((srch (cel s) (nI b) n p9 pg 0) * 50 + 5) (nI (hd + 1))) ((srch (cel s) (nI b) n p9 pg 0) * 50 + 3) (if nI 9999 < ((upd cs ((srch (cel s) (nI b) n p9 pg 0) * 50 + 5) (nI (hd + 1))) ((srch (cel s) (nI b) n p9 pg 0) * 50 + 3)) + (nI 1) then nI 9999 else ((upd cs ((srch (cel s) (nI b) n p9 pg 0) * 50 + 5) (nI (hd + 1))) ((srch (cel s) (nI b) n p9 pg 0) * 50 + 3)) + (nI 1)), upd op b (nI (srch (cel s) (nI b) n p9 pg 0)), pg, srch (cel s) (nI b) n p9 pg 0, zk7_0, zk7_1, zh7_0, (fun j zm0 zm1 zm2 => zfr7 j zm0 zm1 zm2), (by refine ⟨?_, rfl⟩; exact Or.inl ⟨zi1, rfl, rfl, rfl, rfl⟩)⟩
  · have zi1 : ¬ srch (cel s) (nI b) n p9 pg 0 < pg := fdI_m1 (by omega) zc12
    refine lv_aload_n hx hb dX5_openPage_15 rfl (lv_at hl 1 rfl) ?_
    refine r_get C zw1 RX5 TX5 8 2 hinX5 (i := i) (by omega) hE0 rfl 2 (by decide) (by decide +kernel) rfl (v := .int (nI pg)) rfl dX5_openPage_16 ?_
    refine lv_bipush (v := nI 10) hx hb dX5_openPage_19 rfl ?_
    refine n_icmp_lt (tgt := 32) hx hb dX5_openPage_21 (by decide) (by omega) (by omega) (fun zc21 => ?_) (fun zc21 => ?_)
    · refine lv_aload_n hx hb dX5_openPage_32 rfl (lv_at hl 1 rfl) ?_
      refine lv_iload_n hx hb dX5_openPage_33 rfl (lv_at hl 2 rfl) ?_
      refine lv_iload_n hx hb dX5_openPage_34 rfl (lv_at hl 3 rfl) ?_
      refine lv_iload_n hx hb dX5_openPage_35 rfl (lv_at hl 4 rfl) ?_
      refine r_vI C zw1 hl.1 (i := i) (by omega) hE0 (T := TX5) (n := 8) rfl [.int (nI b), .int n, .int p9] 3 rfl (c_X5_append (l := l) (G := G) (tC := tC) (ad := ad) (N := N) (E := E) (i := i) (pg := pg) (cm := cm) (hd := hd) (lst := lst) (md := md) (sd := sd) (cs := cs) (b := nI b) (n := n) (p9 := p9) (by omega) hE0 hE1 (by first | assumption | omega)) gX5_openPage_X5_append rfl ⟨rfl, rfl⟩ (by decide +kernel) ⟨Nat.le_of_ble_eq_true rfl, Nat.le_of_ble_eq_true rfl⟩ (rest := []) rfl (Nat.le_of_ble_eq_true rfl) dX5_openPage_36 ⟨Nat.zero_le _, Nat.zero_le _⟩ (fun zr8 zE8 zH8 zL8 zp8 zw8 => ?_)
      obtain ⟨zg8_0, zg8_1, zf8, zq8⟩ := zp8
      have zh8_0 : zE8 i = .inr (2, [.ref (ad (i + 1)), .ref (ad (i + 2)), .int (nI (pg + 1)), .int (nI cm), .int lst, .int md, .int sd, .int (nI hd)]) := zg8_0
      have zh8_1 : zE8 (i + 1) = eI G 500 (upd (upd (upd (upd (upd cs (pg * 50 + 0) (nI b)) (pg * 50 + 1) n) (pg * 50 + 2) p9) (pg * 50 + 3) (nI 0)) (pg * 50 + 4) (nI 1)) := zg8_1
      have zk8_0 : zE8 (i + 2) = eI G 4 op := (zf8 _ (by omega) (by omega)).trans hE2
      have zfr8 : ∀ j, j ≠ i → j ≠ (i + 1) → zE8 j = E j := fun j zm0 zm1 => zf8 j zm0 zm1
      rw [zq8]
      refine lv_istore (lv' := [(4, .int (nI pg)), (0, .ref (ad i)), (1, .int (nI b)), (2, .int n), (3, .int p9)]) hx hb dX5_openPage_39 hl (by decide) rfl (fun ls hl => ?_)
      refine lv_aload_n hx hb dX5_openPage_41 rfl (lv_at hl 1 rfl) ?_
      refine lv_iload hx hb dX5_openPage_42 (lv_at hl 0 rfl) ?_
      refine r_vV C zw8 hl.1 (i := i) (by omega) zh8_0 (T := TX5) (n := 8) rfl [.int (nI pg)] 1 rfl (c_X5_clear (l := l) (G := G) (tC := tC) (ad := ad) (N := N) (E := zE8) (i := i) (pg := pg + 1) (cm := cm) (hd := hd) (lst := lst) (md := md) (sd := sd) (cs := upd (upd (upd (upd (upd cs (pg * 50 + 0) (nI b)) (pg * 50 + 1) n) (pg * 50 + 2) p9) (pg * 50 + 3) (nI 0)) (pg * 50 + 4) (nI 1)) (k := pg) (by omega) zh8_0 zh8_1 (by omega)) gX5_openPage_X5_clear rfl ⟨rfl, rfl⟩ (by decide +kernel) ⟨Nat.le_of_ble_eq_true rfl, Nat.le_of_ble_eq_true rfl⟩ (rest := []) rfl (Nat.le_of_ble_eq_true rfl) dX5_openPage_44 ⟨Nat.zero_le _, Nat.zero_le _⟩ (fun zE9 zH9 zL9 zp9 zw9 => ?_)
      obtain ⟨zg9_0, zf9⟩ := zp9
      have zh9_0 : zE9 (i + 1) = eI G 500 (fillF (upd (upd (upd (upd (upd cs (pg * 50 + 0) (nI b)) (pg * 50 + 1) n) (pg * 50 + 2) p9) (pg * 50 + 3) (nI 0)) (pg * 50 + 4) (nI 1)) (pg * 50 + 6) ((pg + 1) * 50) (-1)) := zg9_0
      have zk9_0 : zE9 (i + 2) = eI G 4 op := (zf9 _ (by omega)).trans zk8_0
      have zk9_1 : zE9 i = .inr (2, [.ref (ad (i + 1)), .ref (ad (i + 2)), .int (nI (pg + 1)), .int (nI cm), .int lst, .int md, .int sd, .int (nI hd)]) := (zf9 _ (by omega)).trans zh8_0
      have zfr9 : ∀ j, j ≠ i → j ≠ (i + 1) → zE9 j = E j := fun j zm0 zm1 => (zf9 j zm1).trans (zfr8 j zm0 zm1)
      refine lv_aload_n hx hb dX5_openPage_47 rfl (lv_at hl 1 rfl) ?_
      refine lv_dup hx hb dX5_openPage_48 rfl ?_
      refine r_get C zw9 RX5 TX5 8 2 hinX5 (i := i) (by omega) zk9_1 rfl 7 (by decide) (by decide +kernel) rfl (v := .int (nI hd)) rfl dX5_openPage_49 ?_
      refine lv_iconst (v := nI 1) hx hb dX5_openPage_52 rfl ?_
      refine lv_iadd hx hb dX5_openPage_53 ?_
      refine r_nat (hd + 1) (nI_add _ _) ?_
      refine r_put C zw9 RX5 TX5 8 2 hinX5 tyX5 tyX5_ok nmX5 (i := i) (by omega) zk9_1 rfl 7 (by decide) (by decide +kernel) rfl rfl (v := .int (nI (hd + 1))) rfl rfl (Nat.le_of_ble_eq_true rfl) dX5_openPage_54 (fun zE10 zH10 zL10 zg10 zf10 zw10 => ?_)
      have zh10_0 : zE10 i = .inr (2, [.ref (ad (i + 1)), .ref (ad (i + 2)), .int (nI (pg + 1)), .int (nI cm), .int lst, .int md, .int sd, .int (nI (hd + 1))]) := zg10
      have zk10_0 : zE10 (i + 2) = eI G 4 op := (zf10 _ (by omega)).trans zk9_0
      have zk10_1 : zE10 (i + 1) = eI G 500 (fillF (upd (upd (upd (upd (upd cs (pg * 50 + 0) (nI b)) (pg * 50 + 1) n) (pg * 50 + 2) p9) (pg * 50 + 3) (nI 0)) (pg * 50 + 4) (nI 1)) (pg * 50 + 6) ((pg + 1) * 50) (-1)) := (zf10 _ (by omega)).trans zh9_0
      have zfr10 : ∀ j, j ≠ i → j ≠ (i + 1) → zE10 j = E j := fun j zm0 zm1 => (zf10 j zm0).trans (zfr9 j zm0 zm1)
      refine lv_aload_n hx hb dX5_openPage_57 rfl (lv_at hl 1 rfl) ?_
      refine lv_iload hx hb dX5_openPage_58 (lv_at hl 0 rfl) ?_
      refine lv_iconst (v := nI 5) hx hb dX5_openPage_60 rfl ?_
      refine lv_aload_n hx hb dX5_openPage_61 rfl (lv_at hl 1 rfl) ?_
      refine r_get C zw10 RX5 TX5 8 2 hinX5 (i := i) (by omega) zh10_0 rfl 7 (by decide) (by decide +kernel) rfl (v := .int (nI (hd + 1))) rfl dX5_openPage_62 ?_
      refine r_vV C zw10 hl.1 (i := i) (by omega) zh10_0 (T := TX5) (n := 8) rfl [.int (nI pg), .int (nI 5), .int (nI (hd + 1))] 3 rfl (c_X5_set (l := l) (G := G) (tC := tC) (ad := ad) (N := N) (E := zE10) (i := i) (pg := pg + 1) (cm := cm) (hd := hd + 1) (lst := lst) (md := md) (sd := sd) (cs := fillF (upd (upd (upd (upd (upd cs (pg * 50 + 0) (nI b)) (pg * 50 + 1) n) (pg * 50 + 2) p9) (pg * 50 + 3) (nI 0)) (pg * 50 + 4) (nI 1)) (pg * 50 + 6) ((pg + 1) * 50) (-1)) (k := pg) (cl := 5) (v := nI (hd + 1)) (by omega) zh10_0 zk10_1 (by first | assumption | omega)) gX5_openPage_X5_set rfl ⟨rfl, rfl⟩ (by decide +kernel) ⟨Nat.le_of_ble_eq_true rfl, Nat.le_of_ble_eq_true rfl⟩ (rest := []) rfl (Nat.le_of_ble_eq_true rfl) dX5_openPage_65 ⟨Nat.zero_le _, Nat.zero_le _⟩ (fun zE11 zH11 zL11 zp11 zw11 => ?_)
      obtain ⟨zg11_0, zf11⟩ := zp11
      have zh11_0 : zE11 (i + 1) = eI G 500 (upd (fillF (upd (upd (upd (upd (upd cs (pg * 50 + 0) (nI b)) (pg * 50 + 1) n) (pg * 50 + 2) p9) (pg * 50 + 3) (nI 0)) (pg * 50 + 4) (nI 1)) (pg * 50 + 6) ((pg + 1) * 50) (-1)) (pg * 50 + 5) (nI (hd + 1))) := zg11_0
      have zk11_0 : zE11 (i + 2) = eI G 4 op := (zf11 _ (by omega)).trans zk10_0
      have zk11_1 : zE11 i = .inr (2, [.ref (ad (i + 1)), .ref (ad (i + 2)), .int (nI (pg + 1)), .int (nI cm), .int lst, .int md, .int sd, .int (nI (hd + 1))]) := (zf11 _ (by omega)).trans zh10_0
      have zfr11 : ∀ j, j ≠ i → j ≠ (i + 1) → zE11 j = E j := fun j zm0 zm1 => (zf11 j zm1).trans (zfr10 j zm0 zm1)
      refine lv_aload_n hx hb dX5_openPage_68 rfl (lv_at hl 1 rfl) ?_
      refine lv_iload hx hb dX5_openPage_69 (lv_at hl 0 rfl) ?_
      refine lv_iconst (v := nI 3) hx hb dX5_openPage_71 rfl ?_
      refine lv_aload_n hx hb dX5_openPage_72 rfl (lv_at hl 1 rfl) ?_
      refine lv_iload hx hb dX5_openPage_73 (lv_at hl 0 rfl) ?_
      refine lv_iconst (v := nI 3) hx hb dX5_openPage_75 rfl ?_
      refine r_vI C zw11 hl.1 (i := i) (by omega) zk11_1 (T := TX5) (n := 8) rfl [.int (nI pg), .int (nI 3)] 2 rfl (c_X5_get (l := l) (G := G) (tC := tC) (ad := ad) (N := N) (E := zE11) (i := i) (pg := pg + 1) (cm := cm) (hd := hd + 1) (lst := lst) (md := md) (sd := sd) (cs := upd (fillF (upd (upd (upd (upd (upd cs (pg * 50 + 0) (nI b)) (pg * 50 + 1) n) (pg * 50 + 2) p9) (pg * 50 + 3) (nI 0)) (pg * 50 + 4) (nI 1)) (pg * 50 + 6) ((pg + 1) * 50) (-1)) (pg * 50 + 5) (nI (hd + 1))) (k := pg) (cl := 3) (by omega) zk11_1 zh11_0 (by first | assumption | omega)) gX5_openPage_X5_get rfl ⟨rfl, rfl⟩ (by decide +kernel) ⟨Nat.le_of_ble_eq_true rfl, Nat.le_of_ble_eq_true rfl⟩ (rest := [.int (nI 3), .int (nI pg), .ref (ad i)]) rfl (Nat.le_of_ble_eq_true rfl) dX5_openPage_76 ⟨Nat.zero_le _, Nat.zero_le _⟩ (fun zr12 zE12 zH12 zL12 zp12 zw12 => ?_)
      obtain ⟨ze12, zq12⟩ := zp12
      rw [ze12] at zw12
      clear ze12
      rw [zq12]
      refine lv_iconst (v := nI 1) hx hb dX5_openPage_79 rfl ?_
      refine lv_iadd hx hb dX5_openPage_80 ?_
      refine lv_sipush (v := nI 9999) hx hb dX5_openPage_81 rfl ?_
      refine va_mmin hx hb (by rw [C.2.2.2.1]; exact hl.1.symm) hown (hts (.methodLink RX5 111 Lib.Math.min.name) (by decide +kernel)) (hts (.static Lib.Math.min.name) (by decide +kernel)) (hts (.initialized "java/lang/Math") (by decide +kernel)) (hts (.code Lib.Math.min.name Lib.Math.min.code 2 (some .int)) (by decide +kernel)) (Nat.le_of_ble_eq_true rfl) (Nat.le_of_ble_eq_true rfl) (Nat.zero_le _) (Nat.zero_le _) dX5_openPage_84 ?_
      refine r_vV C zw12 hl.1 (i := i) (by omega) zk11_1 (T := TX5) (n := 8) rfl [.int (nI pg), .int (nI 3), .int (if nI 9999 < ((upd (fillF (upd (upd (upd (upd (upd cs (pg * 50 + 0) (nI b)) (pg * 50 + 1) n) (pg * 50 + 2) p9) (pg * 50 + 3) (nI 0)) (pg * 50 + 4) (nI 1)) (pg * 50 + 6) ((pg + 1) * 50) (-1)) (pg * 50 + 5) (nI (hd + 1))) (pg * 50 + 3)) + (nI 1) then nI 9999 else ((upd (fillF (upd (upd (upd (upd (upd cs (pg * 50 + 0) (nI b)) (pg * 50 + 1) n) (pg * 50 + 2) p9) (pg * 50 + 3) (nI 0)) (pg * 50 + 4) (nI 1)) (pg * 50 + 6) ((pg + 1) * 50) (-1)) (pg * 50 + 5) (nI (hd + 1))) (pg * 50 + 3)) + (nI 1))] 3 rfl (c_X5_set (l := l) (G := G) (tC := tC) (ad := ad) (N := N) (E := zE11) (i := i) (pg := pg + 1) (cm := cm) (hd := hd + 1) (lst := lst) (md := md) (sd := sd) (cs := upd (fillF (upd (upd (upd (upd (upd cs (pg * 50 + 0) (nI b)) (pg * 50 + 1) n) (pg * 50 + 2) p9) (pg * 50 + 3) (nI 0)) (pg * 50 + 4) (nI 1)) (pg * 50 + 6) ((pg + 1) * 50) (-1)) (pg * 50 + 5) (nI (hd + 1))) (k := pg) (cl := 3) (v := if nI 9999 < ((upd (fillF (upd (upd (upd (upd (upd cs (pg * 50 + 0) (nI b)) (pg * 50 + 1) n) (pg * 50 + 2) p9) (pg * 50 + 3) (nI 0)) (pg * 50 + 4) (nI 1)) (pg * 50 + 6) ((pg + 1) * 50) (-1)) (pg * 50 + 5) (nI (hd + 1))) (pg * 50 + 3)) + (nI 1) then nI 9999 else ((upd (fillF (upd (upd (upd (upd (upd cs (pg * 50 + 0) (nI b)) (pg * 50 + 1) n) (pg * 50 + 2) p9) (pg * 50 + 3) (nI 0)) (pg * 50 + 4) (nI 1)) (pg * 50 + 6) ((pg + 1) * 50) (-1)) (pg * 50 + 5) (nI (hd + 1))) (pg * 50 + 3)) + (nI 1)) (by omega) zk11_1 zh11_0 (by first | assumption | omega)) gX5_openPage_X5_set rfl ⟨rfl, rfl⟩ (by decide +kernel) ⟨Nat.le_of_ble_eq_true rfl, Nat.le_of_ble_eq_true rfl⟩ (rest := []) rfl (Nat.le_of_ble_eq_true rfl) dX5_openPage_87 ⟨Nat.zero_le _, Nat.zero_le _⟩ (fun zE13 zH13 zL13 zp13 zw13 => ?_)
      obtain ⟨zg13_0, zf13⟩ := zp13
      have zh13_0 : zE13 (i + 1) = eI G 500 (upd (upd (fillF (upd (upd (upd (upd (upd cs (pg * 50 + 0) (nI b)) (pg * 50 + 1) n) (pg * 50 + 2) p9) (pg * 50 + 3) (nI 0)) (pg * 50 + 4) (nI 1)) (pg * 50 + 6) ((pg + 1) * 50) (-1)) (pg * 50 + 5) (nI (hd + 1))) (pg * 50 + 3) (if nI 9999 < ((upd (fillF (upd (upd (upd (upd (upd cs (pg * 50 + 0) (nI b)) (pg * 50 + 1) n) (pg * 50 + 2) p9) (pg * 50 + 3) (nI 0)) (pg * 50 + 4) (nI 1)) (pg * 50 + 6) ((pg + 1) * 50) (-1)) (pg * 50 + 5) (nI (hd + 1))) (pg * 50 + 3)) + (nI 1) then nI 9999 else ((upd (fillF (upd (upd (upd (upd (upd cs (pg * 50 + 0) (nI b)) (pg * 50 + 1) n) (pg * 50 + 2) p9) (pg * 50 + 3) (nI 0)) (pg * 50 + 4) (nI 1)) (pg * 50 + 6) ((pg + 1) * 50) (-1)) (pg * 50 + 5) (nI (hd + 1))) (pg * 50 + 3)) + (nI 1))) := zg13_0
      have zk13_0 : zE13 (i + 2) = eI G 4 op := (zf13 _ (by omega)).trans zk11_0
      have zk13_1 : zE13 i = .inr (2, [.ref (ad (i + 1)), .ref (ad (i + 2)), .int (nI (pg + 1)), .int (nI cm), .int lst, .int md, .int sd, .int (nI (hd + 1))]) := (zf13 _ (by omega)).trans zk11_1
      have zfr13 : ∀ j, j ≠ i → j ≠ (i + 1) → zE13 j = E j := fun j zm0 zm1 => (zf13 j zm1).trans (zfr11 j zm0 zm1)
      refine lv_iload_n hx hb dX5_openPage_90 rfl (lv_at hl 2 rfl) ?_
      refine lv_iconst (v := nI 0) hx hb dX5_openPage_91 rfl ?_
      refine lv_iconst (v := nI 3) hx hb dX5_openPage_92 rfl ?_
      refine r_nI C zw13 hl.1 [.int (nI b), .int (nI 0), .int (nI 3)] 3 rfl (c_X7_isWithin (l := l) (G := G) (tC := tC) (ad := ad) (N := N) (E := zE13) (x := nI b) (a := nI 0) (b := nI 3)   ) C.2.2.2.2.2.2.1.2.2.2.2.1 gX5_openPage_X7_isWithin_n72 rfl ⟨rfl, rfl⟩ (by decide +kernel) (by decide +kernel) (by decide +kernel) ⟨Nat.le_of_ble_eq_true rfl, Nat.le_of_ble_eq_true rfl⟩ (rest := []) rfl (Nat.le_of_ble_eq_true rfl) dX5_openPage_93 ⟨Nat.zero_le _, Nat.zero_le _⟩ (fun zr14 zE14 zH14 zL14 zp14 zw14 => ?_)
      obtain ⟨ze14, zq14⟩ := zp14
      rw [ze14] at zw14
      clear ze14
      rw [zq14]
      refine b_if_eq (tgt := 107) hx hb dX5_openPage_96 (by decide) (fun zc96 => ?_) (fun zc96 => ?_)
      · exact absurd (in_nI (by omega) (by omega)) zc96
      · refine lv_aload_n hx hb dX5_openPage_99 rfl (lv_at hl 1 rfl) ?_
        refine r_get C zw14 RX5 TX5 8 2 hinX5 (i := i) (by omega) zk13_1 rfl 1 (by decide) (by decide +kernel) rfl (v := .ref (ad (i + 2))) rfl dX5_openPage_100 ?_
        refine lv_iload_n hx hb dX5_openPage_103 rfl (lv_at hl 2 rfl) ?_
        refine lv_iload hx hb dX5_openPage_104 (lv_at hl 0 rfl) ?_
        refine r_iasN C zw14 (i := (i + 2)) (by omega) zk13_0 (j := b) (by omega) (by omega) dX5_openPage_106 (fun zE15 zH15 zL15 zg15 zf15 zw15 => ?_)
        have zh15_0 : zE15 (i + 2) = eI G 4 (upd op b (nI pg)) := zg15
        have zk15_0 : zE15 i = .inr (2, [.ref (ad (i + 1)), .ref (ad (i + 2)), .int (nI (pg + 1)), .int (nI cm), .int lst, .int md, .int sd, .int (nI (hd + 1))]) := (zf15 _ (by omega)).trans zk13_1
        have zk15_1 : zE15 (i + 1) = eI G 500 (upd (upd (fillF (upd (upd (upd (upd (upd cs (pg * 50 + 0) (nI b)) (pg * 50 + 1) n) (pg * 50 + 2) p9) (pg * 50 + 3) (nI 0)) (pg * 50 + 4) (nI 1)) (pg * 50 + 6) ((pg + 1) * 50) (-1)) (pg * 50 + 5) (nI (hd + 1))) (pg * 50 + 3) (if nI 9999 < ((upd (fillF (upd (upd (upd (upd (upd cs (pg * 50 + 0) (nI b)) (pg * 50 + 1) n) (pg * 50 + 2) p9) (pg * 50 + 3) (nI 0)) (pg * 50 + 4) (nI 1)) (pg * 50 + 6) ((pg + 1) * 50) (-1)) (pg * 50 + 5) (nI (hd + 1))) (pg * 50 + 3)) + (nI 1) then nI 9999 else ((upd (fillF (upd (upd (upd (upd (upd cs (pg * 50 + 0) (nI b)) (pg * 50 + 1) n) (pg * 50 + 2) p9) (pg * 50 + 3) (nI 0)) (pg * 50 + 4) (nI 1)) (pg * 50 + 6) ((pg + 1) * 50) (-1)) (pg * 50 + 5) (nI (hd + 1))) (pg * 50 + 3)) + (nI 1))) := (zf15 _ (by omega)).trans zh13_0
        have zfr15 : ∀ j, j ≠ i → j ≠ (i + 1) → j ≠ (i + 2) → zE15 j = E j := fun j zm0 zm1 zm2 => (zf15 j zm2).trans (zfr13 j zm0 zm1)
        refine lv_iload hx hb dX5_openPage_107 (lv_at hl 0 rfl) ?_
        exact r_iret C zw15 dX5_openPage_109 ⟨upd (upd (fillF (upd (upd (upd (upd (upd cs (pg * 50 + 0) (nI b)) (pg * 50 + 1) n) (pg * 50 + 2) p9) (pg * 50 + 3) (nI 0)) (pg * 50 + 4) (nI 1)) (pg * 50 + 6) ((pg + 1) * 50) (-1)) (pg * 50 + 5) (nI (hd + 1))) (pg * 50 + 3) (if nI 9999 < ((upd (fillF (upd (upd (upd (upd (upd cs (pg * 50 + 0) (nI b)) (pg * 50 + 1) n) (pg * 50 + 2) p9) (pg * 50 + 3) (nI 0)) (pg * 50 + 4) (nI 1)) (pg * 50 + 6) ((pg + 1) * 50) (-1)) (pg * 50 + 5) (nI (hd + 1))) (pg * 50 + 3)) + (nI 1) then nI 9999 else ((upd (fillF (upd (upd (upd (upd (upd cs (pg * 50 + 0) (nI b)) (pg * 50 + 1) n) (pg * 50 + 2) p9) (pg * 50 + 3) (nI 0)) (pg * 50 + 4) (nI 1)) (pg * 50 + 6) ((pg + 1) * 50) (-1)) (pg * 50 + 5) (nI (hd + 1))) (pg * 50 + 3)) + (nI 1)), upd op b (nI pg), pg + 1, pg, zk15_0, zk15_1, zh15_0, (fun j zm0 zm1 zm2 => zfr15 j zm0 zm1 zm2), (by refine ⟨?_, rfl⟩; exact Or.inr (Or.inr ⟨zi1, zc21, rfl, rfl, rfl, rfl⟩))⟩
    · refine lv_aload_n hx hb dX5_openPage_24 rfl (lv_at hl 1 rfl) ?_
      refine lv_aload_n hx hb dX5_openPage_25 rfl (lv_at hl 1 rfl) ?_
      refine r_vI C zw1 hl.1 (i := i) (by omega) hE0 (T := TX5) (n := 8) rfl [] 0 rfl (c_X5_longestAgo (l := l) (G := G) (tC := tC) (ad := ad) (N := N) (E := E) (i := i) (pg := pg) (cm := cm) (hd := hd) (lst := lst) (md := md) (sd := sd) (cs := cs) (by omega) hE0 hE1 (by first | assumption | omega) (by first | assumption | omega)) gX5_openPage_X5_longestAgo rfl ⟨rfl, rfl⟩ (by decide +kernel) ⟨Nat.le_of_ble_eq_true rfl, Nat.le_of_ble_eq_true rfl⟩ (rest := [.ref (ad i)]) rfl (Nat.le_of_ble_eq_true rfl) dX5_openPage_26 ⟨Nat.zero_le _, Nat.zero_le _⟩ (fun zr16 zE16 zH16 zL16 zp16 zw16 => ?_)
      obtain ⟨ze16, zq16⟩ := zp16
      rw [ze16] at zw16
      clear ze16
      rw [zq16]
      refine r_vV C zw16 hl.1 (i := i) (by omega) hE0 (T := TX5) (n := 8) rfl [.int (nI (oldS (latA cs) (pg - 1)))] 1 rfl (c_X5_remove (l := l) (G := G) (tC := tC) (ad := ad) (N := N) (E := E) (i := i) (pg := pg) (cm := cm) (hd := hd) (lst := lst) (md := md) (sd := sd) (cs := cs) (op := op) (k := oldS (latA cs) (pg - 1)) (by omega) hE0 hE1 hE2 (by have := oldS_le (latA cs) (pg - 1); omega) (by first | assumption | omega)) gX5_openPage_X5_remove rfl ⟨rfl, rfl⟩ (by decide +kernel) ⟨Nat.le_of_ble_eq_true rfl, Nat.le_of_ble_eq_true rfl⟩ (rest := []) rfl (Nat.le_of_ble_eq_true rfl) dX5_openPage_29 ⟨Nat.zero_le _, Nat.zero_le _⟩ (fun zE17 zH17 zL17 zp17 zw17 => ?_)
      obtain ⟨zg17_0, zg17_1, zg17_2, zf17⟩ := zp17
      have zh17_0 : zE17 i = .inr (2, [.ref (ad (i + 1)), .ref (ad (i + 2)), .int (nI (pg - 1)), .int (nI cm), .int lst, .int md, .int sd, .int (nI hd)]) := zg17_0
      have zh17_1 : zE17 (i + 1) = eI G 500 (rmF cs pg (oldS (latA cs) (pg - 1))) := zg17_1
      have zh17_2 : zE17 (i + 2) = eI G 4 (shQ op (oldS (latA cs) (pg - 1)) 4) := zg17_2
      have zfr17 : ∀ j, j ≠ i → j ≠ (i + 1) → j ≠ (i + 2) → zE17 j = E j := fun j zm0 zm1 zm2 => zf17 j zm0 zm1 zm2
      refine lv_aload_n hx hb dX5_openPage_32 rfl (lv_at hl 1 rfl) ?_
      refine lv_iload_n hx hb dX5_openPage_33 rfl (lv_at hl 2 rfl) ?_
      refine lv_iload_n hx hb dX5_openPage_34 rfl (lv_at hl 3 rfl) ?_
      refine lv_iload_n hx hb dX5_openPage_35 rfl (lv_at hl 4 rfl) ?_
      refine r_vI C zw17 hl.1 (i := i) (by omega) zh17_0 (T := TX5) (n := 8) rfl [.int (nI b), .int n, .int p9] 3 rfl (c_X5_append (l := l) (G := G) (tC := tC) (ad := ad) (N := N) (E := zE17) (i := i) (pg := pg - 1) (cm := cm) (hd := hd) (lst := lst) (md := md) (sd := sd) (cs := rmF cs pg (oldS (latA cs) (pg - 1))) (b := nI b) (n := n) (p9 := p9) (by omega) zh17_0 zh17_1 (by first | assumption | omega)) gX5_openPage_X5_append rfl ⟨rfl, rfl⟩ (by decide +kernel) ⟨Nat.le_of_ble_eq_true rfl, Nat.le_of_ble_eq_true rfl⟩ (rest := []) rfl (Nat.le_of_ble_eq_true rfl) dX5_openPage_36 ⟨Nat.zero_le _, Nat.zero_le _⟩ (fun zr18 zE18 zH18 zL18 zp18 zw18 => ?_)
      obtain ⟨zg18_0, zg18_1, zf18, zq18⟩ := zp18
      have zh18_0 : zE18 i = .inr (2, [.ref (ad (i + 1)), .ref (ad (i + 2)), .int (nI ((pg - 1) + 1)), .int (nI cm), .int lst, .int md, .int sd, .int (nI hd)]) := zg18_0
      have zh18_1 : zE18 (i + 1) = eI G 500 (upd (upd (upd (upd (upd (rmF cs pg (oldS (latA cs) (pg - 1))) ((pg - 1) * 50 + 0) (nI b)) ((pg - 1) * 50 + 1) n) ((pg - 1) * 50 + 2) p9) ((pg - 1) * 50 + 3) (nI 0)) ((pg - 1) * 50 + 4) (nI 1)) := zg18_1
      have zk18_0 : zE18 (i + 2) = eI G 4 (shQ op (oldS (latA cs) (pg - 1)) 4) := (zf18 _ (by omega) (by omega)).trans zh17_2
      have zfr18 : ∀ j, j ≠ i → j ≠ (i + 1) → j ≠ (i + 2) → zE18 j = E j := fun j zm0 zm1 zm2 => (zf18 j zm0 zm1).trans (zfr17 j zm0 zm1 zm2)
      rw [zq18]
      refine lv_istore (lv' := [(4, .int (nI (pg - 1))), (0, .ref (ad i)), (1, .int (nI b)), (2, .int n), (3, .int p9)]) hx hb dX5_openPage_39 hl (by decide) rfl (fun ls hl => ?_)
      refine lv_aload_n hx hb dX5_openPage_41 rfl (lv_at hl 1 rfl) ?_
      refine lv_iload hx hb dX5_openPage_42 (lv_at hl 0 rfl) ?_
      refine r_vV C zw18 hl.1 (i := i) (by omega) zh18_0 (T := TX5) (n := 8) rfl [.int (nI (pg - 1))] 1 rfl (c_X5_clear (l := l) (G := G) (tC := tC) (ad := ad) (N := N) (E := zE18) (i := i) (pg := (pg - 1) + 1) (cm := cm) (hd := hd) (lst := lst) (md := md) (sd := sd) (cs := upd (upd (upd (upd (upd (rmF cs pg (oldS (latA cs) (pg - 1))) ((pg - 1) * 50 + 0) (nI b)) ((pg - 1) * 50 + 1) n) ((pg - 1) * 50 + 2) p9) ((pg - 1) * 50 + 3) (nI 0)) ((pg - 1) * 50 + 4) (nI 1)) (k := pg - 1) (by omega) zh18_0 zh18_1 (by omega)) gX5_openPage_X5_clear rfl ⟨rfl, rfl⟩ (by decide +kernel) ⟨Nat.le_of_ble_eq_true rfl, Nat.le_of_ble_eq_true rfl⟩ (rest := []) rfl (Nat.le_of_ble_eq_true rfl) dX5_openPage_44 ⟨Nat.zero_le _, Nat.zero_le _⟩ (fun zE19 zH19 zL19 zp19 zw19 => ?_)
      obtain ⟨zg19_0, zf19⟩ := zp19
      have zh19_0 : zE19 (i + 1) = eI G 500 (fillF (upd (upd (upd (upd (upd (rmF cs pg (oldS (latA cs) (pg - 1))) ((pg - 1) * 50 + 0) (nI b)) ((pg - 1) * 50 + 1) n) ((pg - 1) * 50 + 2) p9) ((pg - 1) * 50 + 3) (nI 0)) ((pg - 1) * 50 + 4) (nI 1)) ((pg - 1) * 50 + 6) (((pg - 1) + 1) * 50) (-1)) := zg19_0
      have zk19_0 : zE19 (i + 2) = eI G 4 (shQ op (oldS (latA cs) (pg - 1)) 4) := (zf19 _ (by omega)).trans zk18_0
      have zk19_1 : zE19 i = .inr (2, [.ref (ad (i + 1)), .ref (ad (i + 2)), .int (nI ((pg - 1) + 1)), .int (nI cm), .int lst, .int md, .int sd, .int (nI hd)]) := (zf19 _ (by omega)).trans zh18_0
      have zfr19 : ∀ j, j ≠ i → j ≠ (i + 1) → j ≠ (i + 2) → zE19 j = E j := fun j zm0 zm1 zm2 => (zf19 j zm1).trans (zfr18 j zm0 zm1 zm2)
      refine lv_aload_n hx hb dX5_openPage_47 rfl (lv_at hl 1 rfl) ?_
      refine lv_dup hx hb dX5_openPage_48 rfl ?_
      refine r_get C zw19 RX5 TX5 8 2 hinX5 (i := i) (by omega) zk19_1 rfl 7 (by decide) (by decide +kernel) rfl (v := .int (nI hd)) rfl dX5_openPage_49 ?_
      refine lv_iconst (v := nI 1) hx hb dX5_openPage_52 rfl ?_
      refine lv_iadd hx hb dX5_openPage_53 ?_
      refine r_nat (hd + 1) (nI_add _ _) ?_
      refine r_put C zw19 RX5 TX5 8 2 hinX5 tyX5 tyX5_ok nmX5 (i := i) (by omega) zk19_1 rfl 7 (by decide) (by decide +kernel) rfl rfl (v := .int (nI (hd + 1))) rfl rfl (Nat.le_of_ble_eq_true rfl) dX5_openPage_54 (fun zE20 zH20 zL20 zg20 zf20 zw20 => ?_)
      have zh20_0 : zE20 i = .inr (2, [.ref (ad (i + 1)), .ref (ad (i + 2)), .int (nI ((pg - 1) + 1)), .int (nI cm), .int lst, .int md, .int sd, .int (nI (hd + 1))]) := zg20
      have zk20_0 : zE20 (i + 2) = eI G 4 (shQ op (oldS (latA cs) (pg - 1)) 4) := (zf20 _ (by omega)).trans zk19_0
      have zk20_1 : zE20 (i + 1) = eI G 500 (fillF (upd (upd (upd (upd (upd (rmF cs pg (oldS (latA cs) (pg - 1))) ((pg - 1) * 50 + 0) (nI b)) ((pg - 1) * 50 + 1) n) ((pg - 1) * 50 + 2) p9) ((pg - 1) * 50 + 3) (nI 0)) ((pg - 1) * 50 + 4) (nI 1)) ((pg - 1) * 50 + 6) (((pg - 1) + 1) * 50) (-1)) := (zf20 _ (by omega)).trans zh19_0
      have zfr20 : ∀ j, j ≠ i → j ≠ (i + 1) → j ≠ (i + 2) → zE20 j = E j := fun j zm0 zm1 zm2 => (zf20 j zm0).trans (zfr19 j zm0 zm1 zm2)
      refine lv_aload_n hx hb dX5_openPage_57 rfl (lv_at hl 1 rfl) ?_
      refine lv_iload hx hb dX5_openPage_58 (lv_at hl 0 rfl) ?_
      refine lv_iconst (v := nI 5) hx hb dX5_openPage_60 rfl ?_
      refine lv_aload_n hx hb dX5_openPage_61 rfl (lv_at hl 1 rfl) ?_
      refine r_get C zw20 RX5 TX5 8 2 hinX5 (i := i) (by omega) zh20_0 rfl 7 (by decide) (by decide +kernel) rfl (v := .int (nI (hd + 1))) rfl dX5_openPage_62 ?_
      refine r_vV C zw20 hl.1 (i := i) (by omega) zh20_0 (T := TX5) (n := 8) rfl [.int (nI (pg - 1)), .int (nI 5), .int (nI (hd + 1))] 3 rfl (c_X5_set (l := l) (G := G) (tC := tC) (ad := ad) (N := N) (E := zE20) (i := i) (pg := (pg - 1) + 1) (cm := cm) (hd := hd + 1) (lst := lst) (md := md) (sd := sd) (cs := fillF (upd (upd (upd (upd (upd (rmF cs pg (oldS (latA cs) (pg - 1))) ((pg - 1) * 50 + 0) (nI b)) ((pg - 1) * 50 + 1) n) ((pg - 1) * 50 + 2) p9) ((pg - 1) * 50 + 3) (nI 0)) ((pg - 1) * 50 + 4) (nI 1)) ((pg - 1) * 50 + 6) (((pg - 1) + 1) * 50) (-1)) (k := pg - 1) (cl := 5) (v := nI (hd + 1)) (by omega) zh20_0 zk20_1 (by first | assumption | omega)) gX5_openPage_X5_set rfl ⟨rfl, rfl⟩ (by decide +kernel) ⟨Nat.le_of_ble_eq_true rfl, Nat.le_of_ble_eq_true rfl⟩ (rest := []) rfl (Nat.le_of_ble_eq_true rfl) dX5_openPage_65 ⟨Nat.zero_le _, Nat.zero_le _⟩ (fun zE21 zH21 zL21 zp21 zw21 => ?_)
      obtain ⟨zg21_0, zf21⟩ := zp21
      have zh21_0 : zE21 (i + 1) = eI G 500 (upd (fillF (upd (upd (upd (upd (upd (rmF cs pg (oldS (latA cs) (pg - 1))) ((pg - 1) * 50 + 0) (nI b)) ((pg - 1) * 50 + 1) n) ((pg - 1) * 50 + 2) p9) ((pg - 1) * 50 + 3) (nI 0)) ((pg - 1) * 50 + 4) (nI 1)) ((pg - 1) * 50 + 6) (((pg - 1) + 1) * 50) (-1)) ((pg - 1) * 50 + 5) (nI (hd + 1))) := zg21_0
      have zk21_0 : zE21 (i + 2) = eI G 4 (shQ op (oldS (latA cs) (pg - 1)) 4) := (zf21 _ (by omega)).trans zk20_0
      have zk21_1 : zE21 i = .inr (2, [.ref (ad (i + 1)), .ref (ad (i + 2)), .int (nI ((pg - 1) + 1)), .int (nI cm), .int lst, .int md, .int sd, .int (nI (hd + 1))]) := (zf21 _ (by omega)).trans zh20_0
      have zfr21 : ∀ j, j ≠ i → j ≠ (i + 1) → j ≠ (i + 2) → zE21 j = E j := fun j zm0 zm1 zm2 => (zf21 j zm1).trans (zfr20 j zm0 zm1 zm2)
      refine lv_aload_n hx hb dX5_openPage_68 rfl (lv_at hl 1 rfl) ?_
      refine lv_iload hx hb dX5_openPage_69 (lv_at hl 0 rfl) ?_
      refine lv_iconst (v := nI 3) hx hb dX5_openPage_71 rfl ?_
      refine lv_aload_n hx hb dX5_openPage_72 rfl (lv_at hl 1 rfl) ?_
      refine lv_iload hx hb dX5_openPage_73 (lv_at hl 0 rfl) ?_
      refine lv_iconst (v := nI 3) hx hb dX5_openPage_75 rfl ?_
      refine r_vI C zw21 hl.1 (i := i) (by omega) zk21_1 (T := TX5) (n := 8) rfl [.int (nI (pg - 1)), .int (nI 3)] 2 rfl (c_X5_get (l := l) (G := G) (tC := tC) (ad := ad) (N := N) (E := zE21) (i := i) (pg := (pg - 1) + 1) (cm := cm) (hd := hd + 1) (lst := lst) (md := md) (sd := sd) (cs := upd (fillF (upd (upd (upd (upd (upd (rmF cs pg (oldS (latA cs) (pg - 1))) ((pg - 1) * 50 + 0) (nI b)) ((pg - 1) * 50 + 1) n) ((pg - 1) * 50 + 2) p9) ((pg - 1) * 50 + 3) (nI 0)) ((pg - 1) * 50 + 4) (nI 1)) ((pg - 1) * 50 + 6) (((pg - 1) + 1) * 50) (-1)) ((pg - 1) * 50 + 5) (nI (hd + 1))) (k := pg - 1) (cl := 3) (by omega) zk21_1 zh21_0 (by first | assumption | omega)) gX5_openPage_X5_get rfl ⟨rfl, rfl⟩ (by decide +kernel) ⟨Nat.le_of_ble_eq_true rfl, Nat.le_of_ble_eq_true rfl⟩ (rest := [.int (nI 3), .int (nI (pg - 1)), .ref (ad i)]) rfl (Nat.le_of_ble_eq_true rfl) dX5_openPage_76 ⟨Nat.zero_le _, Nat.zero_le _⟩ (fun zr22 zE22 zH22 zL22 zp22 zw22 => ?_)
      obtain ⟨ze22, zq22⟩ := zp22
      rw [ze22] at zw22
      clear ze22
      rw [zq22]
      refine lv_iconst (v := nI 1) hx hb dX5_openPage_79 rfl ?_
      refine lv_iadd hx hb dX5_openPage_80 ?_
      refine lv_sipush (v := nI 9999) hx hb dX5_openPage_81 rfl ?_
      refine va_mmin hx hb (by rw [C.2.2.2.1]; exact hl.1.symm) hown (hts (.methodLink RX5 111 Lib.Math.min.name) (by decide +kernel)) (hts (.static Lib.Math.min.name) (by decide +kernel)) (hts (.initialized "java/lang/Math") (by decide +kernel)) (hts (.code Lib.Math.min.name Lib.Math.min.code 2 (some .int)) (by decide +kernel)) (Nat.le_of_ble_eq_true rfl) (Nat.le_of_ble_eq_true rfl) (Nat.zero_le _) (Nat.zero_le _) dX5_openPage_84 ?_
      refine r_vV C zw22 hl.1 (i := i) (by omega) zk21_1 (T := TX5) (n := 8) rfl [.int (nI (pg - 1)), .int (nI 3), .int (if nI 9999 < ((upd (fillF (upd (upd (upd (upd (upd (rmF cs pg (oldS (latA cs) (pg - 1))) ((pg - 1) * 50 + 0) (nI b)) ((pg - 1) * 50 + 1) n) ((pg - 1) * 50 + 2) p9) ((pg - 1) * 50 + 3) (nI 0)) ((pg - 1) * 50 + 4) (nI 1)) ((pg - 1) * 50 + 6) (((pg - 1) + 1) * 50) (-1)) ((pg - 1) * 50 + 5) (nI (hd + 1))) ((pg - 1) * 50 + 3)) + (nI 1) then nI 9999 else ((upd (fillF (upd (upd (upd (upd (upd (rmF cs pg (oldS (latA cs) (pg - 1))) ((pg - 1) * 50 + 0) (nI b)) ((pg - 1) * 50 + 1) n) ((pg - 1) * 50 + 2) p9) ((pg - 1) * 50 + 3) (nI 0)) ((pg - 1) * 50 + 4) (nI 1)) ((pg - 1) * 50 + 6) (((pg - 1) + 1) * 50) (-1)) ((pg - 1) * 50 + 5) (nI (hd + 1))) ((pg - 1) * 50 + 3)) + (nI 1))] 3 rfl (c_X5_set (l := l) (G := G) (tC := tC) (ad := ad) (N := N) (E := zE21) (i := i) (pg := (pg - 1) + 1) (cm := cm) (hd := hd + 1) (lst := lst) (md := md) (sd := sd) (cs := upd (fillF (upd (upd (upd (upd (upd (rmF cs pg (oldS (latA cs) (pg - 1))) ((pg - 1) * 50 + 0) (nI b)) ((pg - 1) * 50 + 1) n) ((pg - 1) * 50 + 2) p9) ((pg - 1) * 50 + 3) (nI 0)) ((pg - 1) * 50 + 4) (nI 1)) ((pg - 1) * 50 + 6) (((pg - 1) + 1) * 50) (-1)) ((pg - 1) * 50 + 5) (nI (hd + 1))) (k := pg - 1) (cl := 3) (v := if nI 9999 < ((upd (fillF (upd (upd (upd (upd (upd (rmF cs pg (oldS (latA cs) (pg - 1))) ((pg - 1) * 50 + 0) (nI b)) ((pg - 1) * 50 + 1) n) ((pg - 1) * 50 + 2) p9) ((pg - 1) * 50 + 3) (nI 0)) ((pg - 1) * 50 + 4) (nI 1)) ((pg - 1) * 50 + 6) (((pg - 1) + 1) * 50) (-1)) ((pg - 1) * 50 + 5) (nI (hd + 1))) ((pg - 1) * 50 + 3)) + (nI 1) then nI 9999 else ((upd (fillF (upd (upd (upd (upd (upd (rmF cs pg (oldS (latA cs) (pg - 1))) ((pg - 1) * 50 + 0) (nI b)) ((pg - 1) * 50 + 1) n) ((pg - 1) * 50 + 2) p9) ((pg - 1) * 50 + 3) (nI 0)) ((pg - 1) * 50 + 4) (nI 1)) ((pg - 1) * 50 + 6) (((pg - 1) + 1) * 50) (-1)) ((pg - 1) * 50 + 5) (nI (hd + 1))) ((pg - 1) * 50 + 3)) + (nI 1)) (by omega) zk21_1 zh21_0 (by first | assumption | omega)) gX5_openPage_X5_set rfl ⟨rfl, rfl⟩ (by decide +kernel) ⟨Nat.le_of_ble_eq_true rfl, Nat.le_of_ble_eq_true rfl⟩ (rest := []) rfl (Nat.le_of_ble_eq_true rfl) dX5_openPage_87 ⟨Nat.zero_le _, Nat.zero_le _⟩ (fun zE23 zH23 zL23 zp23 zw23 => ?_)
      obtain ⟨zg23_0, zf23⟩ := zp23
      have zh23_0 : zE23 (i + 1) = eI G 500 (upd (upd (fillF (upd (upd (upd (upd (upd (rmF cs pg (oldS (latA cs) (pg - 1))) ((pg - 1) * 50 + 0) (nI b)) ((pg - 1) * 50 + 1) n) ((pg - 1) * 50 + 2) p9) ((pg - 1) * 50 + 3) (nI 0)) ((pg - 1) * 50 + 4) (nI 1)) ((pg - 1) * 50 + 6) (((pg - 1) + 1) * 50) (-1)) ((pg - 1) * 50 + 5) (nI (hd + 1))) ((pg - 1) * 50 + 3) (if nI 9999 < ((upd (fillF (upd (upd (upd (upd (upd (rmF cs pg (oldS (latA cs) (pg - 1))) ((pg - 1) * 50 + 0) (nI b)) ((pg - 1) * 50 + 1) n) ((pg - 1) * 50 + 2) p9) ((pg - 1) * 50 + 3) (nI 0)) ((pg - 1) * 50 + 4) (nI 1)) ((pg - 1) * 50 + 6) (((pg - 1) + 1) * 50) (-1)) ((pg - 1) * 50 + 5) (nI (hd + 1))) ((pg - 1) * 50 + 3)) + (nI 1) then nI 9999 else ((upd (fillF (upd (upd (upd (upd (upd (rmF cs pg (oldS (latA cs) (pg - 1))) ((pg - 1) * 50 + 0) (nI b)) ((pg - 1) * 50 + 1) n) ((pg - 1) * 50 + 2) p9) ((pg - 1) * 50 + 3) (nI 0)) ((pg - 1) * 50 + 4) (nI 1)) ((pg - 1) * 50 + 6) (((pg - 1) + 1) * 50) (-1)) ((pg - 1) * 50 + 5) (nI (hd + 1))) ((pg - 1) * 50 + 3)) + (nI 1))) := zg23_0
      have zk23_0 : zE23 (i + 2) = eI G 4 (shQ op (oldS (latA cs) (pg - 1)) 4) := (zf23 _ (by omega)).trans zk21_0
      have zk23_1 : zE23 i = .inr (2, [.ref (ad (i + 1)), .ref (ad (i + 2)), .int (nI ((pg - 1) + 1)), .int (nI cm), .int lst, .int md, .int sd, .int (nI (hd + 1))]) := (zf23 _ (by omega)).trans zk21_1
      have zfr23 : ∀ j, j ≠ i → j ≠ (i + 1) → j ≠ (i + 2) → zE23 j = E j := fun j zm0 zm1 zm2 => (zf23 j zm1).trans (zfr21 j zm0 zm1 zm2)
      refine lv_iload_n hx hb dX5_openPage_90 rfl (lv_at hl 2 rfl) ?_
      refine lv_iconst (v := nI 0) hx hb dX5_openPage_91 rfl ?_
      refine lv_iconst (v := nI 3) hx hb dX5_openPage_92 rfl ?_
      refine r_nI C zw23 hl.1 [.int (nI b), .int (nI 0), .int (nI 3)] 3 rfl (c_X7_isWithin (l := l) (G := G) (tC := tC) (ad := ad) (N := N) (E := zE23) (x := nI b) (a := nI 0) (b := nI 3)   ) C.2.2.2.2.2.2.1.2.2.2.2.1 gX5_openPage_X7_isWithin_n72 rfl ⟨rfl, rfl⟩ (by decide +kernel) (by decide +kernel) (by decide +kernel) ⟨Nat.le_of_ble_eq_true rfl, Nat.le_of_ble_eq_true rfl⟩ (rest := []) rfl (Nat.le_of_ble_eq_true rfl) dX5_openPage_93 ⟨Nat.zero_le _, Nat.zero_le _⟩ (fun zr24 zE24 zH24 zL24 zp24 zw24 => ?_)
      obtain ⟨ze24, zq24⟩ := zp24
      rw [ze24] at zw24
      clear ze24
      rw [zq24]
      refine b_if_eq (tgt := 107) hx hb dX5_openPage_96 (by decide) (fun zc96 => ?_) (fun zc96 => ?_)
      · exact absurd (in_nI (by omega) (by omega)) zc96
      · refine lv_aload_n hx hb dX5_openPage_99 rfl (lv_at hl 1 rfl) ?_
        refine r_get C zw24 RX5 TX5 8 2 hinX5 (i := i) (by omega) zk23_1 rfl 1 (by decide) (by decide +kernel) rfl (v := .ref (ad (i + 2))) rfl dX5_openPage_100 ?_
        refine lv_iload_n hx hb dX5_openPage_103 rfl (lv_at hl 2 rfl) ?_
        refine lv_iload hx hb dX5_openPage_104 (lv_at hl 0 rfl) ?_
        refine r_iasN C zw24 (i := (i + 2)) (by omega) zk23_0 (j := b) (by omega) (by omega) dX5_openPage_106 (fun zE25 zH25 zL25 zg25 zf25 zw25 => ?_)
        have zh25_0 : zE25 (i + 2) = eI G 4 (upd (shQ op (oldS (latA cs) (pg - 1)) 4) b (nI (pg - 1))) := zg25
        have zk25_0 : zE25 i = .inr (2, [.ref (ad (i + 1)), .ref (ad (i + 2)), .int (nI ((pg - 1) + 1)), .int (nI cm), .int lst, .int md, .int sd, .int (nI (hd + 1))]) := (zf25 _ (by omega)).trans zk23_1
        have zk25_1 : zE25 (i + 1) = eI G 500 (upd (upd (fillF (upd (upd (upd (upd (upd (rmF cs pg (oldS (latA cs) (pg - 1))) ((pg - 1) * 50 + 0) (nI b)) ((pg - 1) * 50 + 1) n) ((pg - 1) * 50 + 2) p9) ((pg - 1) * 50 + 3) (nI 0)) ((pg - 1) * 50 + 4) (nI 1)) ((pg - 1) * 50 + 6) (((pg - 1) + 1) * 50) (-1)) ((pg - 1) * 50 + 5) (nI (hd + 1))) ((pg - 1) * 50 + 3) (if nI 9999 < ((upd (fillF (upd (upd (upd (upd (upd (rmF cs pg (oldS (latA cs) (pg - 1))) ((pg - 1) * 50 + 0) (nI b)) ((pg - 1) * 50 + 1) n) ((pg - 1) * 50 + 2) p9) ((pg - 1) * 50 + 3) (nI 0)) ((pg - 1) * 50 + 4) (nI 1)) ((pg - 1) * 50 + 6) (((pg - 1) + 1) * 50) (-1)) ((pg - 1) * 50 + 5) (nI (hd + 1))) ((pg - 1) * 50 + 3)) + (nI 1) then nI 9999 else ((upd (fillF (upd (upd (upd (upd (upd (rmF cs pg (oldS (latA cs) (pg - 1))) ((pg - 1) * 50 + 0) (nI b)) ((pg - 1) * 50 + 1) n) ((pg - 1) * 50 + 2) p9) ((pg - 1) * 50 + 3) (nI 0)) ((pg - 1) * 50 + 4) (nI 1)) ((pg - 1) * 50 + 6) (((pg - 1) + 1) * 50) (-1)) ((pg - 1) * 50 + 5) (nI (hd + 1))) ((pg - 1) * 50 + 3)) + (nI 1))) := (zf25 _ (by omega)).trans zh23_0
        have zfr25 : ∀ j, j ≠ i → j ≠ (i + 1) → j ≠ (i + 2) → zE25 j = E j := fun j zm0 zm1 zm2 => (zf25 j zm2).trans (zfr23 j zm0 zm1 zm2)
        refine lv_iload hx hb dX5_openPage_107 (lv_at hl 0 rfl) ?_
        exact r_iret C zw25 dX5_openPage_109 ⟨upd (upd (fillF (upd (upd (upd (upd (upd (rmF cs pg (oldS (latA cs) (pg - 1))) ((pg - 1) * 50 + 0) (nI b)) ((pg - 1) * 50 + 1) n) ((pg - 1) * 50 + 2) p9) ((pg - 1) * 50 + 3) (nI 0)) ((pg - 1) * 50 + 4) (nI 1)) ((pg - 1) * 50 + 6) (((pg - 1) + 1) * 50) (-1)) ((pg - 1) * 50 + 5) (nI (hd + 1))) ((pg - 1) * 50 + 3) (if nI 9999 < ((upd (fillF (upd (upd (upd (upd (upd (rmF cs pg (oldS (latA cs) (pg - 1))) ((pg - 1) * 50 + 0) (nI b)) ((pg - 1) * 50 + 1) n) ((pg - 1) * 50 + 2) p9) ((pg - 1) * 50 + 3) (nI 0)) ((pg - 1) * 50 + 4) (nI 1)) ((pg - 1) * 50 + 6) (((pg - 1) + 1) * 50) (-1)) ((pg - 1) * 50 + 5) (nI (hd + 1))) ((pg - 1) * 50 + 3)) + (nI 1) then nI 9999 else ((upd (fillF (upd (upd (upd (upd (upd (rmF cs pg (oldS (latA cs) (pg - 1))) ((pg - 1) * 50 + 0) (nI b)) ((pg - 1) * 50 + 1) n) ((pg - 1) * 50 + 2) p9) ((pg - 1) * 50 + 3) (nI 0)) ((pg - 1) * 50 + 4) (nI 1)) ((pg - 1) * 50 + 6) (((pg - 1) + 1) * 50) (-1)) ((pg - 1) * 50 + 5) (nI (hd + 1))) ((pg - 1) * 50 + 3)) + (nI 1)), upd (shQ op (oldS (latA cs) (pg - 1)) 4) b (nI (pg - 1)), (pg - 1) + 1, pg - 1, zk25_0, zk25_1, zh25_0, (fun j zm0 zm1 zm2 => zfr25 j zm0 zm1 zm2), (by refine ⟨?_, rfl⟩; have zp : pg = 10 := (by omega); subst zp; exact Or.inr (Or.inl ⟨zi1, rfl, rfl, rfl, rfl, rfl⟩))⟩

set_option maxHeartbeats 4000000 in
set_option maxRecDepth 100000 in
theorem c_X3_numberAt {l : Launch} {G : vG} {tC : Nat} {ad : Nat → Nat} {N : Nat} {E : Nat → va_E} {w9 : Nat} {pt : Nat → Int32} {pk : Nat → Nat} {a : Nat} (hN0 : w9 + 1 ≤ N) (hE0 : E w9 = eI G 10 pt) (hpk : ∀ j, j < 10 → pt j = nI (pk j) ∧ pk j < 256) (ha : a ≤ 8) : MI l yX3_numberAt wsX3_numberAt ({ frames := 2, cells := 0, slots := 0, locals := 41 } : Room) G tC ad N E [.ref (ad w9), .int (nI a)] (fun r E2 => E2 = E ∧ r = numI (pk a) (pk (a + 1))) := by
  refine MI_of RX3 rfl (by decide) rfl (Nat.le_of_ble_eq_true rfl) ?_
  intro pp_ ee_ ss_ mm_ aa_ bb_ me_ cc_ A ls C hw hl
  have hx := C.1
  have hb := C.2.1
  have hown := C.2.2.2.2.1
  have hts := C.2.2.2.2.2.1
  have hl : lv_has ls 5 [(0, .ref (ad w9)), (1, .int (nI a))] := hl
  refine lv_aload_n hx hb dX3_numberAt_0 rfl (lv_at hl 0 rfl) ?_
  refine lv_iload_n hx hb dX3_numberAt_1 rfl (lv_at hl 1 rfl) ?_
  refine r_iaN C hw (i := w9) (by omega) hE0 (j := a) (by omega) (by omega) dX3_numberAt_2 ?_
  refine r_nat (pk a) (hpk a (by omega)).1 ?_
  refine r_sI C hw hl.1 [.int (nI (pk a))] 1 rfl (c_X1_decode (l := l) (G := G) (tC := tC) (ad := ad) (N := N) (E := E) (o := pk a)   (hpk a (by omega)).2) gX3_numberAt_X1_decode rfl ⟨rfl, rfl⟩ (by decide +kernel) ⟨Nat.le_of_ble_eq_true rfl, Nat.le_of_ble_eq_true rfl⟩ (rest := []) rfl (Nat.le_of_ble_eq_true rfl) dX3_numberAt_3 ⟨Nat.zero_le _, Nat.zero_le _⟩ (fun zr1 zE1 zH1 zL1 zp1 zw1 => ?_)
  obtain ⟨ze1, zq1⟩ := zp1
  rw [ze1] at zw1
  clear ze1
  rw [zq1]
  refine lv_istore_n (lv' := [(2, .int (dec (pk a))), (0, .ref (ad w9)), (1, .int (nI a))]) hx hb dX3_numberAt_6 rfl hl (by decide) rfl (fun ls hl => ?_)
  refine lv_aload_n hx hb dX3_numberAt_7 rfl (lv_at hl 1 rfl) ?_
  refine lv_iload_n hx hb dX3_numberAt_8 rfl (lv_at hl 2 rfl) ?_
  refine lv_iconst (v := nI 1) hx hb dX3_numberAt_9 rfl ?_
  refine lv_iadd hx hb dX3_numberAt_10 ?_
  refine r_nat (a + 1) (nI_add _ _) ?_
  refine r_iaN C zw1 (i := w9) (by omega) hE0 (j := a + 1) (by omega) (by omega) dX3_numberAt_11 ?_
  refine r_nat (pk (a + 1)) (hpk (a + 1) (by omega)).1 ?_
  refine r_sI C zw1 hl.1 [.int (nI (pk (a + 1)))] 1 rfl (c_X1_decode (l := l) (G := G) (tC := tC) (ad := ad) (N := N) (E := E) (o := pk (a + 1))   (hpk (a + 1) (by omega)).2) gX3_numberAt_X1_decode rfl ⟨rfl, rfl⟩ (by decide +kernel) ⟨Nat.le_of_ble_eq_true rfl, Nat.le_of_ble_eq_true rfl⟩ (rest := []) rfl (Nat.le_of_ble_eq_true rfl) dX3_numberAt_12 ⟨Nat.zero_le _, Nat.zero_le _⟩ (fun zr2 zE2 zH2 zL2 zp2 zw2 => ?_)
  obtain ⟨ze2, zq2⟩ := zp2
  rw [ze2] at zw2
  clear ze2
  rw [zq2]
  refine lv_istore_n (lv' := [(3, .int (dec (pk (a + 1)))), (2, .int (dec (pk a))), (0, .ref (ad w9)), (1, .int (nI a))]) hx hb dX3_numberAt_15 rfl hl (by decide) rfl (fun ls hl => ?_)
  refine lv_iload_n hx hb dX3_numberAt_16 rfl (lv_at hl 1 rfl) ?_
  refine lv_iconst (v := nI 0) hx hb dX3_numberAt_17 rfl ?_
  refine lv_bipush (v := nI 9) hx hb dX3_numberAt_18 rfl ?_
  refine r_nI C zw2 hl.1 [.int (dec (pk a)), .int (nI 0), .int (nI 9)] 3 rfl (c_X7_isWithin (l := l) (G := G) (tC := tC) (ad := ad) (N := N) (E := E) (x := dec (pk a)) (a := nI 0) (b := nI 9)   ) C.2.2.2.2.2.2.1.2.2.1 gX3_numberAt_X7_isWithin_n21 rfl ⟨rfl, rfl⟩ (by decide +kernel) (by decide +kernel) (by decide +kernel) ⟨Nat.le_of_ble_eq_true rfl, Nat.le_of_ble_eq_true rfl⟩ (rest := []) rfl (Nat.le_of_ble_eq_true rfl) dX3_numberAt_20 ⟨Nat.zero_le _, Nat.zero_le _⟩ (fun zr3 zE3 zH3 zL3 zp3 zw3 => ?_)
  obtain ⟨ze3, zq3⟩ := zp3
  rw [ze3] at zw3
  clear ze3
  rw [zq3]
  refine b_if_eq (tgt := 40) hx hb dX3_numberAt_23 (by decide) (fun zc23 => ?_) (fun zc23 => ?_)
  · first | rw [dec_in (by omega)] at zc33 | rw [dec_in (by omega)] at zc23 | skip
    refine lv_iconst (v := nI 0) hx hb dX3_numberAt_40 rfl ?_
    refine lv_istore (lv' := [(4, .int (nI 0)), (3, .int (dec (pk (a + 1)))), (2, .int (dec (pk a))), (0, .ref (ad w9)), (1, .int (nI a))]) hx hb dX3_numberAt_41 hl (by decide) rfl (fun ls hl => ?_)
    refine lv_iload hx hb dX3_numberAt_43 (lv_at hl 0 rfl) ?_
    refine n_if_eq (tgt := 57) hx hb dX3_numberAt_45 (by decide) (by omega) (fun zc45 => ?_) (fun zc45 => ?_)
    · refine lv_iconst (v := -1) hx hb dX3_numberAt_57 (by decide) ?_
      exact r_iret C zw3 dX3_numberAt_58 ⟨rfl, (by rw [numI_m1.mpr (by first | exact fun zq => zc33 zq.2 | exact fun zq => zc23 zq.1)])⟩
    · exact absurd zc45 (by decide)
  · rw [dec_in (by omega)] at zc23
    refine lv_iload_n hx hb dX3_numberAt_26 rfl (lv_at hl 0 rfl) ?_
    refine lv_iconst (v := nI 0) hx hb dX3_numberAt_27 rfl ?_
    refine lv_bipush (v := nI 9) hx hb dX3_numberAt_28 rfl ?_
    refine r_nI C zw3 hl.1 [.int (dec (pk (a + 1))), .int (nI 0), .int (nI 9)] 3 rfl (c_X7_isWithin (l := l) (G := G) (tC := tC) (ad := ad) (N := N) (E := E) (x := dec (pk (a + 1))) (a := nI 0) (b := nI 9)   ) C.2.2.2.2.2.2.1.2.2.1 gX3_numberAt_X7_isWithin_n21 rfl ⟨rfl, rfl⟩ (by decide +kernel) (by decide +kernel) (by decide +kernel) ⟨Nat.le_of_ble_eq_true rfl, Nat.le_of_ble_eq_true rfl⟩ (rest := []) rfl (Nat.le_of_ble_eq_true rfl) dX3_numberAt_30 ⟨Nat.zero_le _, Nat.zero_le _⟩ (fun zr4 zE4 zH4 zL4 zp4 zw4 => ?_)
    obtain ⟨ze4, zq4⟩ := zp4
    rw [ze4] at zw4
    clear ze4
    rw [zq4]
    refine b_if_eq (tgt := 40) hx hb dX3_numberAt_33 (by decide) (fun zc33 => ?_) (fun zc33 => ?_)
    · first | rw [dec_in (by omega)] at zc33 | rw [dec_in (by omega)] at zc23 | skip
      refine lv_iconst (v := nI 0) hx hb dX3_numberAt_40 rfl ?_
      refine lv_istore (lv' := [(4, .int (nI 0)), (3, .int (dec (pk (a + 1)))), (2, .int (dec (pk a))), (0, .ref (ad w9)), (1, .int (nI a))]) hx hb dX3_numberAt_41 hl (by decide) rfl (fun ls hl => ?_)
      refine lv_iload hx hb dX3_numberAt_43 (lv_at hl 0 rfl) ?_
      refine n_if_eq (tgt := 57) hx hb dX3_numberAt_45 (by decide) (by omega) (fun zc45 => ?_) (fun zc45 => ?_)
      · refine lv_iconst (v := -1) hx hb dX3_numberAt_57 (by decide) ?_
        exact r_iret C zw4 dX3_numberAt_58 ⟨rfl, (by rw [numI_m1.mpr (by first | exact fun zq => zc33 zq.2 | exact fun zq => zc23 zq.1)])⟩
      · exact absurd zc45 (by decide)
    · rw [dec_in (by omega)] at zc33
      refine lv_iconst (v := nI 1) hx hb dX3_numberAt_36 rfl ?_
      refine lv_goto (tgt := 41) hx hb dX3_numberAt_37 (by decide) ?_
      refine lv_istore (lv' := [(4, .int (nI 1)), (3, .int (dec (pk (a + 1)))), (2, .int (dec (pk a))), (0, .ref (ad w9)), (1, .int (nI a))]) hx hb dX3_numberAt_41 hl (by decide) rfl (fun ls hl => ?_)
      refine lv_iload hx hb dX3_numberAt_43 (lv_at hl 0 rfl) ?_
      refine n_if_eq (tgt := 57) hx hb dX3_numberAt_45 (by decide) (by omega) (fun zc45 => ?_) (fun zc45 => ?_)
      · exact absurd zc45 (by decide)
      · refine lv_bipush (v := nI 10) hx hb dX3_numberAt_48 rfl ?_
        refine lv_iload_n hx hb dX3_numberAt_50 rfl (lv_at hl 1 rfl) ?_
        refine r_nat (decN (pk (a + 1))) (dec_lt (by omega)) ?_
        refine lv_imul hx hb dX3_numberAt_51 ?_
        refine r_nat (10 * (decN (pk (a + 1)))) (pk_mul _ _) ?_
        refine lv_iload_n hx hb dX3_numberAt_52 rfl (lv_at hl 2 rfl) ?_
        refine r_nat (decN (pk a)) (dec_lt (by omega)) ?_
        refine lv_iadd hx hb dX3_numberAt_53 ?_
        refine r_nat (10 * (decN (pk (a + 1))) + decN (pk a)) (nI_add _ _) ?_
        refine lv_goto (tgt := 58) hx hb dX3_numberAt_54 (by decide) ?_
        exact r_iret C zw4 dX3_numberAt_58 ⟨rfl, (by rw [numI_y ⟨zc23, zc33⟩])⟩

set_option maxHeartbeats 4000000 in
set_option maxRecDepth 100000 in
theorem c_X3_takeLinks_y {l : Launch} {G : vG} {tC : Nat} {ad : Nat → Nat} {N : Nat} {E : Nat → va_E} {i pg cm hd : Nat} {lst md sd : Int32} {cs : Nat → Int32} {w9 : Nat} {pt : Nat → Int32} {pk : Nat → Nat} {k : Nat} (hN0 : i + 3 ≤ N) (hN1 : w9 + 1 ≤ N) (hE0 : E i = .inr (2, [.ref (ad (i + 1)), .ref (ad (i + 2)), .int (nI pg), .int (nI cm), .int lst, .int md, .int sd, .int (nI hd)])) (hE1 : E (i + 1) = eI G 500 cs) (hE2 : E w9 = eI G 10 pt) (hw9 : w9 < i ∨ i + 3 ≤ w9) (hpk : ∀ j, j < 10 → pt j = nI (pk j) ∧ pk j < 256) (hk : k < pg) (hp : pg ≤ 10) : MI l yX3_takeLinks wsX3_takeLinks ({ frames := 3, cells := 0, slots := 0, locals := 66 } : Room) G tC ad N E [.ref (ad i), .int (nI k), .ref (ad w9)] (fun r E2 => E2 i = .inr (2, [.ref (ad (i + 1)), .ref (ad (i + 2)), .int (nI pg), .int (nI cm), .int lst, .int (mdF pk 2 8 md), .int sd, .int (nI hd)]) ∧ E2 (i + 1) = eI G 500 (lkF cs pk (k * 50 + 6) 4) ∧ (∀ j, j ≠ i → j ≠ (i + 1) → E2 j = E j) ∧ r = 1) := by
  refine MI_of RX3 rfl (by decide) rfl (Nat.le_of_ble_eq_true rfl) ?_
  intro pp_ ee_ ss_ mm_ aa_ bb_ me_ cc_ A ls C hw hl
  have hx := C.1
  have hb := C.2.1
  have hown := C.2.2.2.2.1
  have hts := C.2.2.2.2.2.1
  have hl : lv_has ls 5 [(0, .ref (ad i)), (1, .int (nI k)), (2, .ref (ad w9))] := hl
  refine lv_aload_n hx hb dX3_takeLinks_0 rfl (lv_at hl 0 rfl) ?_
  refine lv_iload_n hx hb dX3_takeLinks_1 rfl (lv_at hl 1 rfl) ?_
  refine r_vI C hw hl.1 (i := i) (by omega) hE0 (T := TX5) (n := 8) rfl [.int (nI k)] 1 rfl (c_X5_has (l := l) (G := G) (tC := tC) (ad := ad) (N := N) (E := E) (i := i) (pg := pg) (cm := cm) (hd := hd) (lst := lst) (md := md) (sd := sd) (k := nI k) (by omega) hE0 (by first | assumption | omega)) gX3_takeLinks_X5_has rfl ⟨rfl, rfl⟩ (by decide +kernel) ⟨Nat.le_of_ble_eq_true rfl, Nat.le_of_ble_eq_true rfl⟩ (rest := []) rfl (Nat.le_of_ble_eq_true rfl) dX3_takeLinks_2 ⟨Nat.zero_le _, Nat.zero_le _⟩ (fun zr1 zE1 zH1 zL1 zp1 zw1 => ?_)
  obtain ⟨ze1, zq1⟩ := zp1
  rw [ze1] at zw1
  clear ze1
  rw [zq1]
  refine b_if_ne (tgt := 10) hx hb dX3_takeLinks_5 (by decide) (fun zc5 => ?_) (fun zc5 => ?_)
  · refine lv_aload_n hx hb dX3_takeLinks_10 rfl (lv_at hl 0 rfl) ?_
    refine lv_aload_n hx hb dX3_takeLinks_11 rfl (lv_at hl 2 rfl) ?_
    refine lv_iconst (v := nI 2) hx hb dX3_takeLinks_12 rfl ?_
    refine lv_bipush (v := nI 10) hx hb dX3_takeLinks_13 rfl ?_
    refine r_vV C zw1 hl.1 (i := i) (by omega) hE0 (T := TX5) (n := 8) rfl [.ref (ad w9), .int (nI 2), .int (nI 10)] 3 rfl (c_X5_countMended (l := l) (G := G) (tC := tC) (ad := ad) (N := N) (E := E) (i := i) (pg := pg) (cm := cm) (hd := hd) (lst := lst) (md := md) (sd := sd) (w9 := w9) (pt := pt) (pk := pk) (a := 2) (b := 10) (by omega) (by omega) hE0 hE2 (by first | assumption | omega) (by first | assumption | omega) (by first | assumption | omega) (by first | assumption | omega)) gX3_takeLinks_X5_countMended rfl ⟨rfl, rfl⟩ (by decide +kernel) ⟨Nat.le_of_ble_eq_true rfl, Nat.le_of_ble_eq_true rfl⟩ (rest := []) rfl (Nat.le_of_ble_eq_true rfl) dX3_takeLinks_15 ⟨Nat.zero_le _, Nat.zero_le _⟩ (fun zE2 zH2 zL2 zp2 zw2 => ?_)
    obtain ⟨zg2_0, zf2⟩ := zp2
    have zh2_0 : zE2 i = .inr (2, [.ref (ad (i + 1)), .ref (ad (i + 2)), .int (nI pg), .int (nI cm), .int lst, .int (mdF pk 2 (10 - 2) md), .int sd, .int (nI hd)]) := zg2_0
    have zk2_0 : zE2 (i + 1) = eI G 500 cs := (zf2 _ (by omega)).trans hE1
    have zk2_1 : zE2 w9 = eI G 10 pt := (zf2 _ (by omega)).trans hE2
    have zfr2 : ∀ j, j ≠ i → zE2 j = E j := fun j zm0 => zf2 j zm0
    refine lv_iconst (v := nI 0) hx hb dX3_takeLinks_18 rfl ?_
    refine lv_istore_n (lv' := [(3, .int (nI 0)), (0, .ref (ad i)), (1, .int (nI k)), (2, .ref (ad w9))]) hx hb dX3_takeLinks_19 rfl hl (by decide) rfl (fun ls hl => ?_)
    have zlp20 : ∀ (zn : Nat) (j : Nat) (g : Nat → Int32), 4 - j < zn → (j ≤ 4) → (g = lkF cs pk (k * 50 + 6) j) → ∀ (E9 : Nat → va_E) (H9 : Heap) (L9 : List Loc), E9 (i + 1) = eI G 500 g → E9 w9 = eI G 10 pt → E9 i = .inr (2, [.ref (ad (i + 1)), .ref (ad (i + 2)), .int (nI pg), .int (nI cm), .int lst, .int (mdF pk 2 (10 - 2) md), .int sd, .int (nI hd)]) → (∀ j, j ≠ i → j ≠ (i + 1) → E9 j = E j) → Wd G A ss_.heap H9 L9 ad E9 N → ∀ (ls : Array Slot), lv_has ls 5 [(0, .ref (ad i)), (1, .int (nI k)), (2, .ref (ad w9)), (3, .int (nI j))] → W pp_ l ee_ ({ frames := 3, cells := 0, slots := 0, locals := 66 } : Room) ss_ mm_ aa_ bb_ me_ cc_ H9 L9 0 0 (QI bb_ aa_ ss_ G ad N A (fun r E2 => E2 i = .inr (2, [.ref (ad (i + 1)), .ref (ad (i + 2)), .int (nI pg), .int (nI cm), .int lst, .int (mdF pk 2 8 md), .int sd, .int (nI hd)]) ∧ E2 (i + 1) = eI G 500 (lkF cs pk (k * 50 + 6) 4) ∧ (∀ j, j ≠ i → j ≠ (i + 1) → E2 j = E j) ∧ r = 1)) (F0 mm_ 20 ls []) := by
      intro zn
      induction zn with
      | zero => intro j g zhm; exact absurd zhm (Nat.not_lt_zero _)
      | succ zn zih20 =>
        intro j g zhm20 hj hg zE_20 zH_20 zL_20 zl20_0 zl20_1 zl20_2 zlf20  zlw20 ls hl
        refine lv_iload_n hx hb dX3_takeLinks_20 rfl (lv_at hl 3 rfl) ?_
        refine lv_iconst (v := nI 4) hx hb dX3_takeLinks_21 rfl ?_
        refine n_icmp_ge (tgt := 56) hx hb dX3_takeLinks_22 (by decide) (by omega) (by omega) (fun zc22 => ?_) (fun zc22 => ?_)
        · refine lv_iconst (v := nI 1) hx hb dX3_takeLinks_56 rfl ?_
          exact r_zret C zlw20 dX3_takeLinks_57 (Or.inr rfl) ⟨zl20_2, (zl20_0.trans (by rw [hg, show j = 4 by omega])), (fun j zm0 zm1 => zlf20 j zm0 zm1), (by rfl)⟩
        · refine lv_aload_n hx hb dX3_takeLinks_25 rfl (lv_at hl 2 rfl) ?_
          refine lv_iconst (v := nI 2) hx hb dX3_takeLinks_26 rfl ?_
          refine lv_iconst (v := nI 2) hx hb dX3_takeLinks_27 rfl ?_
          refine lv_iload_n hx hb dX3_takeLinks_28 rfl (lv_at hl 3 rfl) ?_
          refine lv_imul hx hb dX3_takeLinks_29 ?_
          refine r_nat (2 * j) (pk_mul _ _) ?_
          refine lv_iadd hx hb dX3_takeLinks_30 ?_
          refine r_nat (2 + 2 * j) (nI_add _ _) ?_
          refine r_sI C zlw20 hl.1 [.ref (ad w9), .int (nI (2 + 2 * j))] 2 rfl (c_X3_numberAt (l := l) (G := G) (tC := tC) (ad := ad) (N := N) (E := zE_20) (w9 := w9) (pt := pt) (pk := pk) (a := 2 + 2 * j) (by omega) zl20_1 (by first | assumption | omega) (by first | assumption | omega)) gX3_takeLinks_X3_numberAt rfl ⟨rfl, rfl⟩ (by decide +kernel) ⟨Nat.le_of_ble_eq_true rfl, Nat.le_of_ble_eq_true rfl⟩ (rest := []) rfl (Nat.le_of_ble_eq_true rfl) dX3_takeLinks_31 ⟨Nat.zero_le _, Nat.zero_le _⟩ (fun zr3 zE3 zH3 zL3 zp3 zw3 => ?_)
          obtain ⟨ze3, zq3⟩ := zp3
          rw [ze3] at zw3
          clear ze3
          rw [zq3]
          refine lv_istore (lv' := [(4, .int (numI (pk (2 + 2 * j)) (pk ((2 + 2 * j) + 1)))), (0, .ref (ad i)), (1, .int (nI k)), (2, .ref (ad w9)), (3, .int (nI j))]) hx hb dX3_takeLinks_34 hl (by decide) rfl (fun ls hl => ?_)
          refine lv_iload hx hb dX3_takeLinks_36 (lv_at hl 0 rfl) ?_
          refine lv_iconst (v := -1) hx hb dX3_takeLinks_38 (by decide) ?_
          refine lv_icmp_eq (tgt := 50) hx hb dX3_takeLinks_39 (by decide) (fun zc39 => ?_) (fun zc39 => ?_)
          · refine lv_iinc (v := nI (j + 1)) (lv' := [(3, .int (nI (j + 1))), (4, .int (numI (pk (2 + 2 * j)) (pk ((2 + 2 * j) + 1)))), (0, .ref (ad i)), (1, .int (nI k)), (2, .ref (ad w9))]) hx hb dX3_takeLinks_50 hl (k := 4) rfl (by rw [show Int32.ofInt 1 = nI 1 from rfl, nI_add]) (by decide) rfl (fun ls hl => ?_)
            refine lv_goto (tgt := 20) hx hb dX3_takeLinks_53 (by decide) ?_
            exact zih20 (j + 1) g (by omega) (by omega) (by rw [hg]; first | (rw [show k * 50 + (6 + j) = k * 50 + 6 + j by omega]; exact lkF_s _ _ _ _ (by rw [show 2 + 2 * j + 1 = 3 + 2 * j by omega] at zc39 ⊢; exact lk1_y zc39)) | exact lkF_k _ _ _ _ (by rw [show 2 + 2 * j + 1 = 3 + 2 * j by omega] at zc39; exact lk1_n zc39)) _ _ _ zl20_0 zl20_1 zl20_2 (fun j zm0 zm1 => zlf20 j zm0 zm1) zw3 _ (lv_sub hl [2, 3, 4, 0] rfl)
          · refine lv_aload_n hx hb dX3_takeLinks_42 rfl (lv_at hl 1 rfl) ?_
            refine lv_iload_n hx hb dX3_takeLinks_43 rfl (lv_at hl 2 rfl) ?_
            refine lv_iload_n hx hb dX3_takeLinks_44 rfl (lv_at hl 4 rfl) ?_
            refine lv_iload hx hb dX3_takeLinks_45 (lv_at hl 0 rfl) ?_
            refine r_vV C zw3 hl.1 (i := i) (by omega) zl20_2 (T := TX5) (n := 8) rfl [.int (nI k), .int (nI j), .int (numI (pk (2 + 2 * j)) (pk ((2 + 2 * j) + 1)))] 3 rfl (c_X5_putLink (l := l) (G := G) (tC := tC) (ad := ad) (N := N) (E := zE_20) (i := i) (pg := pg) (cm := cm) (hd := hd) (lst := lst) (md := mdF pk 2 (10 - 2) md) (sd := sd) (cs := g) (k := k) (j := j) (v := numI (pk (2 + 2 * j)) (pk ((2 + 2 * j) + 1))) (by omega) zl20_2 zl20_0 (by omega)) gX3_takeLinks_X5_putLink rfl ⟨rfl, rfl⟩ (by decide +kernel) ⟨Nat.le_of_ble_eq_true rfl, Nat.le_of_ble_eq_true rfl⟩ (rest := []) rfl (Nat.le_of_ble_eq_true rfl) dX3_takeLinks_47 ⟨Nat.zero_le _, Nat.zero_le _⟩ (fun zE4 zH4 zL4 zp4 zw4 => ?_)
            obtain ⟨zg4_0, zf4⟩ := zp4
            have zh4_0 : zE4 (i + 1) = eI G 500 (upd g (k * 50 + (6 + j)) (numI (pk (2 + 2 * j)) (pk ((2 + 2 * j) + 1)))) := zg4_0
            have zk4_0 : zE4 w9 = eI G 10 pt := (zf4 _ (by omega)).trans zl20_1
            have zk4_1 : zE4 i = .inr (2, [.ref (ad (i + 1)), .ref (ad (i + 2)), .int (nI pg), .int (nI cm), .int lst, .int (mdF pk 2 (10 - 2) md), .int sd, .int (nI hd)]) := (zf4 _ (by omega)).trans zl20_2
            have zfr4 : ∀ j, j ≠ i → j ≠ (i + 1) → zE4 j = E j := fun j zm0 zm1 => (zf4 j zm1).trans (zlf20 j zm0 zm1)
            refine lv_iinc (v := nI (j + 1)) (lv' := [(3, .int (nI (j + 1))), (4, .int (numI (pk (2 + 2 * j)) (pk ((2 + 2 * j) + 1)))), (0, .ref (ad i)), (1, .int (nI k)), (2, .ref (ad w9))]) hx hb dX3_takeLinks_50 hl (k := 4) rfl (by rw [show Int32.ofInt 1 = nI 1 from rfl, nI_add]) (by decide) rfl (fun ls hl => ?_)
            refine lv_goto (tgt := 20) hx hb dX3_takeLinks_53 (by decide) ?_
            exact zih20 (j + 1) (upd g (k * 50 + (6 + j)) (numI (pk (2 + 2 * j)) (pk ((2 + 2 * j) + 1)))) (by omega) (by omega) (by rw [hg]; first | (rw [show k * 50 + (6 + j) = k * 50 + 6 + j by omega]; exact lkF_s _ _ _ _ (by rw [show 2 + 2 * j + 1 = 3 + 2 * j by omega] at zc39 ⊢; exact lk1_y zc39)) | exact lkF_k _ _ _ _ (by rw [show 2 + 2 * j + 1 = 3 + 2 * j by omega] at zc39; exact lk1_n zc39)) _ _ _ zh4_0 zk4_0 zk4_1 (fun j zm0 zm1 => zfr4 j zm0 zm1) zw4 _ (lv_sub hl [2, 3, 4, 0] rfl)
    exact zlp20 _ 0 cs (Nat.lt_succ_self _) (by omega) (by exact (lkF_0 _ _ _).symm) _ _ _ zk2_0 zk2_1 zh2_0 (fun j zm0 zm1 => zfr2 j zm0) zw2 _ (lv_sub hl [1, 2, 3, 0] rfl)
  · exact absurd (has_nI hk (by omega)) zc5

set_option maxHeartbeats 4000000 in
set_option maxRecDepth 100000 in
theorem c_X3_takeLinks_n {l : Launch} {G : vG} {tC : Nat} {ad : Nat → Nat} {N : Nat} {E : Nat → va_E} {i pg cm hd : Nat} {lst md sd : Int32} {w9 : Nat} (hN0 : i + 3 ≤ N) (hE0 : E i = .inr (2, [.ref (ad (i + 1)), .ref (ad (i + 2)), .int (nI pg), .int (nI cm), .int lst, .int md, .int sd, .int (nI hd)])) (hp : pg ≤ 10) : MI l yX3_takeLinks wsX3_takeLinks ({ frames := 3, cells := 0, slots := 0, locals := 66 } : Room) G tC ad N E [.ref (ad i), .int (-1), .ref (ad w9)] (fun r E2 => E2 = E ∧ r = 0) := by
  refine MI_of RX3 rfl (by decide) rfl (Nat.le_of_ble_eq_true rfl) ?_
  intro pp_ ee_ ss_ mm_ aa_ bb_ me_ cc_ A ls C hw hl
  have hx := C.1
  have hb := C.2.1
  have hown := C.2.2.2.2.1
  have hts := C.2.2.2.2.2.1
  have hl : lv_has ls 5 [(0, .ref (ad i)), (1, .int (-1)), (2, .ref (ad w9))] := hl
  refine lv_aload_n hx hb dX3_takeLinks_0 rfl (lv_at hl 0 rfl) ?_
  refine lv_iload_n hx hb dX3_takeLinks_1 rfl (lv_at hl 1 rfl) ?_
  refine r_vI C hw hl.1 (i := i) (by omega) hE0 (T := TX5) (n := 8) rfl [.int (-1)] 1 rfl (c_X5_has (l := l) (G := G) (tC := tC) (ad := ad) (N := N) (E := E) (i := i) (pg := pg) (cm := cm) (hd := hd) (lst := lst) (md := md) (sd := sd) (k := -1) (by omega) hE0 (by first | assumption | omega)) gX3_takeLinks_X5_has rfl ⟨rfl, rfl⟩ (by decide +kernel) ⟨Nat.le_of_ble_eq_true rfl, Nat.le_of_ble_eq_true rfl⟩ (rest := []) rfl (Nat.le_of_ble_eq_true rfl) dX3_takeLinks_2 ⟨Nat.zero_le _, Nat.zero_le _⟩ (fun zr1 zE1 zH1 zL1 zp1 zw1 => ?_)
  obtain ⟨ze1, zq1⟩ := zp1
  rw [ze1] at zw1
  clear ze1
  rw [zq1]
  refine b_if_ne (tgt := 10) hx hb dX3_takeLinks_5 (by decide) (fun zc5 => ?_) (fun zc5 => ?_)
  · exact absurd zc5 (has_m1 pg)
  · refine lv_iconst (v := nI 0) hx hb dX3_takeLinks_8 rfl ?_
    exact r_zret C zw1 dX3_takeLinks_9 (Or.inl rfl) ⟨rfl, (by rfl)⟩

set_option maxHeartbeats 4000000 in
set_option maxRecDepth 100000 in
theorem c_X3_takeRow_y {l : Launch} {G : vG} {tC : Nat} {ad : Nat → Nat} {N : Nat} {E : Nat → va_E} {i pg cm hd : Nat} {lst md sd : Int32} {cs : Nat → Int32} {w9 : Nat} {pt : Nat → Int32} {pk : Nat → Nat} {k row : Nat} (hN0 : i + 3 ≤ N) (hN1 : w9 + 1 ≤ N) (hE0 : E i = .inr (2, [.ref (ad (i + 1)), .ref (ad (i + 2)), .int (nI pg), .int (nI cm), .int lst, .int md, .int sd, .int (nI hd)])) (hE1 : E (i + 1) = eI G 500 cs) (hE2 : E w9 = eI G 10 pt) (hw9 : w9 < i ∨ i + 3 ≤ w9) (hpk : ∀ j, j < 10 → pt j = nI (pk j) ∧ pk j < 256) (hk : k < pg) (hp : pg ≤ 10) (hrow : row < 5) (hm1 : ∀ j, j < 8 → -1 ≤ cs (k * 50 + (10 + row * 8 + j))) : MI l yX3_takeRow wsX3_takeRow ({ frames := 3, cells := 0, slots := 0, locals := 68 } : Room) G tC ad N E [.ref (ad i), .int (nI k), .int (nI row), .ref (ad w9)] (fun r E2 => E2 (i + 1) = eI G 500 (rwF cs pk (k * 50 + 10 + row * 8) 8) ∧ (∀ j, j ≠ (i + 1) → E2 j = E j) ∧ r = 1) := by
  refine MI_of RX3 rfl (by decide) rfl (Nat.le_of_ble_eq_true rfl) ?_
  intro pp_ ee_ ss_ mm_ aa_ bb_ me_ cc_ A ls C hw hl
  have hx := C.1
  have hb := C.2.1
  have hown := C.2.2.2.2.1
  have hts := C.2.2.2.2.2.1
  have hl : lv_has ls 5 [(0, .ref (ad i)), (1, .int (nI k)), (2, .int (nI row)), (3, .ref (ad w9))] := hl
  refine lv_aload_n hx hb dX3_takeRow_0 rfl (lv_at hl 0 rfl) ?_
  refine lv_iload_n hx hb dX3_takeRow_1 rfl (lv_at hl 1 rfl) ?_
  refine r_vI C hw hl.1 (i := i) (by omega) hE0 (T := TX5) (n := 8) rfl [.int (nI k)] 1 rfl (c_X5_has (l := l) (G := G) (tC := tC) (ad := ad) (N := N) (E := E) (i := i) (pg := pg) (cm := cm) (hd := hd) (lst := lst) (md := md) (sd := sd) (k := nI k) (by omega) hE0 (by first | assumption | omega)) gX3_takeRow_X5_has rfl ⟨rfl, rfl⟩ (by decide +kernel) ⟨Nat.le_of_ble_eq_true rfl, Nat.le_of_ble_eq_true rfl⟩ (rest := []) rfl (Nat.le_of_ble_eq_true rfl) dX3_takeRow_2 ⟨Nat.zero_le _, Nat.zero_le _⟩ (fun zr1 zE1 zH1 zL1 zp1 zw1 => ?_)
  obtain ⟨ze1, zq1⟩ := zp1
  rw [ze1] at zw1
  clear ze1
  rw [zq1]
  refine b_if_eq (tgt := 17) hx hb dX3_takeRow_5 (by decide) (fun zc5 => ?_) (fun zc5 => ?_)
  · exact absurd (has_nI hk (by omega)) zc5
  · refine lv_iload_n hx hb dX3_takeRow_8 rfl (lv_at hl 2 rfl) ?_
    refine lv_iconst (v := nI 0) hx hb dX3_takeRow_9 rfl ?_
    refine lv_iconst (v := nI 4) hx hb dX3_takeRow_10 rfl ?_
    refine r_nI C zw1 hl.1 [.int (nI row), .int (nI 0), .int (nI 4)] 3 rfl (c_X7_isWithin (l := l) (G := G) (tC := tC) (ad := ad) (N := N) (E := E) (x := nI row) (a := nI 0) (b := nI 4)   ) C.2.2.2.2.2.2.1.2.2.1 gX3_takeRow_X7_isWithin_n21 rfl ⟨rfl, rfl⟩ (by decide +kernel) (by decide +kernel) (by decide +kernel) ⟨Nat.le_of_ble_eq_true rfl, Nat.le_of_ble_eq_true rfl⟩ (rest := []) rfl (Nat.le_of_ble_eq_true rfl) dX3_takeRow_11 ⟨Nat.zero_le _, Nat.zero_le _⟩ (fun zr2 zE2 zH2 zL2 zp2 zw2 => ?_)
    obtain ⟨ze2, zq2⟩ := zp2
    rw [ze2] at zw2
    clear ze2
    rw [zq2]
    refine b_if_ne (tgt := 19) hx hb dX3_takeRow_14 (by decide) (fun zc14 => ?_) (fun zc14 => ?_)
    · refine lv_iconst (v := nI 0) hx hb dX3_takeRow_19 rfl ?_
      refine lv_istore (lv' := [(4, .int (nI 0)), (0, .ref (ad i)), (1, .int (nI k)), (2, .int (nI row)), (3, .ref (ad w9))]) hx hb dX3_takeRow_20 hl (by decide) rfl (fun ls hl => ?_)
      have zlp22 : ∀ (zn : Nat) (j : Nat) (g : Nat → Int32), 8 - j < zn → (j ≤ 8) → (g = rwF cs pk (k * 50 + 10 + row * 8) j) → ∀ (E9 : Nat → va_E) (H9 : Heap) (L9 : List Loc), E9 i = .inr (2, [.ref (ad (i + 1)), .ref (ad (i + 2)), .int (nI pg), .int (nI cm), .int lst, .int md, .int sd, .int (nI hd)]) → E9 (i + 1) = eI G 500 g → E9 w9 = eI G 10 pt → (∀ j, j ≠ (i + 1) → E9 j = E j) → Wd G A ss_.heap H9 L9 ad E9 N → ∀ (ls : Array Slot), lv_has ls 5 [(0, .ref (ad i)), (1, .int (nI k)), (2, .int (nI row)), (3, .ref (ad w9)), (4, .int (nI j))] → W pp_ l ee_ ({ frames := 3, cells := 0, slots := 0, locals := 68 } : Room) ss_ mm_ aa_ bb_ me_ cc_ H9 L9 0 0 (QI bb_ aa_ ss_ G ad N A (fun r E2 => E2 (i + 1) = eI G 500 (rwF cs pk (k * 50 + 10 + row * 8) 8) ∧ (∀ j, j ≠ (i + 1) → E2 j = E j) ∧ r = 1)) (F0 mm_ 22 ls []) := by
        intro zn
        induction zn with
        | zero => intro j g zhm; exact absurd zhm (Nat.not_lt_zero _)
        | succ zn zih22 =>
          intro j g zhm22 hj hg zE_22 zH_22 zL_22 zl22_0 zl22_1 zl22_2 zlf22  zlw22 ls hl
          refine lv_iload hx hb dX3_takeRow_22 (lv_at hl 4 rfl) ?_
          refine lv_bipush (v := nI 8) hx hb dX3_takeRow_24 rfl ?_
          refine n_icmp_ge (tgt := 49) hx hb dX3_takeRow_26 (by decide) (by omega) (by omega) (fun zc26 => ?_) (fun zc26 => ?_)
          · refine lv_iconst (v := nI 1) hx hb dX3_takeRow_49 rfl ?_
            exact r_zret C zlw22 dX3_takeRow_50 (Or.inr rfl) ⟨(zl22_1.trans (by rw [hg, show j = 8 by omega])), (fun j zm0 => zlf22 j zm0), (by rfl)⟩
          · refine lv_aload_n hx hb dX3_takeRow_29 rfl (lv_at hl 0 rfl) ?_
            refine lv_iload_n hx hb dX3_takeRow_30 rfl (lv_at hl 1 rfl) ?_
            refine lv_iload_n hx hb dX3_takeRow_31 rfl (lv_at hl 2 rfl) ?_
            refine lv_iload hx hb dX3_takeRow_32 (lv_at hl 4 rfl) ?_
            refine lv_aload_n hx hb dX3_takeRow_34 rfl (lv_at hl 3 rfl) ?_
            refine lv_iconst (v := nI 2) hx hb dX3_takeRow_35 rfl ?_
            refine lv_iload hx hb dX3_takeRow_36 (lv_at hl 4 rfl) ?_
            refine lv_iadd hx hb dX3_takeRow_38 ?_
            refine r_nat (2 + j) (nI_add _ _) ?_
            refine r_iaN C zlw22 (i := w9) (by omega) zl22_2 (j := 2 + j) (by omega) (by omega) dX3_takeRow_39 ?_
            refine r_nat (pk (2 + j)) (hpk (2 + j) (by omega)).1 ?_
            refine r_vV C zlw22 hl.1 (i := i) (by omega) zl22_0 (T := TX5) (n := 8) rfl [.int (nI k), .int (nI row), .int (nI j), .int (nI (pk (2 + j)))] 4 rfl (c_X5_putLetter (l := l) (G := G) (tC := tC) (ad := ad) (N := N) (E := zE_22) (i := i) (pg := pg) (cm := cm) (hd := hd) (lst := lst) (md := md) (sd := sd) (cs := g) (k := k) (row := row) (j := j) (o := pk (2 + j)) (by omega) zl22_0 zl22_1 (by first | assumption | omega) (hpk (2 + j) (by omega)).2 (by have zm := hm1 j (by omega); rw [hg, show k * 50 + (10 + row * 8 + j) = k * 50 + 10 + row * 8 + j by omega, rwF_g]; rw [show k * 50 + (10 + row * 8 + j) = k * 50 + 10 + row * 8 + j by omega] at zm; exact zm)) gX3_takeRow_X5_putLetter rfl ⟨rfl, rfl⟩ (by decide +kernel) ⟨Nat.le_of_ble_eq_true rfl, Nat.le_of_ble_eq_true rfl⟩ (rest := []) rfl (Nat.le_of_ble_eq_true rfl) dX3_takeRow_40 ⟨Nat.zero_le _, Nat.zero_le _⟩ (fun zE3 zH3 zL3 zp3 zw3 => ?_)
            obtain ⟨zg3_0, zf3⟩ := zp3
            have zh3_0 : zE3 (i + 1) = eI G 500 (upd g (k * 50 + (10 + row * 8 + j)) (row1 (g (k * 50 + (10 + row * 8 + j))) (pk (2 + j)))) := zg3_0
            have zk3_0 : zE3 i = .inr (2, [.ref (ad (i + 1)), .ref (ad (i + 2)), .int (nI pg), .int (nI cm), .int lst, .int md, .int sd, .int (nI hd)]) := (zf3 _ (by omega)).trans zl22_0
            have zk3_1 : zE3 w9 = eI G 10 pt := (zf3 _ (by omega)).trans zl22_2
            have zfr3 : ∀ j, j ≠ (i + 1) → zE3 j = E j := fun j zm0 => (zf3 j zm0).trans (zlf22 j zm0)
            refine lv_iinc (v := nI (j + 1)) (lv' := [(4, .int (nI (j + 1))), (0, .ref (ad i)), (1, .int (nI k)), (2, .int (nI row)), (3, .ref (ad w9))]) hx hb dX3_takeRow_43 hl (k := 4) rfl (by rw [show Int32.ofInt 1 = nI 1 from rfl, nI_add]) (by decide) rfl (fun ls hl => ?_)
            refine lv_goto (tgt := 22) hx hb dX3_takeRow_46 (by decide) ?_
            exact zih22 (j + 1) (upd g (k * 50 + (10 + row * 8 + j)) (row1 (g (k * 50 + (10 + row * 8 + j))) (pk (2 + j)))) (by omega) (by omega) (by rw [hg, show k * 50 + (10 + row * 8 + j) = k * 50 + 10 + row * 8 + j by omega]; exact rwF_s _ _ _ _ (by rw [rwF_g])) _ _ _ zk3_0 zh3_0 zk3_1 (fun j zm0 => zfr3 j zm0) zw3 _ (lv_sub hl [1, 2, 3, 4, 0] rfl)
      exact zlp22 _ 0 cs (Nat.lt_succ_self _) (by omega) (by exact (rwF_0 _ _ _).symm) _ _ _ hE0 hE1 hE2 (fun j _ => rfl) zw2 _ (lv_sub hl [1, 2, 3, 4, 0] rfl)
    · exact absurd (in_nI (by omega) (by omega)) zc14

set_option maxHeartbeats 4000000 in
set_option maxRecDepth 100000 in
theorem c_X3_takeRow_n {l : Launch} {G : vG} {tC : Nat} {ad : Nat → Nat} {N : Nat} {E : Nat → va_E} {i pg cm hd : Nat} {lst md sd : Int32} {w9 row : Nat} (hN0 : i + 3 ≤ N) (hE0 : E i = .inr (2, [.ref (ad (i + 1)), .ref (ad (i + 2)), .int (nI pg), .int (nI cm), .int lst, .int md, .int sd, .int (nI hd)])) (hp : pg ≤ 10) : MI l yX3_takeRow wsX3_takeRow ({ frames := 3, cells := 0, slots := 0, locals := 68 } : Room) G tC ad N E [.ref (ad i), .int (-1), .int (nI row), .ref (ad w9)] (fun r E2 => E2 = E ∧ r = 0) := by
  refine MI_of RX3 rfl (by decide) rfl (Nat.le_of_ble_eq_true rfl) ?_
  intro pp_ ee_ ss_ mm_ aa_ bb_ me_ cc_ A ls C hw hl
  have hx := C.1
  have hb := C.2.1
  have hown := C.2.2.2.2.1
  have hts := C.2.2.2.2.2.1
  have hl : lv_has ls 5 [(0, .ref (ad i)), (1, .int (-1)), (2, .int (nI row)), (3, .ref (ad w9))] := hl
  refine lv_aload_n hx hb dX3_takeRow_0 rfl (lv_at hl 0 rfl) ?_
  refine lv_iload_n hx hb dX3_takeRow_1 rfl (lv_at hl 1 rfl) ?_
  refine r_vI C hw hl.1 (i := i) (by omega) hE0 (T := TX5) (n := 8) rfl [.int (-1)] 1 rfl (c_X5_has (l := l) (G := G) (tC := tC) (ad := ad) (N := N) (E := E) (i := i) (pg := pg) (cm := cm) (hd := hd) (lst := lst) (md := md) (sd := sd) (k := -1) (by omega) hE0 (by first | assumption | omega)) gX3_takeRow_X5_has rfl ⟨rfl, rfl⟩ (by decide +kernel) ⟨Nat.le_of_ble_eq_true rfl, Nat.le_of_ble_eq_true rfl⟩ (rest := []) rfl (Nat.le_of_ble_eq_true rfl) dX3_takeRow_2 ⟨Nat.zero_le _, Nat.zero_le _⟩ (fun zr1 zE1 zH1 zL1 zp1 zw1 => ?_)
  obtain ⟨ze1, zq1⟩ := zp1
  rw [ze1] at zw1
  clear ze1
  rw [zq1]
  refine b_if_eq (tgt := 17) hx hb dX3_takeRow_5 (by decide) (fun zc5 => ?_) (fun zc5 => ?_)
  · refine lv_iconst (v := nI 0) hx hb dX3_takeRow_17 rfl ?_
    exact r_zret C zw1 dX3_takeRow_18 (Or.inl rfl) ⟨rfl, (by rfl)⟩
  · exact absurd zc5 (has_m1 pg)

