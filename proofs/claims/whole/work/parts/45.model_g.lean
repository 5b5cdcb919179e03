set_option maxHeartbeats 4000000 in
set_option maxRecDepth 100000 in
theorem c_X8_draw {l : Launch} {G : vG} {tC : Nat} {ad : Nat → Nat} {N : Nat} {E : Nat → va_E} {q co pm em sd n : Nat} {th : Int32} (hN0 : q + 13 ≤ N) (hE0 : E q = .inr (5, [.int th, .ref (ad (q + 1)), .long (lN sd), .ref (ad (q + 2)), .ref (ad (q + 3)), .int (nI co), .ref (ad (q + 4)), .int (nI pm), .ref (ad (q + 5)), .ref (ad (q + 6)), .ref (ad (q + 7)), .ref (ad (q + 8)), .int (nI em), .ref (ad (q + 9)), .ref (ad (q + 10)), .ref (ad (q + 11)), .ref (ad (q + 12))])) (hsd : sd < 2147483648) (hn0 : 0 < n) (hn : n < 2147483648) : MI l yX8_draw wsX8_draw ({ frames := 0, cells := 0, slots := 0, locals := 0 } : Room) G tC ad N E [.ref (ad q), .int (nI n)] (fun r E2 => E2 q = .inr (5, [.int th, .ref (ad (q + 1)), .long (lN (lcg sd)), .ref (ad (q + 2)), .ref (ad (q + 3)), .int (nI co), .ref (ad (q + 4)), .int (nI pm), .ref (ad (q + 5)), .ref (ad (q + 6)), .ref (ad (q + 7)), .ref (ad (q + 8)), .int (nI em), .ref (ad (q + 9)), .ref (ad (q + 10)), .ref (ad (q + 11)), .ref (ad (q + 12))]) ∧ (∀ j, j ≠ q → E2 j = E j) ∧ r = nI (lcg sd / 65536 % n)) := by
  refine MI_of RX8 rfl (by decide) rfl (Nat.le_of_ble_eq_true rfl) ?_
  intro pp_ ee_ ss_ mm_ aa_ bb_ me_ cc_ A ls C hw hl
  have hx := C.1
  have hb := C.2.1
  have hown := C.2.2.2.2.1
  have hts := C.2.2.2.2.2.1
  have hl : lv_has ls 2 [(0, .ref (ad q)), (1, .int (nI n))] := hl
  have hinX8 : ∀ w ∈ u_ws RX8 TX8 17, w ∈ wsX8_draw := by decide +kernel
  refine lv_aload_n hx hb dX8_draw_0 rfl (lv_at hl 0 rfl) ?_
  refine lv_aload_n hx hb dX8_draw_1 rfl (lv_at hl 0 rfl) ?_
  refine r_get C hw RX8 TX8 17 5 hinX8 (i := q) (by omega) hE0 rfl 2 (by decide) (by decide +kernel) rfl (v := .long (lN sd)) rfl dX8_draw_2 ?_
  refine lv_ldc2 (v := 1103515245) hx hb hown (hts (.constantLong RX8 185 (1103515245)) (by decide +kernel)) dX8_draw_5 ?_
  refine lv_lmul hx hb dX8_draw_8 ?_
  refine r_asL (lN (sd * 1103515245)) (lN_mul _ _) ?_
  refine lv_ldc2 (v := 12345) hx hb hown (hts (.constantLong RX8 187 (12345)) (by decide +kernel)) dX8_draw_9 ?_
  refine lv_ladd hx hb dX8_draw_12 ?_
  refine r_asL (lN (sd * 1103515245 + 12345)) (lN_add _ _) ?_
  refine lv_ldc2 (v := 2147483648) hx hb hown (hts (.constantLong RX8 189 (2147483648)) (by decide +kernel)) dX8_draw_13 ?_
  refine lv_lrem hx hb dX8_draw_16 (by decide) ?_
  refine r_asL (lN (lcg sd)) (lcg_L hsd) ?_
  refine r_put C hw RX8 TX8 17 5 hinX8 tyX8 tyX8_ok nmX8 (i := q) (by omega) hE0 rfl 2 (by decide) (by decide +kernel) rfl rfl (v := .long (lN (lcg sd))) rfl rfl (Nat.le_of_ble_eq_true rfl) dX8_draw_17 (fun zE1 zH1 zL1 zg1 zf1 zw1 => ?_)
  have zh1_0 : zE1 q = .inr (5, [.int th, .ref (ad (q + 1)), .long (lN (lcg sd)), .ref (ad (q + 2)), .ref (ad (q + 3)), .int (nI co), .ref (ad (q + 4)), .int (nI pm), .ref (ad (q + 5)), .ref (ad (q + 6)), .ref (ad (q + 7)), .ref (ad (q + 8)), .int (nI em), .ref (ad (q + 9)), .ref (ad (q + 10)), .ref (ad (q + 11)), .ref (ad (q + 12))]) := zg1
  have zfr1 : ∀ j, j ≠ q → zE1 j = E j := fun j zm0 => zf1 j zm0
  refine lv_aload_n hx hb dX8_draw_20 rfl (lv_at hl 0 rfl) ?_
  refine r_get C zw1 RX8 TX8 17 5 hinX8 (i := q) (by omega) zh1_0 rfl 2 (by decide) (by decide +kernel) rfl (v := .long (lN (lcg sd))) rfl dX8_draw_21 ?_
  refine lv_ldc2 (v := 65536) hx hb hown (hts (.constantLong RX8 191 (65536)) (by decide +kernel)) dX8_draw_24 ?_
  refine lv_ldiv hx hb dX8_draw_27 (by decide) ?_
  refine r_asL (lN (lcg sd / 65536)) (lcg_D sd) ?_
  refine lv_iload_n hx hb dX8_draw_28 rfl (lv_at hl 1 rfl) ?_
  refine lv_i2l (v := (nI n).toInt64) hx hb dX8_draw_29 rfl ?_
  refine r_asL (lN n) (nI_l hn) ?_
  refine lv_lrem hx hb dX8_draw_30 (lN_ne0 hn0 hn) ?_
  refine r_asL (lN (lcg sd / 65536 % n)) (lcg_R sd hn0 hn) ?_
  refine lv_l2i (v := (lN (lcg sd / 65536 % n)).toInt32) hx hb dX8_draw_31 rfl ?_
  refine r_nat (lcg sd / 65536 % n) (lN_i _) ?_
  exact r_iret C zw1 dX8_draw_32 ⟨zh1_0, (fun j zm0 => zfr1 j zm0), (by rfl)⟩

