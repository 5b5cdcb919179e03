set_option maxHeartbeats 4000000 in
set_option maxRecDepth 100000 in
theorem c_X7_init {l : Launch} {G : vG} {tC : Nat} {ad : Nat → Nat} {N : Nat} {E : Nat → va_E} {i : Nat} {pb : Nat → Int32} (hN0 : i < N) (hE0 : E i = .inr (4, [.null, .null, .null, .null, .null, .null, .null, .null, .int (nI 0)])) (hiN : N = i + 1) : MK l yX7_init wsX7_init ({ frames := 3, cells := 74, slots := 9913, locals := 64 } : Room) 74 9913 G tC ad N (N + 74) E [.ref (ad i)] (fun ad2 E2 => ∃ c0 : Nat → Int32, ∃ o0 : Nat → Int32, ∃ c1 : Nat → Int32, ∃ o1 : Nat → Int32, ∃ c2 : Nat → Int32, ∃ o2 : Nat → Int32, ∃ fi : Nat → Option Nat, E2 i = .inr (4, [.ref (ad2 N), .ref (ad2 (N + 3)), .ref (ad2 (N + 53)), .ref (ad2 (N + 60)), .ref (ad2 (N + 61)), .ref (ad2 (N + 66)), .ref (ad2 (N + 72)), .ref (ad2 (N + 73)), .int (nI 0)]) ∧ E2 N = .inr (2, [.ref (ad2 (N + 1)), .ref (ad2 (N + 2)), .int (nI 0), .int (nI 0), .int (nI 0), .int (nI 0), .int (nI 0), .int (nI 0)]) ∧ E2 (N + 1) = eI G 500 c0 ∧ E2 (N + 2) = eI G 4 o0 ∧ E2 (N + 54) = .inr (2, [.ref (ad2 (N + 55)), .ref (ad2 (N + 56)), .int (nI 0), .int (nI 0), .int (nI 0), .int (nI 0), .int (nI 0), .int (nI 0)]) ∧ E2 (N + 55) = eI G 500 c1 ∧ E2 (N + 56) = eI G 4 o1 ∧ E2 (N + 57) = .inr (2, [.ref (ad2 (N + 58)), .ref (ad2 (N + 59)), .int (nI 0), .int (nI 0), .int (nI 0), .int (nI 0), .int (nI 0), .int (nI 0)]) ∧ E2 (N + 58) = eI G 500 c2 ∧ E2 (N + 59) = eI G 4 o2 ∧ E2 (N + 53) = eR G 2 fi ∧ E2 (N + 60) = eZ G 2 (fun _ => nI 0) ∧ E2 (N + 61) = .inr (0, [.ref (ad2 (N + 62)), .ref (ad2 (N + 63)), .ref (ad2 (N + 64)), .ref (ad2 (N + 65)), .int (nI 0)]) ∧ E2 (N + 62) = eI G 20 (fun _ => nI 0) ∧ E2 (N + 63) = eI G 20 (fun _ => nI 0) ∧ E2 (N + 64) = eI G 20 (fun _ => nI 0) ∧ E2 (N + 65) = eI G 20 (fun _ => nI 0) ∧ E2 (N + 66) = .inr (1, [.ref (ad2 (N + 67)), .ref (ad2 (N + 68)), .ref (ad2 (N + 69)), .ref (ad2 (N + 70)), .ref (ad2 (N + 71)), .int (nI 0), .int (nI 0)]) ∧ E2 (N + 67) = eI G 10 (fun _ => nI 0) ∧ E2 (N + 68) = eI G 10 (fun _ => nI 0) ∧ E2 (N + 69) = eI G 10 (fun _ => nI 0) ∧ E2 (N + 70) = eI G 10 (fun _ => nI 0) ∧ E2 (N + 71) = eI G 10 (fun _ => nI 0) ∧ E2 (N + 72) = eI G 10 (fun _ => nI 0) ∧ E2 (N + 73) = eI G 10 (fun _ => nI 0) ∧ (∀ j, j < N → j ≠ i → E2 j = E j) ∧ (∀ b, b < 4 → o0 b = -1) ∧ (fi 0 = some (ad2 (N + 54)) ∧ fi 1 = some (ad2 (N + 57))) ∧ Ring G ad2 E2 (N + 3) pb 0) := by
  refine MK_of RX7 rfl (by decide) rfl rfl (Nat.le_of_ble_eq_true rfl) ?_
  intro pp_ ee_ ss_ mm_ aa_ bb_ me_ cc_ A ls C hnam hAO hw hl
  have hx := C.1
  have hb := C.2.1
  have hown := C.2.2.2.2.1
  have hts := C.2.2.2.2.2.1
  have hl : lv_has ls 1 [(0, .ref (ad i))] := hl
  have hinX7 : ∀ w ∈ u_ws RX7 TX7 9, w ∈ wsX7_init := by decide +kernel
  have zfr0 : ∀ j, j < N → E j = E j := fun _ _ => rfl
  refine lv_aload_n hx hb dX7_init_0 rfl (lv_at hl 0 rfl) ?_
  refine r_objInit C (by decide +kernel) (by decide +kernel) (by decide +kernel) hl.1 dX7_init_1 (Nat.le_of_ble_eq_true rfl) (Nat.le_of_ble_eq_true rfl) ?_
  refine lv_aload_n hx hb dX7_init_4 rfl (lv_at hl 0 rfl) ?_
  refine r_new C hw (C0 := RX5) (T := TX5) (n := 8) (ci := 2) (by decide +kernel) tyX5 tyX5_ok (by decide +kernel) (by decide +kernel) (by decide +kernel) rfl (fs := [.null, .null, .int (nI 0), .int (nI 0), .int (nI 0), .int (nI 0), .int (nI 0), .int (nI 0)]) (fun j hj => by rcases (show j = 0 ∨ j = 1 ∨ j = 2 ∨ j = 3 ∨ j = 4 ∨ j = 5 ∨ j = 6 ∨ j = 7 by omega) with rfl | rfl | rfl | rfl | rfl | rfl | rfl | rfl <;> rfl) (Nat.le_of_ble_eq_true rfl) (Nat.le_of_ble_eq_true rfl) dX7_init_5 (fun zA1 zE1 zH1 za1 zg1 zf1 zw1 => ?_)
  have zk1_0 : zE1 i = .inr (4, [.null, .null, .null, .null, .null, .null, .null, .null, .int (nI 0)]) := (zf1 _ (by omega)).trans hE0
  have zh1_0 : zE1 N = .inr (2, [.null, .null, .int (nI 0), .int (nI 0), .int (nI 0), .int (nI 0), .int (nI 0), .int (nI 0)]) := zg1
  have zfr1 : ∀ j, j < N → zE1 j = E j := fun j zm0 => (zf1 j (by omega) ).trans (zfr0 j zm0)
  have zag1 : ∀ j, j < N → zA1 j = ad j := fun j hj => (za1 j (by omega)).trans ((fun _ _ => rfl) j hj)
  have hl : lv_has ls 1 [(0, .ref (zA1 i))] := by rw [za1 (i) (by omega)]; exact hl
  refine r_stk (st2 := [.ref (zA1 (N)), .ref (zA1 i)]) (by rw [za1 (i) (by omega)]) ?_
  refine lv_dup hx hb dX7_init_8 rfl ?_
  refine r_ctor C hAO zw1 hl.1 (c_X5_init (l := l) (G := G) (tC := tC) (ad := zA1) (N := (N + 1)) (E := zE1) (i := N) (by omega) zh1_0 ) gX7_init_X5_init rfl ⟨rfl, rfl⟩ (by decide +kernel) (by decide +kernel) (by decide +kernel) rfl (by decide +kernel) ⟨Nat.le_of_ble_eq_true rfl, Nat.le_of_ble_eq_true rfl⟩ (Nat.le_of_ble_eq_true rfl) dX7_init_9 ⟨Nat.le_of_ble_eq_true rfl, Nat.le_of_ble_eq_true rfl⟩ (fun zA2 zE2 zH2 zL2 za2 zp2 zw2 => ?_)
  obtain ⟨zzc2, zzo2, zg2_0, zg2_1, zg2_2, zf2, zq2⟩ := zp2
  have zk2_0 : zE2 i = .inr (4, [.null, .null, .null, .null, .null, .null, .null, .null, .int (nI 0)]) := (zf2 _ (by omega) (by omega)).trans zk1_0
  have zh2_0 : zE2 N = .inr (2, [.ref (zA2 (N + 1)), .ref (zA2 (N + 2)), .int (nI 0), .int (nI 0), .int (nI 0), .int (nI 0), .int (nI 0), .int (nI 0)]) := zg2_0
  have zh2_1 : zE2 (N + 1) = eI G 500 zzc2 := zg2_1
  have zh2_2 : zE2 (N + 2) = eI G 4 zzo2 := zg2_2
  have zfr2 : ∀ j, j < N → zE2 j = E j := fun j zm0 => (zf2 j (by omega) (by omega)).trans (zfr1 j zm0)
  have zag2 : ∀ j, j < N → zA2 j = ad j := fun j hj => (za2 j (by omega)).trans (zag1 j hj)
  have hl : lv_has ls 1 [(0, .ref (zA2 i))] := by rw [za2 (i) (by omega)]; exact hl
  refine r_stk (st2 := [.ref (zA2 N), .ref (zA2 i)]) (by rw [za2 (N) (by omega), za2 (i) (by omega)]) ?_
  refine r_putF C hnam zw2 RX7 TX7 9 4 hinX7 tyX7 tyX7_ok nmX7 (i := i) (by omega) zk2_0 rfl 0 (by decide) (by decide +kernel) rfl rfl rfl (v := .ref (zA2 N)) rfl rfl (Nat.le_of_ble_eq_true rfl) dX7_init_12 (fun zE3 zH3 zL3 zg3 zf3 zw3 => ?_)
  have zh3_0 : zE3 i = .inr (4, [.ref (zA2 N), .null, .null, .null, .null, .null, .null, .null, .int (nI 0)]) := zg3
  have zk3_0 : zE3 N = .inr (2, [.ref (zA2 (N + 1)), .ref (zA2 (N + 2)), .int (nI 0), .int (nI 0), .int (nI 0), .int (nI 0), .int (nI 0), .int (nI 0)]) := (zf3 _ (by omega)).trans zh2_0
  have zk3_1 : zE3 (N + 1) = eI G 500 zzc2 := (zf3 _ (by omega)).trans zh2_1
  have zk3_2 : zE3 (N + 2) = eI G 4 zzo2 := (zf3 _ (by omega)).trans zh2_2
  have zfr3 : ∀ j, j < N → j ≠ i → zE3 j = E j := fun j zm0 zm1 => (zf3 j zm1).trans (zfr2 j zm0)
  refine lv_aload_n hx hb dX7_init_15 rfl (lv_at hl 0 rfl) ?_
  refine r_new C zw3 (C0 := RX6) (T := TX6) (n := 3) (ci := 3) (by decide +kernel) tyX6 tyX6_ok (by decide +kernel) (by decide +kernel) (by decide +kernel) rfl (fs := [.null, .int (nI 0), .int (nI 0)]) (fun j hj => by rcases (show j = 0 ∨ j = 1 ∨ j = 2 by omega) with rfl | rfl | rfl <;> rfl) (Nat.le_of_ble_eq_true rfl) (Nat.le_of_ble_eq_true rfl) dX7_init_16 (fun zA4 zE4 zH4 za4 zg4 zf4 zw4 => ?_)
  have zk4_0 : zE4 N = .inr (2, [.ref (zA4 (N + 1)), .ref (zA4 (N + 2)), .int (nI 0), .int (nI 0), .int (nI 0), .int (nI 0), .int (nI 0), .int (nI 0)]) := (zf4 _ (by omega)).trans (zk3_0.trans (by rw [za4 ((N + 1)) (by omega), za4 ((N + 2)) (by omega)]))
  have zk4_1 : zE4 (N + 1) = eI G 500 zzc2 := (zf4 _ (by omega)).trans zk3_1
  have zk4_2 : zE4 (N + 2) = eI G 4 zzo2 := (zf4 _ (by omega)).trans zk3_2
  have zk4_3 : zE4 i = .inr (4, [.ref (zA4 N), .null, .null, .null, .null, .null, .null, .null, .int (nI 0)]) := (zf4 _ (by omega)).trans (zh3_0.trans (by rw [za4 (N) (by omega)]))
  have zh4_0 : zE4 (N + 3) = .inr (3, [.null, .int (nI 0), .int (nI 0)]) := zg4
  have zfr4 : ∀ j, j < N → j ≠ i → zE4 j = E j := fun j zm0 zm1 => (zf4 j (by omega) ).trans (zfr3 j zm0 zm1)
  have zag4 : ∀ j, j < N → zA4 j = ad j := fun j hj => (za4 j (by omega)).trans (zag2 j hj)
  have hl : lv_has ls 1 [(0, .ref (zA4 i))] := by rw [za4 (i) (by omega)]; exact hl
  refine r_stk (st2 := [.ref (zA4 ((N + 3))), .ref (zA4 i)]) (by rw [za4 (i) (by omega)]) ?_
  refine lv_dup hx hb dX7_init_19 rfl ?_
  refine r_ctor C hAO zw4 hl.1 (c_X6_init (l := l) (G := G) (tC := tC) (ad := zA4) (N := (N + 4)) (E := zE4) (i := (N + 3)) (pb := pb) (by omega) zh4_0 (by omega)) gX7_init_X6_init rfl ⟨rfl, rfl⟩ (by decide +kernel) (by decide +kernel) (by decide +kernel) rfl (by decide +kernel) ⟨Nat.le_of_ble_eq_true rfl, Nat.le_of_ble_eq_true rfl⟩ (Nat.le_of_ble_eq_true rfl) dX7_init_20 ⟨Nat.le_of_ble_eq_true rfl, Nat.le_of_ble_eq_true rfl⟩ (fun zA5 zE5 zH5 zL5 za5 zp5 zw5 => ?_)
  obtain ⟨zg5_0, zf5, zq5⟩ := zp5
  have zk5_0 : zE5 N = .inr (2, [.ref (zA5 (N + 1)), .ref (zA5 (N + 2)), .int (nI 0), .int (nI 0), .int (nI 0), .int (nI 0), .int (nI 0), .int (nI 0)]) := (zf5 _ (by omega) (by omega)).trans (zk4_0.trans (by rw [za5 ((N + 1)) (by omega), za5 ((N + 2)) (by omega)]))
  have zk5_1 : zE5 (N + 1) = eI G 500 zzc2 := (zf5 _ (by omega) (by omega)).trans zk4_1
  have zk5_2 : zE5 (N + 2) = eI G 4 zzo2 := (zf5 _ (by omega) (by omega)).trans zk4_2
  have zk5_3 : zE5 i = .inr (4, [.ref (zA5 N), .null, .null, .null, .null, .null, .null, .null, .int (nI 0)]) := (zf5 _ (by omega) (by omega)).trans (zk4_3.trans (by rw [za5 (N) (by omega)]))
  have zh5_0 : zE5 (N + 3) = .inr (3, [.ref (zA5 (N + 4)), .int (nI 0), .int (nI 0)]) := zg5_0
  have zfr5 : ∀ j, j < N → j ≠ i → zE5 j = E j := fun j zm0 zm1 => (zf5 j (by omega) (by omega)).trans (zfr4 j zm0 zm1)
  have zag5 : ∀ j, j < N → zA5 j = ad j := fun j hj => (za5 j (by omega)).trans (zag4 j hj)
  have hl : lv_has ls 1 [(0, .ref (zA5 i))] := by rw [za5 (i) (by omega)]; exact hl
  refine r_stk (st2 := [.ref (zA5 (N + 3)), .ref (zA5 i)]) (by rw [za5 ((N + 3)) (by omega), za5 (i) (by omega)]) ?_
  refine r_putF C hnam zw5 RX7 TX7 9 4 hinX7 tyX7 tyX7_ok nmX7 (i := i) (by omega) zk5_3 rfl 1 (by decide) (by decide +kernel) rfl rfl rfl (v := .ref (zA5 (N + 3))) rfl rfl (Nat.le_of_ble_eq_true rfl) dX7_init_23 (fun zE6 zH6 zL6 zg6 zf6 zw6 => ?_)
  have zh6_0 : zE6 i = .inr (4, [.ref (zA5 N), .ref (zA5 (N + 3)), .null, .null, .null, .null, .null, .null, .int (nI 0)]) := zg6
  have zk6_0 : zE6 N = .inr (2, [.ref (zA5 (N + 1)), .ref (zA5 (N + 2)), .int (nI 0), .int (nI 0), .int (nI 0), .int (nI 0), .int (nI 0), .int (nI 0)]) := (zf6 _ (by omega)).trans zk5_0
  have zk6_1 : zE6 (N + 1) = eI G 500 zzc2 := (zf6 _ (by omega)).trans zk5_1
  have zk6_2 : zE6 (N + 2) = eI G 4 zzo2 := (zf6 _ (by omega)).trans zk5_2
  have zk6_3 : zE6 (N + 3) = .inr (3, [.ref (zA5 (N + 4)), .int (nI 0), .int (nI 0)]) := (zf6 _ (by omega)).trans zh5_0
  have zfr6 : ∀ j, j < N → j ≠ i → zE6 j = E j := fun j zm0 zm1 => (zf6 j zm1).trans (zfr5 j zm0 zm1)
  have zy6_rg : Ring G zA5 zE6 (N + 3) pb 0 := zq5.same (fun j zj1 zj2 => zf6 j (by omega))
  refine lv_aload_n hx hb dX7_init_26 rfl (lv_at hl 0 rfl) ?_
  refine lv_iconst (v := nI 2) hx hb dX7_init_27 rfl ?_
  refine r_newR C hAO zw6 (n := 2) (by decide +kernel) (by decide) (Nat.le_of_ble_eq_true rfl) (Nat.le_of_ble_eq_true rfl) dX7_init_28 (fun zA7 zE7 zH7 za7 zg7 zf7 zw7 => ?_)
  have zk7_0 : zE7 N = .inr (2, [.ref (zA7 (N + 1)), .ref (zA7 (N + 2)), .int (nI 0), .int (nI 0), .int (nI 0), .int (nI 0), .int (nI 0), .int (nI 0)]) := (zf7 _ (by omega)).trans (zk6_0.trans (by rw [za7 ((N + 1)) (by omega), za7 ((N + 2)) (by omega)]))
  have zk7_1 : zE7 (N + 1) = eI G 500 zzc2 := (zf7 _ (by omega)).trans zk6_1
  have zk7_2 : zE7 (N + 2) = eI G 4 zzo2 := (zf7 _ (by omega)).trans zk6_2
  have zk7_3 : zE7 (N + 3) = .inr (3, [.ref (zA7 (N + 4)), .int (nI 0), .int (nI 0)]) := (zf7 _ (by omega)).trans (zk6_3.trans (by rw [za7 ((N + 4)) (by omega)]))
  have zk7_4 : zE7 i = .inr (4, [.ref (zA7 N), .ref (zA7 (N + 3)), .null, .null, .null, .null, .null, .null, .int (nI 0)]) := (zf7 _ (by omega)).trans (zh6_0.trans (by rw [za7 (N) (by omega), za7 ((N + 3)) (by omega)]))
  have zh7_0 : zE7 (N + 53) = eR G 2 (fun _ => none) := zg7
  have zfr7 : ∀ j, j < N → j ≠ i → zE7 j = E j := fun j zm0 zm1 => (zf7 j (by omega) ).trans (zfr6 j zm0 zm1)
  have zag7 : ∀ j, j < N → zA7 j = ad j := fun j hj => (za7 j (by omega)).trans (zag5 j hj)
  have zy7_rg : Ring G zA7 zE7 (N + 3) pb 0 := zy6_rg.move (fun j zj1 zj2 => za7 j (by omega)) (fun j zj1 zj2 => zf7 j (by omega) )
  have hl : lv_has ls 1 [(0, .ref (zA7 i))] := by rw [za7 (i) (by omega)]; exact hl
  refine r_stk (st2 := [.ref (zA7 ((N + 53))), .ref (zA7 i)]) (by rw [za7 (i) (by omega)]) ?_
  refine lv_dup hx hb dX7_init_31 rfl ?_
  refine lv_iconst (v := nI 0) hx hb dX7_init_32 rfl ?_
  refine r_new C zw7 (C0 := RX5) (T := TX5) (n := 8) (ci := 2) (by decide +kernel) tyX5 tyX5_ok (by decide +kernel) (by decide +kernel) (by decide +kernel) rfl (fs := [.null, .null, .int (nI 0), .int (nI 0), .int (nI 0), .int (nI 0), .int (nI 0), .int (nI 0)]) (fun j hj => by rcases (show j = 0 ∨ j = 1 ∨ j = 2 ∨ j = 3 ∨ j = 4 ∨ j = 5 ∨ j = 6 ∨ j = 7 by omega) with rfl | rfl | rfl | rfl | rfl | rfl | rfl | rfl <;> rfl) (Nat.le_of_ble_eq_true rfl) (Nat.le_of_ble_eq_true rfl) dX7_init_33 (fun zA8 zE8 zH8 za8 zg8 zf8 zw8 => ?_)
  have zk8_0 : zE8 N = .inr (2, [.ref (zA8 (N + 1)), .ref (zA8 (N + 2)), .int (nI 0), .int (nI 0), .int (nI 0), .int (nI 0), .int (nI 0), .int (nI 0)]) := (zf8 _ (by omega)).trans (zk7_0.trans (by rw [za8 ((N + 1)) (by omega), za8 ((N + 2)) (by omega)]))
  have zk8_1 : zE8 (N + 1) = eI G 500 zzc2 := (zf8 _ (by omega)).trans zk7_1
  have zk8_2 : zE8 (N + 2) = eI G 4 zzo2 := (zf8 _ (by omega)).trans zk7_2
  have zk8_3 : zE8 (N + 3) = .inr (3, [.ref (zA8 (N + 4)), .int (nI 0), .int (nI 0)]) := (zf8 _ (by omega)).trans (zk7_3.trans (by rw [za8 ((N + 4)) (by omega)]))
  have zk8_4 : zE8 i = .inr (4, [.ref (zA8 N), .ref (zA8 (N + 3)), .null, .null, .null, .null, .null, .null, .int (nI 0)]) := (zf8 _ (by omega)).trans (zk7_4.trans (by rw [za8 (N) (by omega), za8 ((N + 3)) (by omega)]))
  have zk8_5 : zE8 (N + 53) = eR G 2 (fun _ => none) := (zf8 _ (by omega)).trans zh7_0
  have zh8_0 : zE8 (N + 54) = .inr (2, [.null, .null, .int (nI 0), .int (nI 0), .int (nI 0), .int (nI 0), .int (nI 0), .int (nI 0)]) := zg8
  have zfr8 : ∀ j, j < N → j ≠ i → zE8 j = E j := fun j zm0 zm1 => (zf8 j (by omega) ).trans (zfr7 j zm0 zm1)
  have zag8 : ∀ j, j < N → zA8 j = ad j := fun j hj => (za8 j (by omega)).trans (zag7 j hj)
  have zy8_rg : Ring G zA8 zE8 (N + 3) pb 0 := zy7_rg.move (fun j zj1 zj2 => za8 j (by omega)) (fun j zj1 zj2 => zf8 j (by omega) )
  have hl : lv_has ls 1 [(0, .ref (zA8 i))] := by rw [za8 (i) (by omega)]; exact hl
  refine r_stk (st2 := [.ref (zA8 ((N + 54))), .int (nI 0), .ref (zA8 (N + 53)), .ref (zA8 (N + 53)), .ref (zA8 i)]) (by rw [za8 ((N + 53)) (by omega), za8 (i) (by omega)]) ?_
  refine lv_dup hx hb dX7_init_36 rfl ?_
  refine r_ctor C hAO zw8 hl.1 (c_X5_init (l := l) (G := G) (tC := tC) (ad := zA8) (N := (N + 55)) (E := zE8) (i := (N + 54)) (by omega) zh8_0 ) gX7_init_X5_init rfl ⟨rfl, rfl⟩ (by decide +kernel) (by decide +kernel) (by decide +kernel) rfl (by decide +kernel) ⟨Nat.le_of_ble_eq_true rfl, Nat.le_of_ble_eq_true rfl⟩ (Nat.le_of_ble_eq_true rfl) dX7_init_37 ⟨Nat.le_of_ble_eq_true rfl, Nat.le_of_ble_eq_true rfl⟩ (fun zA9 zE9 zH9 zL9 za9 zp9 zw9 => ?_)
  obtain ⟨zzc9, zzo9, zg9_0, zg9_1, zg9_2, zf9, zq9⟩ := zp9
  have zk9_0 : zE9 N = .inr (2, [.ref (zA9 (N + 1)), .ref (zA9 (N + 2)), .int (nI 0), .int (nI 0), .int (nI 0), .int (nI 0), .int (nI 0), .int (nI 0)]) := (zf9 _ (by omega) (by omega)).trans (zk8_0.trans (by rw [za9 ((N + 1)) (by omega), za9 ((N + 2)) (by omega)]))
  have zk9_1 : zE9 (N + 1) = eI G 500 zzc2 := (zf9 _ (by omega) (by omega)).trans zk8_1
  have zk9_2 : zE9 (N + 2) = eI G 4 zzo2 := (zf9 _ (by omega) (by omega)).trans zk8_2
  have zk9_3 : zE9 (N + 3) = .inr (3, [.ref (zA9 (N + 4)), .int (nI 0), .int (nI 0)]) := (zf9 _ (by omega) (by omega)).trans (zk8_3.trans (by rw [za9 ((N + 4)) (by omega)]))
  have zk9_4 : zE9 i = .inr (4, [.ref (zA9 N), .ref (zA9 (N + 3)), .null, .null, .null, .null, .null, .null, .int (nI 0)]) := (zf9 _ (by omega) (by omega)).trans (zk8_4.trans (by rw [za9 (N) (by omega), za9 ((N + 3)) (by omega)]))
  have zk9_5 : zE9 (N + 53) = eR G 2 (fun _ => none) := (zf9 _ (by omega) (by omega)).trans zk8_5
  have zh9_0 : zE9 (N + 54) = .inr (2, [.ref (zA9 (N + 55)), .ref (zA9 (N + 56)), .int (nI 0), .int (nI 0), .int (nI 0), .int (nI 0), .int (nI 0), .int (nI 0)]) := zg9_0
  have zh9_1 : zE9 (N + 55) = eI G 500 zzc9 := zg9_1
  have zh9_2 : zE9 (N + 56) = eI G 4 zzo9 := zg9_2
  have zfr9 : ∀ j, j < N → j ≠ i → zE9 j = E j := fun j zm0 zm1 => (zf9 j (by omega) (by omega)).trans (zfr8 j zm0 zm1)
  have zag9 : ∀ j, j < N → zA9 j = ad j := fun j hj => (za9 j (by omega)).trans (zag8 j hj)
  have zy9_rg : Ring G zA9 zE9 (N + 3) pb 0 := zy8_rg.move (fun j zj1 zj2 => za9 j (by omega)) (fun j zj1 zj2 => zf9 j (by omega) (by omega))
  have hl : lv_has ls 1 [(0, .ref (zA9 i))] := by rw [za9 (i) (by omega)]; exact hl
  refine r_stk (st2 := [.ref (zA9 (N + 54)), .int (nI 0), .ref (zA9 (N + 53)), .ref (zA9 (N + 53)), .ref (zA9 i)]) (by rw [za9 ((N + 54)) (by omega), za9 ((N + 53)) (by omega), za9 (i) (by omega)]) ?_
  refine r_aast C zw9 (i := (N + 53)) (k := (N + 54)) (by omega) (by omega) zk9_5 zh9_0 (j := 0) (by omega) (by omega) dX7_init_40 (fun zE10 zH10 zL10 zg10 zf10 zw10 => ?_)
  have zh10_0 : zE10 (N + 53) = eR G 2 (va_up (fun _ => none) (0) (some (zA9 (N + 54)))) := zg10
  have zk10_0 : zE10 N = .inr (2, [.ref (zA9 (N + 1)), .ref (zA9 (N + 2)), .int (nI 0), .int (nI 0), .int (nI 0), .int (nI 0), .int (nI 0), .int (nI 0)]) := (zf10 _ (by omega)).trans zk9_0
  have zk10_1 : zE10 (N + 1) = eI G 500 zzc2 := (zf10 _ (by omega)).trans zk9_1
  have zk10_2 : zE10 (N + 2) = eI G 4 zzo2 := (zf10 _ (by omega)).trans zk9_2
  have zk10_3 : zE10 (N + 3) = .inr (3, [.ref (zA9 (N + 4)), .int (nI 0), .int (nI 0)]) := (zf10 _ (by omega)).trans zk9_3
  have zk10_4 : zE10 i = .inr (4, [.ref (zA9 N), .ref (zA9 (N + 3)), .null, .null, .null, .null, .null, .null, .int (nI 0)]) := (zf10 _ (by omega)).trans zk9_4
  have zk10_5 : zE10 (N + 54) = .inr (2, [.ref (zA9 (N + 55)), .ref (zA9 (N + 56)), .int (nI 0), .int (nI 0), .int (nI 0), .int (nI 0), .int (nI 0), .int (nI 0)]) := (zf10 _ (by omega)).trans zh9_0
  have zk10_6 : zE10 (N + 55) = eI G 500 zzc9 := (zf10 _ (by omega)).trans zh9_1
  have zk10_7 : zE10 (N + 56) = eI G 4 zzo9 := (zf10 _ (by omega)).trans zh9_2
  have zfr10 : ∀ j, j < N → j ≠ i → zE10 j = E j := fun j zm0 zm1 => (zf10 j (by omega)).trans (zfr9 j zm0 zm1)
  have zy10_rg : Ring G zA9 zE10 (N + 3) pb 0 := zy9_rg.same (fun j zj1 zj2 => zf10 j (by omega))
  refine lv_dup hx hb dX7_init_41 rfl ?_
  refine lv_iconst (v := nI 1) hx hb dX7_init_42 rfl ?_
  refine r_new C zw10 (C0 := RX5) (T := TX5) (n := 8) (ci := 2) (by decide +kernel) tyX5 tyX5_ok (by decide +kernel) (by decide +kernel) (by decide +kernel) rfl (fs := [.null, .null, .int (nI 0), .int (nI 0), .int (nI 0), .int (nI 0), .int (nI 0), .int (nI 0)]) (fun j hj => by rcases (show j = 0 ∨ j = 1 ∨ j = 2 ∨ j = 3 ∨ j = 4 ∨ j = 5 ∨ j = 6 ∨ j = 7 by omega) with rfl | rfl | rfl | rfl | rfl | rfl | rfl | rfl <;> rfl) (Nat.le_of_ble_eq_true rfl) (Nat.le_of_ble_eq_true rfl) dX7_init_43 (fun zA11 zE11 zH11 za11 zg11 zf11 zw11 => ?_)
  have zk11_0 : zE11 N = .inr (2, [.ref (zA11 (N + 1)), .ref (zA11 (N + 2)), .int (nI 0), .int (nI 0), .int (nI 0), .int (nI 0), .int (nI 0), .int (nI 0)]) := (zf11 _ (by omega)).trans (zk10_0.trans (by rw [za11 ((N + 1)) (by omega), za11 ((N + 2)) (by omega)]))
  have zk11_1 : zE11 (N + 1) = eI G 500 zzc2 := (zf11 _ (by omega)).trans zk10_1
  have zk11_2 : zE11 (N + 2) = eI G 4 zzo2 := (zf11 _ (by omega)).trans zk10_2
  have zk11_3 : zE11 (N + 3) = .inr (3, [.ref (zA11 (N + 4)), .int (nI 0), .int (nI 0)]) := (zf11 _ (by omega)).trans (zk10_3.trans (by rw [za11 ((N + 4)) (by omega)]))
  have zk11_4 : zE11 i = .inr (4, [.ref (zA11 N), .ref (zA11 (N + 3)), .null, .null, .null, .null, .null, .null, .int (nI 0)]) := (zf11 _ (by omega)).trans (zk10_4.trans (by rw [za11 (N) (by omega), za11 ((N + 3)) (by omega)]))
  have zk11_5 : zE11 (N + 54) = .inr (2, [.ref (zA11 (N + 55)), .ref (zA11 (N + 56)), .int (nI 0), .int (nI 0), .int (nI 0), .int (nI 0), .int (nI 0), .int (nI 0)]) := (zf11 _ (by omega)).trans (zk10_5.trans (by rw [za11 ((N + 55)) (by omega), za11 ((N + 56)) (by omega)]))
  have zk11_6 : zE11 (N + 55) = eI G 500 zzc9 := (zf11 _ (by omega)).trans zk10_6
  have zk11_7 : zE11 (N + 56) = eI G 4 zzo9 := (zf11 _ (by omega)).trans zk10_7
  have zk11_8 : zE11 (N + 53) = eR G 2 (va_up (fun _ => none) (0) (some (zA11 (N + 54)))) := (zf11 _ (by omega)).trans (zh10_0.trans (by rw [za11 ((N + 54)) (by omega)]))
  have zh11_0 : zE11 (N + 57) = .inr (2, [.null, .null, .int (nI 0), .int (nI 0), .int (nI 0), .int (nI 0), .int (nI 0), .int (nI 0)]) := zg11
  have zfr11 : ∀ j, j < N → j ≠ i → zE11 j = E j := fun j zm0 zm1 => (zf11 j (by omega) ).trans (zfr10 j zm0 zm1)
  have zag11 : ∀ j, j < N → zA11 j = ad j := fun j hj => (za11 j (by omega)).trans (zag9 j hj)
  have zy11_rg : Ring G zA11 zE11 (N + 3) pb 0 := zy10_rg.move (fun j zj1 zj2 => za11 j (by omega)) (fun j zj1 zj2 => zf11 j (by omega) )
  have hl : lv_has ls 1 [(0, .ref (zA11 i))] := by rw [za11 (i) (by omega)]; exact hl
  refine r_stk (st2 := [.ref (zA11 ((N + 57))), .int (nI 1), .ref (zA11 (N + 53)), .ref (zA11 (N + 53)), .ref (zA11 i)]) (by rw [za11 ((N + 53)) (by omega), za11 (i) (by omega)]) ?_
  refine lv_dup hx hb dX7_init_46 rfl ?_
  refine r_ctor C hAO zw11 hl.1 (c_X5_init (l := l) (G := G) (tC := tC) (ad := zA11) (N := (N + 58)) (E := zE11) (i := (N + 57)) (by omega) zh11_0 ) gX7_init_X5_init rfl ⟨rfl, rfl⟩ (by decide +kernel) (by decide +kernel) (by decide +kernel) rfl (by decide +kernel) ⟨Nat.le_of_ble_eq_true rfl, Nat.le_of_ble_eq_true rfl⟩ (Nat.le_of_ble_eq_true rfl) dX7_init_47 ⟨Nat.le_of_ble_eq_true rfl, Nat.le_of_ble_eq_true rfl⟩ (fun zA12 zE12 zH12 zL12 za12 zp12 zw12 => ?_)
  obtain ⟨zzc12, zzo12, zg12_0, zg12_1, zg12_2, zf12, zq12⟩ := zp12
  have zk12_0 : zE12 N = .inr (2, [.ref (zA12 (N + 1)), .ref (zA12 (N + 2)), .int (nI 0), .int (nI 0), .int (nI 0), .int (nI 0), .int (nI 0), .int (nI 0)]) := (zf12 _ (by omega) (by omega)).trans (zk11_0.trans (by rw [za12 ((N + 1)) (by omega), za12 ((N + 2)) (by omega)]))
  have zk12_1 : zE12 (N + 1) = eI G 500 zzc2 := (zf12 _ (by omega) (by omega)).trans zk11_1
  have zk12_2 : zE12 (N + 2) = eI G 4 zzo2 := (zf12 _ (by omega) (by omega)).trans zk11_2
  have zk12_3 : zE12 (N + 3) = .inr (3, [.ref (zA12 (N + 4)), .int (nI 0), .int (nI 0)]) := (zf12 _ (by omega) (by omega)).trans (zk11_3.trans (by rw [za12 ((N + 4)) (by omega)]))
  have zk12_4 : zE12 i = .inr (4, [.ref (zA12 N), .ref (zA12 (N + 3)), .null, .null, .null, .null, .null, .null, .int (nI 0)]) := (zf12 _ (by omega) (by omega)).trans (zk11_4.trans (by rw [za12 (N) (by omega), za12 ((N + 3)) (by omega)]))
  have zk12_5 : zE12 (N + 54) = .inr (2, [.ref (zA12 (N + 55)), .ref (zA12 (N + 56)), .int (nI 0), .int (nI 0), .int (nI 0), .int (nI 0), .int (nI 0), .int (nI 0)]) := (zf12 _ (by omega) (by omega)).trans (zk11_5.trans (by rw [za12 ((N + 55)) (by omega), za12 ((N + 56)) (by omega)]))
  have zk12_6 : zE12 (N + 55) = eI G 500 zzc9 := (zf12 _ (by omega) (by omega)).trans zk11_6
  have zk12_7 : zE12 (N + 56) = eI G 4 zzo9 := (zf12 _ (by omega) (by omega)).trans zk11_7
  have zk12_8 : zE12 (N + 53) = eR G 2 (va_up (fun _ => none) (0) (some (zA12 (N + 54)))) := (zf12 _ (by omega) (by omega)).trans (zk11_8.trans (by rw [za12 ((N + 54)) (by omega)]))
  have zh12_0 : zE12 (N + 57) = .inr (2, [.ref (zA12 (N + 58)), .ref (zA12 (N + 59)), .int (nI 0), .int (nI 0), .int (nI 0), .int (nI 0), .int (nI 0), .int (nI 0)]) := zg12_0
  have zh12_1 : zE12 (N + 58) = eI G 500 zzc12 := zg12_1
  have zh12_2 : zE12 (N + 59) = eI G 4 zzo12 := zg12_2
  have zfr12 : ∀ j, j < N → j ≠ i → zE12 j = E j := fun j zm0 zm1 => (zf12 j (by omega) (by omega)).trans (zfr11 j zm0 zm1)
  have zag12 : ∀ j, j < N → zA12 j = ad j := fun j hj => (za12 j (by omega)).trans (zag11 j hj)
  have zy12_rg : Ring G zA12 zE12 (N + 3) pb 0 := zy11_rg.move (fun j zj1 zj2 => za12 j (by omega)) (fun j zj1 zj2 => zf12 j (by omega) (by omega))
  have hl : lv_has ls 1 [(0, .ref (zA12 i))] := by rw [za12 (i) (by omega)]; exact hl
  refine r_stk (st2 := [.ref (zA12 (N + 57)), .int (nI 1), .ref (zA12 (N + 53)), .ref (zA12 (N + 53)), .ref (zA12 i)]) (by rw [za12 ((N + 57)) (by omega), za12 ((N + 53)) (by omega), za12 (i) (by omega)]) ?_
  refine r_aast C zw12 (i := (N + 53)) (k := (N + 57)) (by omega) (by omega) zk12_8 zh12_0 (j := 1) (by omega) (by omega) dX7_init_50 (fun zE13 zH13 zL13 zg13 zf13 zw13 => ?_)
  have zh13_0 : zE13 (N + 53) = eR G 2 (va_up (va_up (fun _ => none) (0) (some (zA12 (N + 54)))) (1) (some (zA12 (N + 57)))) := zg13
  have zk13_0 : zE13 N = .inr (2, [.ref (zA12 (N + 1)), .ref (zA12 (N + 2)), .int (nI 0), .int (nI 0), .int (nI 0), .int (nI 0), .int (nI 0), .int (nI 0)]) := (zf13 _ (by omega)).trans zk12_0
  have zk13_1 : zE13 (N + 1) = eI G 500 zzc2 := (zf13 _ (by omega)).trans zk12_1
  have zk13_2 : zE13 (N + 2) = eI G 4 zzo2 := (zf13 _ (by omega)).trans zk12_2
  have zk13_3 : zE13 (N + 3) = .inr (3, [.ref (zA12 (N + 4)), .int (nI 0), .int (nI 0)]) := (zf13 _ (by omega)).trans zk12_3
  have zk13_4 : zE13 i = .inr (4, [.ref (zA12 N), .ref (zA12 (N + 3)), .null, .null, .null, .null, .null, .null, .int (nI 0)]) := (zf13 _ (by omega)).trans zk12_4
  have zk13_5 : zE13 (N + 54) = .inr (2, [.ref (zA12 (N + 55)), .ref (zA12 (N + 56)), .int (nI 0), .int (nI 0), .int (nI 0), .int (nI 0), .int (nI 0), .int (nI 0)]) := (zf13 _ (by omega)).trans zk12_5
  have zk13_6 : zE13 (N + 55) = eI G 500 zzc9 := (zf13 _ (by omega)).trans zk12_6
  have zk13_7 : zE13 (N + 56) = eI G 4 zzo9 := (zf13 _ (by omega)).trans zk12_7
  have zk13_8 : zE13 (N + 57) = .inr (2, [.ref (zA12 (N + 58)), .ref (zA12 (N + 59)), .int (nI 0), .int (nI 0), .int (nI 0), .int (nI 0), .int (nI 0), .int (nI 0)]) := (zf13 _ (by omega)).trans zh12_0
  have zk13_9 : zE13 (N + 58) = eI G 500 zzc12 := (zf13 _ (by omega)).trans zh12_1
  have zk13_10 : zE13 (N + 59) = eI G 4 zzo12 := (zf13 _ (by omega)).trans zh12_2
  have zfr13 : ∀ j, j < N → j ≠ i → zE13 j = E j := fun j zm0 zm1 => (zf13 j (by omega)).trans (zfr12 j zm0 zm1)
  have zy13_rg : Ring G zA12 zE13 (N + 3) pb 0 := zy12_rg.same (fun j zj1 zj2 => zf13 j (by omega))
  refine r_putF C hnam zw13 RX7 TX7 9 4 hinX7 tyX7 tyX7_ok nmX7 (i := i) (by omega) zk13_4 rfl 2 (by decide) (by decide +kernel) rfl rfl rfl (v := .ref (zA12 (N + 53))) rfl rfl (Nat.le_of_ble_eq_true rfl) dX7_init_51 (fun zE14 zH14 zL14 zg14 zf14 zw14 => ?_)
  have zh14_0 : zE14 i = .inr (4, [.ref (zA12 N), .ref (zA12 (N + 3)), .ref (zA12 (N + 53)), .null, .null, .null, .null, .null, .int (nI 0)]) := zg14
  have zk14_0 : zE14 N = .inr (2, [.ref (zA12 (N + 1)), .ref (zA12 (N + 2)), .int (nI 0), .int (nI 0), .int (nI 0), .int (nI 0), .int (nI 0), .int (nI 0)]) := (zf14 _ (by omega)).trans zk13_0
  have zk14_1 : zE14 (N + 1) = eI G 500 zzc2 := (zf14 _ (by omega)).trans zk13_1
  have zk14_2 : zE14 (N + 2) = eI G 4 zzo2 := (zf14 _ (by omega)).trans zk13_2
  have zk14_3 : zE14 (N + 3) = .inr (3, [.ref (zA12 (N + 4)), .int (nI 0), .int (nI 0)]) := (zf14 _ (by omega)).trans zk13_3
  have zk14_4 : zE14 (N + 54) = .inr (2, [.ref (zA12 (N + 55)), .ref (zA12 (N + 56)), .int (nI 0), .int (nI 0), .int (nI 0), .int (nI 0), .int (nI 0), .int (nI 0)]) := (zf14 _ (by omega)).trans zk13_5
  have zk14_5 : zE14 (N + 55) = eI G 500 zzc9 := (zf14 _ (by omega)).trans zk13_6
  have zk14_6 : zE14 (N + 56) = eI G 4 zzo9 := (zf14 _ (by omega)).trans zk13_7
  have zk14_7 : zE14 (N + 57) = .inr (2, [.ref (zA12 (N + 58)), .ref (zA12 (N + 59)), .int (nI 0), .int (nI 0), .int (nI 0), .int (nI 0), .int (nI 0), .int (nI 0)]) := (zf14 _ (by omega)).trans zk13_8
  have zk14_8 : zE14 (N + 58) = eI G 500 zzc12 := (zf14 _ (by omega)).trans zk13_9
  have zk14_9 : zE14 (N + 59) = eI G 4 zzo12 := (zf14 _ (by omega)).trans zk13_10
  have zk14_10 : zE14 (N + 53) = eR G 2 (va_up (va_up (fun _ => none) (0) (some (zA12 (N + 54)))) (1) (some (zA12 (N + 57)))) := (zf14 _ (by omega)).trans zh13_0
  have zfr14 : ∀ j, j < N → j ≠ i → zE14 j = E j := fun j zm0 zm1 => (zf14 j zm1).trans (zfr13 j zm0 zm1)
  have zy14_rg : Ring G zA12 zE14 (N + 3) pb 0 := zy13_rg.same (fun j zj1 zj2 => zf14 j (by omega))
  refine lv_aload_n hx hb dX7_init_54 rfl (lv_at hl 0 rfl) ?_
  refine lv_iconst (v := nI 2) hx hb dX7_init_55 rfl ?_
  refine r_newZ C zw14 (n := 2) (by decide +kernel) (by decide) (Nat.le_of_ble_eq_true rfl) (Nat.le_of_ble_eq_true rfl) dX7_init_56 (fun zA15 zE15 zH15 za15 zg15 zf15 zw15 => ?_)
  have zk15_0 : zE15 N = .inr (2, [.ref (zA15 (N + 1)), .ref (zA15 (N + 2)), .int (nI 0), .int (nI 0), .int (nI 0), .int (nI 0), .int (nI 0), .int (nI 0)]) := (zf15 _ (by omega)).trans (zk14_0.trans (by rw [za15 ((N + 1)) (by omega), za15 ((N + 2)) (by omega)]))
  have zk15_1 : zE15 (N + 1) = eI G 500 zzc2 := (zf15 _ (by omega)).trans zk14_1
  have zk15_2 : zE15 (N + 2) = eI G 4 zzo2 := (zf15 _ (by omega)).trans zk14_2
  have zk15_3 : zE15 (N + 3) = .inr (3, [.ref (zA15 (N + 4)), .int (nI 0), .int (nI 0)]) := (zf15 _ (by omega)).trans (zk14_3.trans (by rw [za15 ((N + 4)) (by omega)]))
  have zk15_4 : zE15 (N + 54) = .inr (2, [.ref (zA15 (N + 55)), .ref (zA15 (N + 56)), .int (nI 0), .int (nI 0), .int (nI 0), .int (nI 0), .int (nI 0), .int (nI 0)]) := (zf15 _ (by omega)).trans (zk14_4.trans (by rw [za15 ((N + 55)) (by omega), za15 ((N + 56)) (by omega)]))
  have zk15_5 : zE15 (N + 55) = eI G 500 zzc9 := (zf15 _ (by omega)).trans zk14_5
  have zk15_6 : zE15 (N + 56) = eI G 4 zzo9 := (zf15 _ (by omega)).trans zk14_6
  have zk15_7 : zE15 (N + 57) = .inr (2, [.ref (zA15 (N + 58)), .ref (zA15 (N + 59)), .int (nI 0), .int (nI 0), .int (nI 0), .int (nI 0), .int (nI 0), .int (nI 0)]) := (zf15 _ (by omega)).trans (zk14_7.trans (by rw [za15 ((N + 58)) (by omega), za15 ((N + 59)) (by omega)]))
  have zk15_8 : zE15 (N + 58) = eI G 500 zzc12 := (zf15 _ (by omega)).trans zk14_8
  have zk15_9 : zE15 (N + 59) = eI G 4 zzo12 := (zf15 _ (by omega)).trans zk14_9
  have zk15_10 : zE15 (N + 53) = eR G 2 (va_up (va_up (fun _ => none) (0) (some (zA15 (N + 54)))) (1) (some (zA15 (N + 57)))) := (zf15 _ (by omega)).trans (zk14_10.trans (by rw [za15 ((N + 54)) (by omega), za15 ((N + 57)) (by omega)]))
  have zk15_11 : zE15 i = .inr (4, [.ref (zA15 N), .ref (zA15 (N + 3)), .ref (zA15 (N + 53)), .null, .null, .null, .null, .null, .int (nI 0)]) := (zf15 _ (by omega)).trans (zh14_0.trans (by rw [za15 (N) (by omega), za15 ((N + 3)) (by omega), za15 ((N + 53)) (by omega)]))
  have zh15_0 : zE15 (N + 60) = eZ G 2 (fun _ => nI 0) := zg15
  have zfr15 : ∀ j, j < N → j ≠ i → zE15 j = E j := fun j zm0 zm1 => (zf15 j (by omega) ).trans (zfr14 j zm0 zm1)
  have zag15 : ∀ j, j < N → zA15 j = ad j := fun j hj => (za15 j (by omega)).trans (zag12 j hj)
  have zy15_rg : Ring G zA15 zE15 (N + 3) pb 0 := zy14_rg.move (fun j zj1 zj2 => za15 j (by omega)) (fun j zj1 zj2 => zf15 j (by omega) )
  have hl : lv_has ls 1 [(0, .ref (zA15 i))] := by rw [za15 (i) (by omega)]; exact hl
  refine r_stk (st2 := [.ref (zA15 ((N + 60))), .ref (zA15 i)]) (by rw [za15 (i) (by omega)]) ?_
  refine r_putF C hnam zw15 RX7 TX7 9 4 hinX7 tyX7 tyX7_ok nmX7 (i := i) (by omega) zk15_11 rfl 3 (by decide) (by decide +kernel) rfl rfl rfl (v := .ref (zA15 (N + 60))) rfl rfl (Nat.le_of_ble_eq_true rfl) dX7_init_58 (fun zE16 zH16 zL16 zg16 zf16 zw16 => ?_)
  have zh16_0 : zE16 i = .inr (4, [.ref (zA15 N), .ref (zA15 (N + 3)), .ref (zA15 (N + 53)), .ref (zA15 (N + 60)), .null, .null, .null, .null, .int (nI 0)]) := zg16
  have zk16_0 : zE16 N = .inr (2, [.ref (zA15 (N + 1)), .ref (zA15 (N + 2)), .int (nI 0), .int (nI 0), .int (nI 0), .int (nI 0), .int (nI 0), .int (nI 0)]) := (zf16 _ (by omega)).trans zk15_0
  have zk16_1 : zE16 (N + 1) = eI G 500 zzc2 := (zf16 _ (by omega)).trans zk15_1
  have zk16_2 : zE16 (N + 2) = eI G 4 zzo2 := (zf16 _ (by omega)).trans zk15_2
  have zk16_3 : zE16 (N + 3) = .inr (3, [.ref (zA15 (N + 4)), .int (nI 0), .int (nI 0)]) := (zf16 _ (by omega)).trans zk15_3
  have zk16_4 : zE16 (N + 54) = .inr (2, [.ref (zA15 (N + 55)), .ref (zA15 (N + 56)), .int (nI 0), .int (nI 0), .int (nI 0), .int (nI 0), .int (nI 0), .int (nI 0)]) := (zf16 _ (by omega)).trans zk15_4
  have zk16_5 : zE16 (N + 55) = eI G 500 zzc9 := (zf16 _ (by omega)).trans zk15_5
  have zk16_6 : zE16 (N + 56) = eI G 4 zzo9 := (zf16 _ (by omega)).trans zk15_6
  have zk16_7 : zE16 (N + 57) = .inr (2, [.ref (zA15 (N + 58)), .ref (zA15 (N + 59)), .int (nI 0), .int (nI 0), .int (nI 0), .int (nI 0), .int (nI 0), .int (nI 0)]) := (zf16 _ (by omega)).trans zk15_7
  have zk16_8 : zE16 (N + 58) = eI G 500 zzc12 := (zf16 _ (by omega)).trans zk15_8
  have zk16_9 : zE16 (N + 59) = eI G 4 zzo12 := (zf16 _ (by omega)).trans zk15_9
  have zk16_10 : zE16 (N + 53) = eR G 2 (va_up (va_up (fun _ => none) (0) (some (zA15 (N + 54)))) (1) (some (zA15 (N + 57)))) := (zf16 _ (by omega)).trans zk15_10
  have zk16_11 : zE16 (N + 60) = eZ G 2 (fun _ => nI 0) := (zf16 _ (by omega)).trans zh15_0
  have zfr16 : ∀ j, j < N → j ≠ i → zE16 j = E j := fun j zm0 zm1 => (zf16 j zm1).trans (zfr15 j zm0 zm1)
  have zy16_rg : Ring G zA15 zE16 (N + 3) pb 0 := zy15_rg.same (fun j zj1 zj2 => zf16 j (by omega))
  refine lv_aload_n hx hb dX7_init_61 rfl (lv_at hl 0 rfl) ?_
  refine r_new C zw16 (C0 := RX2) (T := TX2) (n := 5) (ci := 0) (by decide +kernel) tyX2 tyX2_ok (by decide +kernel) (by decide +kernel) (by decide +kernel) rfl (fs := [.null, .null, .null, .null, .int (nI 0)]) (fun j hj => by rcases (show j = 0 ∨ j = 1 ∨ j = 2 ∨ j = 3 ∨ j = 4 by omega) with rfl | rfl | rfl | rfl | rfl <;> rfl) (Nat.le_of_ble_eq_true rfl) (Nat.le_of_ble_eq_true rfl) dX7_init_62 (fun zA17 zE17 zH17 za17 zg17 zf17 zw17 => ?_)
  have zk17_0 : zE17 N = .inr (2, [.ref (zA17 (N + 1)), .ref (zA17 (N + 2)), .int (nI 0), .int (nI 0), .int (nI 0), .int (nI 0), .int (nI 0), .int (nI 0)]) := (zf17 _ (by omega)).trans (zk16_0.trans (by rw [za17 ((N + 1)) (by omega), za17 ((N + 2)) (by omega)]))
  have zk17_1 : zE17 (N + 1) = eI G 500 zzc2 := (zf17 _ (by omega)).trans zk16_1
  have zk17_2 : zE17 (N + 2) = eI G 4 zzo2 := (zf17 _ (by omega)).trans zk16_2
  have zk17_3 : zE17 (N + 3) = .inr (3, [.ref (zA17 (N + 4)), .int (nI 0), .int (nI 0)]) := (zf17 _ (by omega)).trans (zk16_3.trans (by rw [za17 ((N + 4)) (by omega)]))
  have zk17_4 : zE17 (N + 54) = .inr (2, [.ref (zA17 (N + 55)), .ref (zA17 (N + 56)), .int (nI 0), .int (nI 0), .int (nI 0), .int (nI 0), .int (nI 0), .int (nI 0)]) := (zf17 _ (by omega)).trans (zk16_4.trans (by rw [za17 ((N + 55)) (by omega), za17 ((N + 56)) (by omega)]))
  have zk17_5 : zE17 (N + 55) = eI G 500 zzc9 := (zf17 _ (by omega)).trans zk16_5
  have zk17_6 : zE17 (N + 56) = eI G 4 zzo9 := (zf17 _ (by omega)).trans zk16_6
  have zk17_7 : zE17 (N + 57) = .inr (2, [.ref (zA17 (N + 58)), .ref (zA17 (N + 59)), .int (nI 0), .int (nI 0), .int (nI 0), .int (nI 0), .int (nI 0), .int (nI 0)]) := (zf17 _ (by omega)).trans (zk16_7.trans (by rw [za17 ((N + 58)) (by omega), za17 ((N + 59)) (by omega)]))
  have zk17_8 : zE17 (N + 58) = eI G 500 zzc12 := (zf17 _ (by omega)).trans zk16_8
  have zk17_9 : zE17 (N + 59) = eI G 4 zzo12 := (zf17 _ (by omega)).trans zk16_9
  have zk17_10 : zE17 (N + 53) = eR G 2 (va_up (va_up (fun _ => none) (0) (some (zA17 (N + 54)))) (1) (some (zA17 (N + 57)))) := (zf17 _ (by omega)).trans (zk16_10.trans (by rw [za17 ((N + 54)) (by omega), za17 ((N + 57)) (by omega)]))
  have zk17_11 : zE17 (N + 60) = eZ G 2 (fun _ => nI 0) := (zf17 _ (by omega)).trans zk16_11
  have zk17_12 : zE17 i = .inr (4, [.ref (zA17 N), .ref (zA17 (N + 3)), .ref (zA17 (N + 53)), .ref (zA17 (N + 60)), .null, .null, .null, .null, .int (nI 0)]) := (zf17 _ (by omega)).trans (zh16_0.trans (by rw [za17 (N) (by omega), za17 ((N + 3)) (by omega), za17 ((N + 53)) (by omega), za17 ((N + 60)) (by omega)]))
  have zh17_0 : zE17 (N + 61) = .inr (0, [.null, .null, .null, .null, .int (nI 0)]) := zg17
  have zfr17 : ∀ j, j < N → j ≠ i → zE17 j = E j := fun j zm0 zm1 => (zf17 j (by omega) ).trans (zfr16 j zm0 zm1)
  have zag17 : ∀ j, j < N → zA17 j = ad j := fun j hj => (za17 j (by omega)).trans (zag15 j hj)
  have zy17_rg : Ring G zA17 zE17 (N + 3) pb 0 := zy16_rg.move (fun j zj1 zj2 => za17 j (by omega)) (fun j zj1 zj2 => zf17 j (by omega) )
  have hl : lv_has ls 1 [(0, .ref (zA17 i))] := by rw [za17 (i) (by omega)]; exact hl
  refine r_stk (st2 := [.ref (zA17 ((N + 61))), .ref (zA17 i)]) (by rw [za17 (i) (by omega)]) ?_
  refine lv_dup hx hb dX7_init_65 rfl ?_
  refine r_ctorN C hAO zw17 hl.1 (c_X2_init (l := l) (G := G) (tC := tC) (ad := zA17) (N := (N + 62)) (E := zE17) (i := (N + 61)) (by omega) zh17_0 ) C.2.2.2.2.2.2.1.2.2.2.2.2.1 gX7_init_X2_init_n33 rfl ⟨rfl, rfl⟩ (by decide +kernel) (by decide +kernel) rfl (by decide +kernel) ⟨Nat.le_of_ble_eq_true rfl, Nat.le_of_ble_eq_true rfl⟩ (Nat.le_of_ble_eq_true rfl) dX7_init_66 ⟨Nat.le_of_ble_eq_true rfl, Nat.le_of_ble_eq_true rfl⟩ (fun zA18 zE18 zH18 zL18 za18 zp18 zw18 => ?_)
  obtain ⟨zg18_0, zg18_1, zg18_2, zg18_3, zg18_4, zf18⟩ := zp18
  have zk18_0 : zE18 N = .inr (2, [.ref (zA18 (N + 1)), .ref (zA18 (N + 2)), .int (nI 0), .int (nI 0), .int (nI 0), .int (nI 0), .int (nI 0), .int (nI 0)]) := (zf18 _ (by omega) (by omega)).trans (zk17_0.trans (by rw [za18 ((N + 1)) (by omega), za18 ((N + 2)) (by omega)]))
  have zk18_1 : zE18 (N + 1) = eI G 500 zzc2 := (zf18 _ (by omega) (by omega)).trans zk17_1
  have zk18_2 : zE18 (N + 2) = eI G 4 zzo2 := (zf18 _ (by omega) (by omega)).trans zk17_2
  have zk18_3 : zE18 (N + 3) = .inr (3, [.ref (zA18 (N + 4)), .int (nI 0), .int (nI 0)]) := (zf18 _ (by omega) (by omega)).trans (zk17_3.trans (by rw [za18 ((N + 4)) (by omega)]))
  have zk18_4 : zE18 (N + 54) = .inr (2, [.ref (zA18 (N + 55)), .ref (zA18 (N + 56)), .int (nI 0), .int (nI 0), .int (nI 0), .int (nI 0), .int (nI 0), .int (nI 0)]) := (zf18 _ (by omega) (by omega)).trans (zk17_4.trans (by rw [za18 ((N + 55)) (by omega), za18 ((N + 56)) (by omega)]))
  have zk18_5 : zE18 (N + 55) = eI G 500 zzc9 := (zf18 _ (by omega) (by omega)).trans zk17_5
  have zk18_6 : zE18 (N + 56) = eI G 4 zzo9 := (zf18 _ (by omega) (by omega)).trans zk17_6
  have zk18_7 : zE18 (N + 57) = .inr (2, [.ref (zA18 (N + 58)), .ref (zA18 (N + 59)), .int (nI 0), .int (nI 0), .int (nI 0), .int (nI 0), .int (nI 0), .int (nI 0)]) := (zf18 _ (by omega) (by omega)).trans (zk17_7.trans (by rw [za18 ((N + 58)) (by omega), za18 ((N + 59)) (by omega)]))
  have zk18_8 : zE18 (N + 58) = eI G 500 zzc12 := (zf18 _ (by omega) (by omega)).trans zk17_8
  have zk18_9 : zE18 (N + 59) = eI G 4 zzo12 := (zf18 _ (by omega) (by omega)).trans zk17_9
  have zk18_10 : zE18 (N + 53) = eR G 2 (va_up (va_up (fun _ => none) (0) (some (zA18 (N + 54)))) (1) (some (zA18 (N + 57)))) := (zf18 _ (by omega) (by omega)).trans (zk17_10.trans (by rw [za18 ((N + 54)) (by omega), za18 ((N + 57)) (by omega)]))
  have zk18_11 : zE18 (N + 60) = eZ G 2 (fun _ => nI 0) := (zf18 _ (by omega) (by omega)).trans zk17_11
  have zk18_12 : zE18 i = .inr (4, [.ref (zA18 N), .ref (zA18 (N + 3)), .ref (zA18 (N + 53)), .ref (zA18 (N + 60)), .null, .null, .null, .null, .int (nI 0)]) := (zf18 _ (by omega) (by omega)).trans (zk17_12.trans (by rw [za18 (N) (by omega), za18 ((N + 3)) (by omega), za18 ((N + 53)) (by omega), za18 ((N + 60)) (by omega)]))
  have zh18_0 : zE18 (N + 61) = .inr (0, [.ref (zA18 (N + 62)), .ref (zA18 (N + 63)), .ref (zA18 (N + 64)), .ref (zA18 (N + 65)), .int (nI 0)]) := zg18_0
  have zh18_1 : zE18 (N + 62) = eI G 20 (fun _ => nI 0) := zg18_1
  have zh18_2 : zE18 (N + 63) = eI G 20 (fun _ => nI 0) := zg18_2
  have zh18_3 : zE18 (N + 64) = eI G 20 (fun _ => nI 0) := zg18_3
  have zh18_4 : zE18 (N + 65) = eI G 20 (fun _ => nI 0) := zg18_4
  have zfr18 : ∀ j, j < N → j ≠ i → zE18 j = E j := fun j zm0 zm1 => (zf18 j (by omega) (by omega)).trans (zfr17 j zm0 zm1)
  have zag18 : ∀ j, j < N → zA18 j = ad j := fun j hj => (za18 j (by omega)).trans (zag17 j hj)
  have zy18_rg : Ring G zA18 zE18 (N + 3) pb 0 := zy17_rg.move (fun j zj1 zj2 => za18 j (by omega)) (fun j zj1 zj2 => zf18 j (by omega) (by omega))
  have hl : lv_has ls 1 [(0, .ref (zA18 i))] := by rw [za18 (i) (by omega)]; exact hl
  refine r_stk (st2 := [.ref (zA18 (N + 61)), .ref (zA18 i)]) (by rw [za18 ((N + 61)) (by omega), za18 (i) (by omega)]) ?_
  refine r_putF C hnam zw18 RX7 TX7 9 4 hinX7 tyX7 tyX7_ok nmX7 (i := i) (by omega) zk18_12 rfl 4 (by decide) (by decide +kernel) rfl rfl rfl (v := .ref (zA18 (N + 61))) rfl rfl (Nat.le_of_ble_eq_true rfl) dX7_init_69 (fun zE19 zH19 zL19 zg19 zf19 zw19 => ?_)
  have zh19_0 : zE19 i = .inr (4, [.ref (zA18 N), .ref (zA18 (N + 3)), .ref (zA18 (N + 53)), .ref (zA18 (N + 60)), .ref (zA18 (N + 61)), .null, .null, .null, .int (nI 0)]) := zg19
  have zk19_0 : zE19 N = .inr (2, [.ref (zA18 (N + 1)), .ref (zA18 (N + 2)), .int (nI 0), .int (nI 0), .int (nI 0), .int (nI 0), .int (nI 0), .int (nI 0)]) := (zf19 _ (by omega)).trans zk18_0
  have zk19_1 : zE19 (N + 1) = eI G 500 zzc2 := (zf19 _ (by omega)).trans zk18_1
  have zk19_2 : zE19 (N + 2) = eI G 4 zzo2 := (zf19 _ (by omega)).trans zk18_2
  have zk19_3 : zE19 (N + 3) = .inr (3, [.ref (zA18 (N + 4)), .int (nI 0), .int (nI 0)]) := (zf19 _ (by omega)).trans zk18_3
  have zk19_4 : zE19 (N + 54) = .inr (2, [.ref (zA18 (N + 55)), .ref (zA18 (N + 56)), .int (nI 0), .int (nI 0), .int (nI 0), .int (nI 0), .int (nI 0), .int (nI 0)]) := (zf19 _ (by omega)).trans zk18_4
  have zk19_5 : zE19 (N + 55) = eI G 500 zzc9 := (zf19 _ (by omega)).trans zk18_5
  have zk19_6 : zE19 (N + 56) = eI G 4 zzo9 := (zf19 _ (by omega)).trans zk18_6
  have zk19_7 : zE19 (N + 57) = .inr (2, [.ref (zA18 (N + 58)), .ref (zA18 (N + 59)), .int (nI 0), .int (nI 0), .int (nI 0), .int (nI 0), .int (nI 0), .int (nI 0)]) := (zf19 _ (by omega)).trans zk18_7
  have zk19_8 : zE19 (N + 58) = eI G 500 zzc12 := (zf19 _ (by omega)).trans zk18_8
  have zk19_9 : zE19 (N + 59) = eI G 4 zzo12 := (zf19 _ (by omega)).trans zk18_9
  have zk19_10 : zE19 (N + 53) = eR G 2 (va_up (va_up (fun _ => none) (0) (some (zA18 (N + 54)))) (1) (some (zA18 (N + 57)))) := (zf19 _ (by omega)).trans zk18_10
  have zk19_11 : zE19 (N + 60) = eZ G 2 (fun _ => nI 0) := (zf19 _ (by omega)).trans zk18_11
  have zk19_12 : zE19 (N + 61) = .inr (0, [.ref (zA18 (N + 62)), .ref (zA18 (N + 63)), .ref (zA18 (N + 64)), .ref (zA18 (N + 65)), .int (nI 0)]) := (zf19 _ (by omega)).trans zh18_0
  have zk19_13 : zE19 (N + 62) = eI G 20 (fun _ => nI 0) := (zf19 _ (by omega)).trans zh18_1
  have zk19_14 : zE19 (N + 63) = eI G 20 (fun _ => nI 0) := (zf19 _ (by omega)).trans zh18_2
  have zk19_15 : zE19 (N + 64) = eI G 20 (fun _ => nI 0) := (zf19 _ (by omega)).trans zh18_3
  have zk19_16 : zE19 (N + 65) = eI G 20 (fun _ => nI 0) := (zf19 _ (by omega)).trans zh18_4
  have zfr19 : ∀ j, j < N → j ≠ i → zE19 j = E j := fun j zm0 zm1 => (zf19 j zm1).trans (zfr18 j zm0 zm1)
  have zy19_rg : Ring G zA18 zE19 (N + 3) pb 0 := zy18_rg.same (fun j zj1 zj2 => zf19 j (by omega))
  refine lv_aload_n hx hb dX7_init_72 rfl (lv_at hl 0 rfl) ?_
  refine r_new C zw19 (C0 := RX4) (T := TX4) (n := 7) (ci := 1) (by decide +kernel) tyX4 tyX4_ok (by decide +kernel) (by decide +kernel) (by decide +kernel) rfl (fs := [.null, .null, .null, .null, .null, .int (nI 0), .int (nI 0)]) (fun j hj => by rcases (show j = 0 ∨ j = 1 ∨ j = 2 ∨ j = 3 ∨ j = 4 ∨ j = 5 ∨ j = 6 by omega) with rfl | rfl | rfl | rfl | rfl | rfl | rfl <;> rfl) (Nat.le_of_ble_eq_true rfl) (Nat.le_of_ble_eq_true rfl) dX7_init_73 (fun zA20 zE20 zH20 za20 zg20 zf20 zw20 => ?_)
  have zk20_0 : zE20 N = .inr (2, [.ref (zA20 (N + 1)), .ref (zA20 (N + 2)), .int (nI 0), .int (nI 0), .int (nI 0), .int (nI 0), .int (nI 0), .int (nI 0)]) := (zf20 _ (by omega)).trans (zk19_0.trans (by rw [za20 ((N + 1)) (by omega), za20 ((N + 2)) (by omega)]))
  have zk20_1 : zE20 (N + 1) = eI G 500 zzc2 := (zf20 _ (by omega)).trans zk19_1
  have zk20_2 : zE20 (N + 2) = eI G 4 zzo2 := (zf20 _ (by omega)).trans zk19_2
  have zk20_3 : zE20 (N + 3) = .inr (3, [.ref (zA20 (N + 4)), .int (nI 0), .int (nI 0)]) := (zf20 _ (by omega)).trans (zk19_3.trans (by rw [za20 ((N + 4)) (by omega)]))
  have zk20_4 : zE20 (N + 54) = .inr (2, [.ref (zA20 (N + 55)), .ref (zA20 (N + 56)), .int (nI 0), .int (nI 0), .int (nI 0), .int (nI 0), .int (nI 0), .int (nI 0)]) := (zf20 _ (by omega)).trans (zk19_4.trans (by rw [za20 ((N + 55)) (by omega), za20 ((N + 56)) (by omega)]))
  have zk20_5 : zE20 (N + 55) = eI G 500 zzc9 := (zf20 _ (by omega)).trans zk19_5
  have zk20_6 : zE20 (N + 56) = eI G 4 zzo9 := (zf20 _ (by omega)).trans zk19_6
  have zk20_7 : zE20 (N + 57) = .inr (2, [.ref (zA20 (N + 58)), .ref (zA20 (N + 59)), .int (nI 0), .int (nI 0), .int (nI 0), .int (nI 0), .int (nI 0), .int (nI 0)]) := (zf20 _ (by omega)).trans (zk19_7.trans (by rw [za20 ((N + 58)) (by omega), za20 ((N + 59)) (by omega)]))
  have zk20_8 : zE20 (N + 58) = eI G 500 zzc12 := (zf20 _ (by omega)).trans zk19_8
  have zk20_9 : zE20 (N + 59) = eI G 4 zzo12 := (zf20 _ (by omega)).trans zk19_9
  have zk20_10 : zE20 (N + 53) = eR G 2 (va_up (va_up (fun _ => none) (0) (some (zA20 (N + 54)))) (1) (some (zA20 (N + 57)))) := (zf20 _ (by omega)).trans (zk19_10.trans (by rw [za20 ((N + 54)) (by omega), za20 ((N + 57)) (by omega)]))
  have zk20_11 : zE20 (N + 60) = eZ G 2 (fun _ => nI 0) := (zf20 _ (by omega)).trans zk19_11
  have zk20_12 : zE20 (N + 61) = .inr (0, [.ref (zA20 (N + 62)), .ref (zA20 (N + 63)), .ref (zA20 (N + 64)), .ref (zA20 (N + 65)), .int (nI 0)]) := (zf20 _ (by omega)).trans (zk19_12.trans (by rw [za20 ((N + 62)) (by omega), za20 ((N + 63)) (by omega), za20 ((N + 64)) (by omega), za20 ((N + 65)) (by omega)]))
  have zk20_13 : zE20 (N + 62) = eI G 20 (fun _ => nI 0) := (zf20 _ (by omega)).trans zk19_13
  have zk20_14 : zE20 (N + 63) = eI G 20 (fun _ => nI 0) := (zf20 _ (by omega)).trans zk19_14
  have zk20_15 : zE20 (N + 64) = eI G 20 (fun _ => nI 0) := (zf20 _ (by omega)).trans zk19_15
  have zk20_16 : zE20 (N + 65) = eI G 20 (fun _ => nI 0) := (zf20 _ (by omega)).trans zk19_16
  have zk20_17 : zE20 i = .inr (4, [.ref (zA20 N), .ref (zA20 (N + 3)), .ref (zA20 (N + 53)), .ref (zA20 (N + 60)), .ref (zA20 (N + 61)), .null, .null, .null, .int (nI 0)]) := (zf20 _ (by omega)).trans (zh19_0.trans (by rw [za20 (N) (by omega), za20 ((N + 3)) (by omega), za20 ((N + 53)) (by omega), za20 ((N + 60)) (by omega), za20 ((N + 61)) (by omega)]))
  have zh20_0 : zE20 (N + 66) = .inr (1, [.null, .null, .null, .null, .null, .int (nI 0), .int (nI 0)]) := zg20
  have zfr20 : ∀ j, j < N → j ≠ i → zE20 j = E j := fun j zm0 zm1 => (zf20 j (by omega) ).trans (zfr19 j zm0 zm1)
  have zag20 : ∀ j, j < N → zA20 j = ad j := fun j hj => (za20 j (by omega)).trans (zag18 j hj)
  have zy20_rg : Ring G zA20 zE20 (N + 3) pb 0 := zy19_rg.move (fun j zj1 zj2 => za20 j (by omega)) (fun j zj1 zj2 => zf20 j (by omega) )
  have hl : lv_has ls 1 [(0, .ref (zA20 i))] := by rw [za20 (i) (by omega)]; exact hl
  refine r_stk (st2 := [.ref (zA20 ((N + 66))), .ref (zA20 i)]) (by rw [za20 (i) (by omega)]) ?_
  refine lv_dup hx hb dX7_init_76 rfl ?_
  refine r_ctorN C hAO zw20 hl.1 (c_X4_init (l := l) (G := G) (tC := tC) (ad := zA20) (N := (N + 67)) (E := zE20) (i := (N + 66)) (by omega) zh20_0 ) C.2.2.2.2.2.2.1.2.2.2.2.2.2 gX7_init_X4_init_n40 rfl ⟨rfl, rfl⟩ (by decide +kernel) (by decide +kernel) rfl (by decide +kernel) ⟨Nat.le_of_ble_eq_true rfl, Nat.le_of_ble_eq_true rfl⟩ (Nat.le_of_ble_eq_true rfl) dX7_init_77 ⟨Nat.le_of_ble_eq_true rfl, Nat.le_of_ble_eq_true rfl⟩ (fun zA21 zE21 zH21 zL21 za21 zp21 zw21 => ?_)
  obtain ⟨zg21_0, zg21_1, zg21_2, zg21_3, zg21_4, zg21_5, zf21⟩ := zp21
  have zk21_0 : zE21 N = .inr (2, [.ref (zA21 (N + 1)), .ref (zA21 (N + 2)), .int (nI 0), .int (nI 0), .int (nI 0), .int (nI 0), .int (nI 0), .int (nI 0)]) := (zf21 _ (by omega) (by omega)).trans (zk20_0.trans (by rw [za21 ((N + 1)) (by omega), za21 ((N + 2)) (by omega)]))
  have zk21_1 : zE21 (N + 1) = eI G 500 zzc2 := (zf21 _ (by omega) (by omega)).trans zk20_1
  have zk21_2 : zE21 (N + 2) = eI G 4 zzo2 := (zf21 _ (by omega) (by omega)).trans zk20_2
  have zk21_3 : zE21 (N + 3) = .inr (3, [.ref (zA21 (N + 4)), .int (nI 0), .int (nI 0)]) := (zf21 _ (by omega) (by omega)).trans (zk20_3.trans (by rw [za21 ((N + 4)) (by omega)]))
  have zk21_4 : zE21 (N + 54) = .inr (2, [.ref (zA21 (N + 55)), .ref (zA21 (N + 56)), .int (nI 0), .int (nI 0), .int (nI 0), .int (nI 0), .int (nI 0), .int (nI 0)]) := (zf21 _ (by omega) (by omega)).trans (zk20_4.trans (by rw [za21 ((N + 55)) (by omega), za21 ((N + 56)) (by omega)]))
  have zk21_5 : zE21 (N + 55) = eI G 500 zzc9 := (zf21 _ (by omega) (by omega)).trans zk20_5
  have zk21_6 : zE21 (N + 56) = eI G 4 zzo9 := (zf21 _ (by omega) (by omega)).trans zk20_6
  have zk21_7 : zE21 (N + 57) = .inr (2, [.ref (zA21 (N + 58)), .ref (zA21 (N + 59)), .int (nI 0), .int (nI 0), .int (nI 0), .int (nI 0), .int (nI 0), .int (nI 0)]) := (zf21 _ (by omega) (by omega)).trans (zk20_7.trans (by rw [za21 ((N + 58)) (by omega), za21 ((N + 59)) (by omega)]))
  have zk21_8 : zE21 (N + 58) = eI G 500 zzc12 := (zf21 _ (by omega) (by omega)).trans zk20_8
  have zk21_9 : zE21 (N + 59) = eI G 4 zzo12 := (zf21 _ (by omega) (by omega)).trans zk20_9
  have zk21_10 : zE21 (N + 53) = eR G 2 (va_up (va_up (fun _ => none) (0) (some (zA21 (N + 54)))) (1) (some (zA21 (N + 57)))) := (zf21 _ (by omega) (by omega)).trans (zk20_10.trans (by rw [za21 ((N + 54)) (by omega), za21 ((N + 57)) (by omega)]))
  have zk21_11 : zE21 (N + 60) = eZ G 2 (fun _ => nI 0) := (zf21 _ (by omega) (by omega)).trans zk20_11
  have zk21_12 : zE21 (N + 61) = .inr (0, [.ref (zA21 (N + 62)), .ref (zA21 (N + 63)), .ref (zA21 (N + 64)), .ref (zA21 (N + 65)), .int (nI 0)]) := (zf21 _ (by omega) (by omega)).trans (zk20_12.trans (by rw [za21 ((N + 62)) (by omega), za21 ((N + 63)) (by omega), za21 ((N + 64)) (by omega), za21 ((N + 65)) (by omega)]))
  have zk21_13 : zE21 (N + 62) = eI G 20 (fun _ => nI 0) := (zf21 _ (by omega) (by omega)).trans zk20_13
  have zk21_14 : zE21 (N + 63) = eI G 20 (fun _ => nI 0) := (zf21 _ (by omega) (by omega)).trans zk20_14
  have zk21_15 : zE21 (N + 64) = eI G 20 (fun _ => nI 0) := (zf21 _ (by omega) (by omega)).trans zk20_15
  have zk21_16 : zE21 (N + 65) = eI G 20 (fun _ => nI 0) := (zf21 _ (by omega) (by omega)).trans zk20_16
  have zk21_17 : zE21 i = .inr (4, [.ref (zA21 N), .ref (zA21 (N + 3)), .ref (zA21 (N + 53)), .ref (zA21 (N + 60)), .ref (zA21 (N + 61)), .null, .null, .null, .int (nI 0)]) := (zf21 _ (by omega) (by omega)).trans (zk20_17.trans (by rw [za21 (N) (by omega), za21 ((N + 3)) (by omega), za21 ((N + 53)) (by omega), za21 ((N + 60)) (by omega), za21 ((N + 61)) (by omega)]))
  have zh21_0 : zE21 (N + 66) = .inr (1, [.ref (zA21 (N + 67)), .ref (zA21 (N + 68)), .ref (zA21 (N + 69)), .ref (zA21 (N + 70)), .ref (zA21 (N + 71)), .int (nI 0), .int (nI 0)]) := zg21_0
  have zh21_1 : zE21 (N + 67) = eI G 10 (fun _ => nI 0) := zg21_1
  have zh21_2 : zE21 (N + 68) = eI G 10 (fun _ => nI 0) := zg21_2
  have zh21_3 : zE21 (N + 69) = eI G 10 (fun _ => nI 0) := zg21_3
  have zh21_4 : zE21 (N + 70) = eI G 10 (fun _ => nI 0) := zg21_4
  have zh21_5 : zE21 (N + 71) = eI G 10 (fun _ => nI 0) := zg21_5
  have zfr21 : ∀ j, j < N → j ≠ i → zE21 j = E j := fun j zm0 zm1 => (zf21 j (by omega) (by omega)).trans (zfr20 j zm0 zm1)
  have zag21 : ∀ j, j < N → zA21 j = ad j := fun j hj => (za21 j (by omega)).trans (zag20 j hj)
  have zy21_rg : Ring G zA21 zE21 (N + 3) pb 0 := zy20_rg.move (fun j zj1 zj2 => za21 j (by omega)) (fun j zj1 zj2 => zf21 j (by omega) (by omega))
  have hl : lv_has ls 1 [(0, .ref (zA21 i))] := by rw [za21 (i) (by omega)]; exact hl
  refine r_stk (st2 := [.ref (zA21 (N + 66)), .ref (zA21 i)]) (by rw [za21 ((N + 66)) (by omega), za21 (i) (by omega)]) ?_
  refine r_putF C hnam zw21 RX7 TX7 9 4 hinX7 tyX7 tyX7_ok nmX7 (i := i) (by omega) zk21_17 rfl 5 (by decide) (by decide +kernel) rfl rfl rfl (v := .ref (zA21 (N + 66))) rfl rfl (Nat.le_of_ble_eq_true rfl) dX7_init_80 (fun zE22 zH22 zL22 zg22 zf22 zw22 => ?_)
  have zh22_0 : zE22 i = .inr (4, [.ref (zA21 N), .ref (zA21 (N + 3)), .ref (zA21 (N + 53)), .ref (zA21 (N + 60)), .ref (zA21 (N + 61)), .ref (zA21 (N + 66)), .null, .null, .int (nI 0)]) := zg22
  have zk22_0 : zE22 N = .inr (2, [.ref (zA21 (N + 1)), .ref (zA21 (N + 2)), .int (nI 0), .int (nI 0), .int (nI 0), .int (nI 0), .int (nI 0), .int (nI 0)]) := (zf22 _ (by omega)).trans zk21_0
  have zk22_1 : zE22 (N + 1) = eI G 500 zzc2 := (zf22 _ (by omega)).trans zk21_1
  have zk22_2 : zE22 (N + 2) = eI G 4 zzo2 := (zf22 _ (by omega)).trans zk21_2
  have zk22_3 : zE22 (N + 3) = .inr (3, [.ref (zA21 (N + 4)), .int (nI 0), .int (nI 0)]) := (zf22 _ (by omega)).trans zk21_3
  have zk22_4 : zE22 (N + 54) = .inr (2, [.ref (zA21 (N + 55)), .ref (zA21 (N + 56)), .int (nI 0), .int (nI 0), .int (nI 0), .int (nI 0), .int (nI 0), .int (nI 0)]) := (zf22 _ (by omega)).trans zk21_4
  have zk22_5 : zE22 (N + 55) = eI G 500 zzc9 := (zf22 _ (by omega)).trans zk21_5
  have zk22_6 : zE22 (N + 56) = eI G 4 zzo9 := (zf22 _ (by omega)).trans zk21_6
  have zk22_7 : zE22 (N + 57) = .inr (2, [.ref (zA21 (N + 58)), .ref (zA21 (N + 59)), .int (nI 0), .int (nI 0), .int (nI 0), .int (nI 0), .int (nI 0), .int (nI 0)]) := (zf22 _ (by omega)).trans zk21_7
  have zk22_8 : zE22 (N + 58) = eI G 500 zzc12 := (zf22 _ (by omega)).trans zk21_8
  have zk22_9 : zE22 (N + 59) = eI G 4 zzo12 := (zf22 _ (by omega)).trans zk21_9
  have zk22_10 : zE22 (N + 53) = eR G 2 (va_up (va_up (fun _ => none) (0) (some (zA21 (N + 54)))) (1) (some (zA21 (N + 57)))) := (zf22 _ (by omega)).trans zk21_10
  have zk22_11 : zE22 (N + 60) = eZ G 2 (fun _ => nI 0) := (zf22 _ (by omega)).trans zk21_11
  have zk22_12 : zE22 (N + 61) = .inr (0, [.ref (zA21 (N + 62)), .ref (zA21 (N + 63)), .ref (zA21 (N + 64)), .ref (zA21 (N + 65)), .int (nI 0)]) := (zf22 _ (by omega)).trans zk21_12
  have zk22_13 : zE22 (N + 62) = eI G 20 (fun _ => nI 0) := (zf22 _ (by omega)).trans zk21_13
  have zk22_14 : zE22 (N + 63) = eI G 20 (fun _ => nI 0) := (zf22 _ (by omega)).trans zk21_14
  have zk22_15 : zE22 (N + 64) = eI G 20 (fun _ => nI 0) := (zf22 _ (by omega)).trans zk21_15
  have zk22_16 : zE22 (N + 65) = eI G 20 (fun _ => nI 0) := (zf22 _ (by omega)).trans zk21_16
  have zk22_17 : zE22 (N + 66) = .inr (1, [.ref (zA21 (N + 67)), .ref (zA21 (N + 68)), .ref (zA21 (N + 69)), .ref (zA21 (N + 70)), .ref (zA21 (N + 71)), .int (nI 0), .int (nI 0)]) := (zf22 _ (by omega)).trans zh21_0
  have zk22_18 : zE22 (N + 67) = eI G 10 (fun _ => nI 0) := (zf22 _ (by omega)).trans zh21_1
  have zk22_19 : zE22 (N + 68) = eI G 10 (fun _ => nI 0) := (zf22 _ (by omega)).trans zh21_2
  have zk22_20 : zE22 (N + 69) = eI G 10 (fun _ => nI 0) := (zf22 _ (by omega)).trans zh21_3
  have zk22_21 : zE22 (N + 70) = eI G 10 (fun _ => nI 0) := (zf22 _ (by omega)).trans zh21_4
  have zk22_22 : zE22 (N + 71) = eI G 10 (fun _ => nI 0) := (zf22 _ (by omega)).trans zh21_5
  have zfr22 : ∀ j, j < N → j ≠ i → zE22 j = E j := fun j zm0 zm1 => (zf22 j zm1).trans (zfr21 j zm0 zm1)
  have zy22_rg : Ring G zA21 zE22 (N + 3) pb 0 := zy21_rg.same (fun j zj1 zj2 => zf22 j (by omega))
  refine lv_aload_n hx hb dX7_init_83 rfl (lv_at hl 0 rfl) ?_
  refine lv_bipush (v := nI 10) hx hb dX7_init_84 rfl ?_
  refine r_newI C zw22 (n := 10) (by decide +kernel) (by decide) (Nat.le_of_ble_eq_true rfl) (Nat.le_of_ble_eq_true rfl) dX7_init_86 (fun zA23 zE23 zH23 za23 zg23 zf23 zw23 => ?_)
  have zk23_0 : zE23 N = .inr (2, [.ref (zA23 (N + 1)), .ref (zA23 (N + 2)), .int (nI 0), .int (nI 0), .int (nI 0), .int (nI 0), .int (nI 0), .int (nI 0)]) := (zf23 _ (by omega)).trans (zk22_0.trans (by rw [za23 ((N + 1)) (by omega), za23 ((N + 2)) (by omega)]))
  have zk23_1 : zE23 (N + 1) = eI G 500 zzc2 := (zf23 _ (by omega)).trans zk22_1
  have zk23_2 : zE23 (N + 2) = eI G 4 zzo2 := (zf23 _ (by omega)).trans zk22_2
  have zk23_3 : zE23 (N + 3) = .inr (3, [.ref (zA23 (N + 4)), .int (nI 0), .int (nI 0)]) := (zf23 _ (by omega)).trans (zk22_3.trans (by rw [za23 ((N + 4)) (by omega)]))
  have zk23_4 : zE23 (N + 54) = .inr (2, [.ref (zA23 (N + 55)), .ref (zA23 (N + 56)), .int (nI 0), .int (nI 0), .int (nI 0), .int (nI 0), .int (nI 0), .int (nI 0)]) := (zf23 _ (by omega)).trans (zk22_4.trans (by rw [za23 ((N + 55)) (by omega), za23 ((N + 56)) (by omega)]))
  have zk23_5 : zE23 (N + 55) = eI G 500 zzc9 := (zf23 _ (by omega)).trans zk22_5
  have zk23_6 : zE23 (N + 56) = eI G 4 zzo9 := (zf23 _ (by omega)).trans zk22_6
  have zk23_7 : zE23 (N + 57) = .inr (2, [.ref (zA23 (N + 58)), .ref (zA23 (N + 59)), .int (nI 0), .int (nI 0), .int (nI 0), .int (nI 0), .int (nI 0), .int (nI 0)]) := (zf23 _ (by omega)).trans (zk22_7.trans (by rw [za23 ((N + 58)) (by omega), za23 ((N + 59)) (by omega)]))
  have zk23_8 : zE23 (N + 58) = eI G 500 zzc12 := (zf23 _ (by omega)).trans zk22_8
  have zk23_9 : zE23 (N + 59) = eI G 4 zzo12 := (zf23 _ (by omega)).trans zk22_9
  have zk23_10 : zE23 (N + 53) = eR G 2 (va_up (va_up (fun _ => none) (0) (some (zA23 (N + 54)))) (1) (some (zA23 (N + 57)))) := (zf23 _ (by omega)).trans (zk22_10.trans (by rw [za23 ((N + 54)) (by omega), za23 ((N + 57)) (by omega)]))
  have zk23_11 : zE23 (N + 60) = eZ G 2 (fun _ => nI 0) := (zf23 _ (by omega)).trans zk22_11
  have zk23_12 : zE23 (N + 61) = .inr (0, [.ref (zA23 (N + 62)), .ref (zA23 (N + 63)), .ref (zA23 (N + 64)), .ref (zA23 (N + 65)), .int (nI 0)]) := (zf23 _ (by omega)).trans (zk22_12.trans (by rw [za23 ((N + 62)) (by omega), za23 ((N + 63)) (by omega), za23 ((N + 64)) (by omega), za23 ((N + 65)) (by omega)]))
  have zk23_13 : zE23 (N + 62) = eI G 20 (fun _ => nI 0) := (zf23 _ (by omega)).trans zk22_13
  have zk23_14 : zE23 (N + 63) = eI G 20 (fun _ => nI 0) := (zf23 _ (by omega)).trans zk22_14
  have zk23_15 : zE23 (N + 64) = eI G 20 (fun _ => nI 0) := (zf23 _ (by omega)).trans zk22_15
  have zk23_16 : zE23 (N + 65) = eI G 20 (fun _ => nI 0) := (zf23 _ (by omega)).trans zk22_16
  have zk23_17 : zE23 (N + 66) = .inr (1, [.ref (zA23 (N + 67)), .ref (zA23 (N + 68)), .ref (zA23 (N + 69)), .ref (zA23 (N + 70)), .ref (zA23 (N + 71)), .int (nI 0), .int (nI 0)]) := (zf23 _ (by omega)).trans (zk22_17.trans (by rw [za23 ((N + 67)) (by omega), za23 ((N + 68)) (by omega), za23 ((N + 69)) (by omega), za23 ((N + 70)) (by omega), za23 ((N + 71)) (by omega)]))
  have zk23_18 : zE23 (N + 67) = eI G 10 (fun _ => nI 0) := (zf23 _ (by omega)).trans zk22_18
  have zk23_19 : zE23 (N + 68) = eI G 10 (fun _ => nI 0) := (zf23 _ (by omega)).trans zk22_19
  have zk23_20 : zE23 (N + 69) = eI G 10 (fun _ => nI 0) := (zf23 _ (by omega)).trans zk22_20
  have zk23_21 : zE23 (N + 70) = eI G 10 (fun _ => nI 0) := (zf23 _ (by omega)).trans zk22_21
  have zk23_22 : zE23 (N + 71) = eI G 10 (fun _ => nI 0) := (zf23 _ (by omega)).trans zk22_22
  have zk23_23 : zE23 i = .inr (4, [.ref (zA23 N), .ref (zA23 (N + 3)), .ref (zA23 (N + 53)), .ref (zA23 (N + 60)), .ref (zA23 (N + 61)), .ref (zA23 (N + 66)), .null, .null, .int (nI 0)]) := (zf23 _ (by omega)).trans (zh22_0.trans (by rw [za23 (N) (by omega), za23 ((N + 3)) (by omega), za23 ((N + 53)) (by omega), za23 ((N + 60)) (by omega), za23 ((N + 61)) (by omega), za23 ((N + 66)) (by omega)]))
  have zh23_0 : zE23 (N + 72) = eI G 10 (fun _ => nI 0) := zg23
  have zfr23 : ∀ j, j < N → j ≠ i → zE23 j = E j := fun j zm0 zm1 => (zf23 j (by omega) ).trans (zfr22 j zm0 zm1)
  have zag23 : ∀ j, j < N → zA23 j = ad j := fun j hj => (za23 j (by omega)).trans (zag21 j hj)
  have zy23_rg : Ring G zA23 zE23 (N + 3) pb 0 := zy22_rg.move (fun j zj1 zj2 => za23 j (by omega)) (fun j zj1 zj2 => zf23 j (by omega) )
  have hl : lv_has ls 1 [(0, .ref (zA23 i))] := by rw [za23 (i) (by omega)]; exact hl
  refine r_stk (st2 := [.ref (zA23 ((N + 72))), .ref (zA23 i)]) (by rw [za23 (i) (by omega)]) ?_
  refine r_putF C hnam zw23 RX7 TX7 9 4 hinX7 tyX7 tyX7_ok nmX7 (i := i) (by omega) zk23_23 rfl 6 (by decide) (by decide +kernel) rfl rfl rfl (v := .ref (zA23 (N + 72))) rfl rfl (Nat.le_of_ble_eq_true rfl) dX7_init_88 (fun zE24 zH24 zL24 zg24 zf24 zw24 => ?_)
  have zh24_0 : zE24 i = .inr (4, [.ref (zA23 N), .ref (zA23 (N + 3)), .ref (zA23 (N + 53)), .ref (zA23 (N + 60)), .ref (zA23 (N + 61)), .ref (zA23 (N + 66)), .ref (zA23 (N + 72)), .null, .int (nI 0)]) := zg24
  have zk24_0 : zE24 N = .inr (2, [.ref (zA23 (N + 1)), .ref (zA23 (N + 2)), .int (nI 0), .int (nI 0), .int (nI 0), .int (nI 0), .int (nI 0), .int (nI 0)]) := (zf24 _ (by omega)).trans zk23_0
  have zk24_1 : zE24 (N + 1) = eI G 500 zzc2 := (zf24 _ (by omega)).trans zk23_1
  have zk24_2 : zE24 (N + 2) = eI G 4 zzo2 := (zf24 _ (by omega)).trans zk23_2
  have zk24_3 : zE24 (N + 3) = .inr (3, [.ref (zA23 (N + 4)), .int (nI 0), .int (nI 0)]) := (zf24 _ (by omega)).trans zk23_3
  have zk24_4 : zE24 (N + 54) = .inr (2, [.ref (zA23 (N + 55)), .ref (zA23 (N + 56)), .int (nI 0), .int (nI 0), .int (nI 0), .int (nI 0), .int (nI 0), .int (nI 0)]) := (zf24 _ (by omega)).trans zk23_4
  have zk24_5 : zE24 (N + 55) = eI G 500 zzc9 := (zf24 _ (by omega)).trans zk23_5
  have zk24_6 : zE24 (N + 56) = eI G 4 zzo9 := (zf24 _ (by omega)).trans zk23_6
  have zk24_7 : zE24 (N + 57) = .inr (2, [.ref (zA23 (N + 58)), .ref (zA23 (N + 59)), .int (nI 0), .int (nI 0), .int (nI 0), .int (nI 0), .int (nI 0), .int (nI 0)]) := (zf24 _ (by omega)).trans zk23_7
  have zk24_8 : zE24 (N + 58) = eI G 500 zzc12 := (zf24 _ (by omega)).trans zk23_8
  have zk24_9 : zE24 (N + 59) = eI G 4 zzo12 := (zf24 _ (by omega)).trans zk23_9
  have zk24_10 : zE24 (N + 53) = eR G 2 (va_up (va_up (fun _ => none) (0) (some (zA23 (N + 54)))) (1) (some (zA23 (N + 57)))) := (zf24 _ (by omega)).trans zk23_10
  have zk24_11 : zE24 (N + 60) = eZ G 2 (fun _ => nI 0) := (zf24 _ (by omega)).trans zk23_11
  have zk24_12 : zE24 (N + 61) = .inr (0, [.ref (zA23 (N + 62)), .ref (zA23 (N + 63)), .ref (zA23 (N + 64)), .ref (zA23 (N + 65)), .int (nI 0)]) := (zf24 _ (by omega)).trans zk23_12
  have zk24_13 : zE24 (N + 62) = eI G 20 (fun _ => nI 0) := (zf24 _ (by omega)).trans zk23_13
  have zk24_14 : zE24 (N + 63) = eI G 20 (fun _ => nI 0) := (zf24 _ (by omega)).trans zk23_14
  have zk24_15 : zE24 (N + 64) = eI G 20 (fun _ => nI 0) := (zf24 _ (by omega)).trans zk23_15
  have zk24_16 : zE24 (N + 65) = eI G 20 (fun _ => nI 0) := (zf24 _ (by omega)).trans zk23_16
  have zk24_17 : zE24 (N + 66) = .inr (1, [.ref (zA23 (N + 67)), .ref (zA23 (N + 68)), .ref (zA23 (N + 69)), .ref (zA23 (N + 70)), .ref (zA23 (N + 71)), .int (nI 0), .int (nI 0)]) := (zf24 _ (by omega)).trans zk23_17
  have zk24_18 : zE24 (N + 67) = eI G 10 (fun _ => nI 0) := (zf24 _ (by omega)).trans zk23_18
  have zk24_19 : zE24 (N + 68) = eI G 10 (fun _ => nI 0) := (zf24 _ (by omega)).trans zk23_19
  have zk24_20 : zE24 (N + 69) = eI G 10 (fun _ => nI 0) := (zf24 _ (by omega)).trans zk23_20
  have zk24_21 : zE24 (N + 70) = eI G 10 (fun _ => nI 0) := (zf24 _ (by omega)).trans zk23_21
  have zk24_22 : zE24 (N + 71) = eI G 10 (fun _ => nI 0) := (zf24 _ (by omega)).trans zk23_22
  have zk24_23 : zE24 (N + 72) = eI G 10 (fun _ => nI 0) := (zf24 _ (by omega)).trans zh23_0
  have zfr24 : ∀ j, j < N → j ≠ i → zE24 j = E j := fun j zm0 zm1 => (zf24 j zm1).trans (zfr23 j zm0 zm1)
  have zy24_rg : Ring G zA23 zE24 (N + 3) pb 0 := zy23_rg.same (fun j zj1 zj2 => zf24 j (by omega))
  refine lv_aload_n hx hb dX7_init_91 rfl (lv_at hl 0 rfl) ?_
  refine lv_bipush (v := nI 10) hx hb dX7_init_92 rfl ?_
  refine r_newI C zw24 (n := 10) (by decide +kernel) (by decide) (Nat.le_of_ble_eq_true rfl) (Nat.le_of_ble_eq_true rfl) dX7_init_94 (fun zA25 zE25 zH25 za25 zg25 zf25 zw25 => ?_)
  have zk25_0 : zE25 N = .inr (2, [.ref (zA25 (N + 1)), .ref (zA25 (N + 2)), .int (nI 0), .int (nI 0), .int (nI 0), .int (nI 0), .int (nI 0), .int (nI 0)]) := (zf25 _ (by omega)).trans (zk24_0.trans (by rw [za25 ((N + 1)) (by omega), za25 ((N + 2)) (by omega)]))
  have zk25_1 : zE25 (N + 1) = eI G 500 zzc2 := (zf25 _ (by omega)).trans zk24_1
  have zk25_2 : zE25 (N + 2) = eI G 4 zzo2 := (zf25 _ (by omega)).trans zk24_2
  have zk25_3 : zE25 (N + 3) = .inr (3, [.ref (zA25 (N + 4)), .int (nI 0), .int (nI 0)]) := (zf25 _ (by omega)).trans (zk24_3.trans (by rw [za25 ((N + 4)) (by omega)]))
  have zk25_4 : zE25 (N + 54) = .inr (2, [.ref (zA25 (N + 55)), .ref (zA25 (N + 56)), .int (nI 0), .int (nI 0), .int (nI 0), .int (nI 0), .int (nI 0), .int (nI 0)]) := (zf25 _ (by omega)).trans (zk24_4.trans (by rw [za25 ((N + 55)) (by omega), za25 ((N + 56)) (by omega)]))
  have zk25_5 : zE25 (N + 55) = eI G 500 zzc9 := (zf25 _ (by omega)).trans zk24_5
  have zk25_6 : zE25 (N + 56) = eI G 4 zzo9 := (zf25 _ (by omega)).trans zk24_6
  have zk25_7 : zE25 (N + 57) = .inr (2, [.ref (zA25 (N + 58)), .ref (zA25 (N + 59)), .int (nI 0), .int (nI 0), .int (nI 0), .int (nI 0), .int (nI 0), .int (nI 0)]) := (zf25 _ (by omega)).trans (zk24_7.trans (by rw [za25 ((N + 58)) (by omega), za25 ((N + 59)) (by omega)]))
  have zk25_8 : zE25 (N + 58) = eI G 500 zzc12 := (zf25 _ (by omega)).trans zk24_8
  have zk25_9 : zE25 (N + 59) = eI G 4 zzo12 := (zf25 _ (by omega)).trans zk24_9
  have zk25_10 : zE25 (N + 53) = eR G 2 (va_up (va_up (fun _ => none) (0) (some (zA25 (N + 54)))) (1) (some (zA25 (N + 57)))) := (zf25 _ (by omega)).trans (zk24_10.trans (by rw [za25 ((N + 54)) (by omega), za25 ((N + 57)) (by omega)]))
  have zk25_11 : zE25 (N + 60) = eZ G 2 (fun _ => nI 0) := (zf25 _ (by omega)).trans zk24_11
  have zk25_12 : zE25 (N + 61) = .inr (0, [.ref (zA25 (N + 62)), .ref (zA25 (N + 63)), .ref (zA25 (N + 64)), .ref (zA25 (N + 65)), .int (nI 0)]) := (zf25 _ (by omega)).trans (zk24_12.trans (by rw [za25 ((N + 62)) (by omega), za25 ((N + 63)) (by omega), za25 ((N + 64)) (by omega), za25 ((N + 65)) (by omega)]))
  have zk25_13 : zE25 (N + 62) = eI G 20 (fun _ => nI 0) := (zf25 _ (by omega)).trans zk24_13
  have zk25_14 : zE25 (N + 63) = eI G 20 (fun _ => nI 0) := (zf25 _ (by omega)).trans zk24_14
  have zk25_15 : zE25 (N + 64) = eI G 20 (fun _ => nI 0) := (zf25 _ (by omega)).trans zk24_15
  have zk25_16 : zE25 (N + 65) = eI G 20 (fun _ => nI 0) := (zf25 _ (by omega)).trans zk24_16
  have zk25_17 : zE25 (N + 66) = .inr (1, [.ref (zA25 (N + 67)), .ref (zA25 (N + 68)), .ref (zA25 (N + 69)), .ref (zA25 (N + 70)), .ref (zA25 (N + 71)), .int (nI 0), .int (nI 0)]) := (zf25 _ (by omega)).trans (zk24_17.trans (by rw [za25 ((N + 67)) (by omega), za25 ((N + 68)) (by omega), za25 ((N + 69)) (by omega), za25 ((N + 70)) (by omega), za25 ((N + 71)) (by omega)]))
  have zk25_18 : zE25 (N + 67) = eI G 10 (fun _ => nI 0) := (zf25 _ (by omega)).trans zk24_18
  have zk25_19 : zE25 (N + 68) = eI G 10 (fun _ => nI 0) := (zf25 _ (by omega)).trans zk24_19
  have zk25_20 : zE25 (N + 69) = eI G 10 (fun _ => nI 0) := (zf25 _ (by omega)).trans zk24_20
  have zk25_21 : zE25 (N + 70) = eI G 10 (fun _ => nI 0) := (zf25 _ (by omega)).trans zk24_21
  have zk25_22 : zE25 (N + 71) = eI G 10 (fun _ => nI 0) := (zf25 _ (by omega)).trans zk24_22
  have zk25_23 : zE25 (N + 72) = eI G 10 (fun _ => nI 0) := (zf25 _ (by omega)).trans zk24_23
  have zk25_24 : zE25 i = .inr (4, [.ref (zA25 N), .ref (zA25 (N + 3)), .ref (zA25 (N + 53)), .ref (zA25 (N + 60)), .ref (zA25 (N + 61)), .ref (zA25 (N + 66)), .ref (zA25 (N + 72)), .null, .int (nI 0)]) := (zf25 _ (by omega)).trans (zh24_0.trans (by rw [za25 (N) (by omega), za25 ((N + 3)) (by omega), za25 ((N + 53)) (by omega), za25 ((N + 60)) (by omega), za25 ((N + 61)) (by omega), za25 ((N + 66)) (by omega), za25 ((N + 72)) (by omega)]))
  have zh25_0 : zE25 (N + 73) = eI G 10 (fun _ => nI 0) := zg25
  have zfr25 : ∀ j, j < N → j ≠ i → zE25 j = E j := fun j zm0 zm1 => (zf25 j (by omega) ).trans (zfr24 j zm0 zm1)
  have zag25 : ∀ j, j < N → zA25 j = ad j := fun j hj => (za25 j (by omega)).trans (zag23 j hj)
  have zy25_rg : Ring G zA25 zE25 (N + 3) pb 0 := zy24_rg.move (fun j zj1 zj2 => za25 j (by omega)) (fun j zj1 zj2 => zf25 j (by omega) )
  have hl : lv_has ls 1 [(0, .ref (zA25 i))] := by rw [za25 (i) (by omega)]; exact hl
  refine r_stk (st2 := [.ref (zA25 ((N + 73))), .ref (zA25 i)]) (by rw [za25 (i) (by omega)]) ?_
  refine r_putF C hnam zw25 RX7 TX7 9 4 hinX7 tyX7 tyX7_ok nmX7 (i := i) (by omega) zk25_24 rfl 7 (by decide) (by decide +kernel) rfl rfl rfl (v := .ref (zA25 (N + 73))) rfl rfl (Nat.le_of_ble_eq_true rfl) dX7_init_96 (fun zE26 zH26 zL26 zg26 zf26 zw26 => ?_)
  have zh26_0 : zE26 i = .inr (4, [.ref (zA25 N), .ref (zA25 (N + 3)), .ref (zA25 (N + 53)), .ref (zA25 (N + 60)), .ref (zA25 (N + 61)), .ref (zA25 (N + 66)), .ref (zA25 (N + 72)), .ref (zA25 (N + 73)), .int (nI 0)]) := zg26
  have zk26_0 : zE26 N = .inr (2, [.ref (zA25 (N + 1)), .ref (zA25 (N + 2)), .int (nI 0), .int (nI 0), .int (nI 0), .int (nI 0), .int (nI 0), .int (nI 0)]) := (zf26 _ (by omega)).trans zk25_0
  have zk26_1 : zE26 (N + 1) = eI G 500 zzc2 := (zf26 _ (by omega)).trans zk25_1
  have zk26_2 : zE26 (N + 2) = eI G 4 zzo2 := (zf26 _ (by omega)).trans zk25_2
  have zk26_3 : zE26 (N + 3) = .inr (3, [.ref (zA25 (N + 4)), .int (nI 0), .int (nI 0)]) := (zf26 _ (by omega)).trans zk25_3
  have zk26_4 : zE26 (N + 54) = .inr (2, [.ref (zA25 (N + 55)), .ref (zA25 (N + 56)), .int (nI 0), .int (nI 0), .int (nI 0), .int (nI 0), .int (nI 0), .int (nI 0)]) := (zf26 _ (by omega)).trans zk25_4
  have zk26_5 : zE26 (N + 55) = eI G 500 zzc9 := (zf26 _ (by omega)).trans zk25_5
  have zk26_6 : zE26 (N + 56) = eI G 4 zzo9 := (zf26 _ (by omega)).trans zk25_6
  have zk26_7 : zE26 (N + 57) = .inr (2, [.ref (zA25 (N + 58)), .ref (zA25 (N + 59)), .int (nI 0), .int (nI 0), .int (nI 0), .int (nI 0), .int (nI 0), .int (nI 0)]) := (zf26 _ (by omega)).trans zk25_7
  have zk26_8 : zE26 (N + 58) = eI G 500 zzc12 := (zf26 _ (by omega)).trans zk25_8
  have zk26_9 : zE26 (N + 59) = eI G 4 zzo12 := (zf26 _ (by omega)).trans zk25_9
  have zk26_10 : zE26 (N + 53) = eR G 2 (va_up (va_up (fun _ => none) (0) (some (zA25 (N + 54)))) (1) (some (zA25 (N + 57)))) := (zf26 _ (by omega)).trans zk25_10
  have zk26_11 : zE26 (N + 60) = eZ G 2 (fun _ => nI 0) := (zf26 _ (by omega)).trans zk25_11
  have zk26_12 : zE26 (N + 61) = .inr (0, [.ref (zA25 (N + 62)), .ref (zA25 (N + 63)), .ref (zA25 (N + 64)), .ref (zA25 (N + 65)), .int (nI 0)]) := (zf26 _ (by omega)).trans zk25_12
  have zk26_13 : zE26 (N + 62) = eI G 20 (fun _ => nI 0) := (zf26 _ (by omega)).trans zk25_13
  have zk26_14 : zE26 (N + 63) = eI G 20 (fun _ => nI 0) := (zf26 _ (by omega)).trans zk25_14
  have zk26_15 : zE26 (N + 64) = eI G 20 (fun _ => nI 0) := (zf26 _ (by omega)).trans zk25_15
  have zk26_16 : zE26 (N + 65) = eI G 20 (fun _ => nI 0) := (zf26 _ (by omega)).trans zk25_16
  have zk26_17 : zE26 (N + 66) = .inr (1, [.ref (zA25 (N + 67)), .ref (zA25 (N + 68)), .ref (zA25 (N + 69)), .ref (zA25 (N + 70)), .ref (zA25 (N + 71)), .int (nI 0), .int (nI 0)]) := (zf26 _ (by omega)).trans zk25_17
  have zk26_18 : zE26 (N + 67) = eI G 10 (fun _ => nI 0) := (zf26 _ (by omega)).trans zk25_18
  have zk26_19 : zE26 (N + 68) = eI G 10 (fun _ => nI 0) := (zf26 _ (by omega)).trans zk25_19
  have zk26_20 : zE26 (N + 69) = eI G 10 (fun _ => nI 0) := (zf26 _ (by omega)).trans zk25_20
  have zk26_21 : zE26 (N + 70) = eI G 10 (fun _ => nI 0) := (zf26 _ (by omega)).trans zk25_21
  have zk26_22 : zE26 (N + 71) = eI G 10 (fun _ => nI 0) := (zf26 _ (by omega)).trans zk25_22
  have zk26_23 : zE26 (N + 72) = eI G 10 (fun _ => nI 0) := (zf26 _ (by omega)).trans zk25_23
  have zk26_24 : zE26 (N + 73) = eI G 10 (fun _ => nI 0) := (zf26 _ (by omega)).trans zh25_0
  have zfr26 : ∀ j, j < N → j ≠ i → zE26 j = E j := fun j zm0 zm1 => (zf26 j zm1).trans (zfr25 j zm0 zm1)
  have zy26_rg : Ring G zA25 zE26 (N + 3) pb 0 := zy25_rg.same (fun j zj1 zj2 => zf26 j (by omega))
  exact r_kret C zw26 zag25 dX7_init_99 ⟨zzc2, zzo2, zzc9, zzo9, zzc12, zzo12, va_up (va_up (fun _ => none) (0) (some (zA25 (N + 54)))) (1) (some (zA25 (N + 57))), zh26_0, zk26_0, zk26_1, zk26_2, zk26_4, zk26_5, zk26_6, zk26_7, zk26_8, zk26_9, zk26_10, zk26_11, zk26_12, zk26_13, zk26_14, zk26_15, zk26_16, zk26_17, zk26_18, zk26_19, zk26_20, zk26_21, zk26_22, zk26_23, zk26_24, (fun j zm0 zm1 => zfr26 j zm0 zm1), (by exact ⟨zq2.1, ⟨rfl, rfl⟩, zy26_rg⟩)⟩

