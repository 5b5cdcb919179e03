set_option maxHeartbeats 4000000 in
set_option maxRecDepth 100000 in
theorem c_X5_init {l : Launch} {G : vG} {tC : Nat} {ad : Nat → Nat} {N : Nat} {E : Nat → va_E} {i : Nat} (hN0 : i < N) (hE0 : E i = .inr (2, [.null, .null, .int (nI 0), .int (nI 0), .int (nI 0), .int (nI 0), .int (nI 0), .int (nI 0)])) : MK l yX5_init wsX5_init ({ frames := 1, cells := 2, slots := 504, locals := 23 } : Room) 2 504 G tC ad N (N + 2) E [.ref (ad i)] (fun ad2 E2 => ∃ zc : Nat → Int32, ∃ zo : Nat → Int32, E2 i = .inr (2, [.ref (ad2 N), .ref (ad2 (N + 1)), .int (nI 0), .int (nI 0), .int (nI 0), .int (nI 0), .int (nI 0), .int (nI 0)]) ∧ E2 N = eI G 500 zc ∧ E2 (N + 1) = eI G 4 zo ∧ (∀ j, j < N → j ≠ i → E2 j = E j) ∧ (∀ b, b < 4 → zo b = -1) ∧ ∀ j, j < 500 → zc j = nI 0) := by
  refine MK_of RX5 rfl (by decide) rfl rfl (Nat.le_of_ble_eq_true rfl) ?_
  intro pp_ ee_ ss_ mm_ aa_ bb_ me_ cc_ A ls C hnam hAO hw hl
  have hx := C.1
  have hb := C.2.1
  have hown := C.2.2.2.2.1
  have hts := C.2.2.2.2.2.1
  have hl : lv_has ls 1 [(0, .ref (ad i))] := hl
  have hinX5 : ∀ w ∈ u_ws RX5 TX5 8, w ∈ wsX5_init := by decide +kernel
  have zfr0 : ∀ j, j < N → E j = E j := fun _ _ => rfl
  refine lv_aload_n hx hb dX5_init_0 rfl (lv_at hl 0 rfl) ?_
  refine r_objInit C (by decide +kernel) (by decide +kernel) (by decide +kernel) hl.1 dX5_init_1 (Nat.le_of_ble_eq_true rfl) (Nat.le_of_ble_eq_true rfl) ?_
  refine lv_aload_n hx hb dX5_init_4 rfl (lv_at hl 0 rfl) ?_
  refine lv_sipush (v := nI 500) hx hb dX5_init_5 rfl ?_
  refine r_newI C hw (n := 500) (by decide +kernel) (by decide) (Nat.le_of_ble_eq_true rfl) (Nat.le_of_ble_eq_true rfl) dX5_init_8 (fun zA1 zE1 zH1 za1 zg1 zf1 zw1 => ?_)
  have zk1_0 : zE1 i = .inr (2, [.null, .null, .int (nI 0), .int (nI 0), .int (nI 0), .int (nI 0), .int (nI 0), .int (nI 0)]) := (zf1 _ (by omega)).trans hE0
  have zh1_0 : zE1 N = eI G 500 (fun _ => nI 0) := zg1
  have zfr1 : ∀ j, j < N → zE1 j = E j := fun j zm0 => (zf1 j (by omega) ).trans (zfr0 j zm0)
  have zag1 : ∀ j, j < N → zA1 j = ad j := fun j hj => (za1 j (by omega)).trans ((fun _ _ => rfl) j hj)
  have hl : lv_has ls 1 [(0, .ref (zA1 i))] := by rw [za1 (i) (by omega)]; exact hl
  refine r_stk (st2 := [.ref (zA1 (N)), .ref (zA1 i)]) (by rw [za1 (i) (by omega)]) ?_
  refine r_putF C hnam zw1 RX5 TX5 8 2 hinX5 tyX5 tyX5_ok nmX5 (i := i) (by omega) zk1_0 rfl 0 (by decide) (by decide +kernel) rfl rfl rfl (v := .ref (zA1 N)) rfl rfl (Nat.le_of_ble_eq_true rfl) dX5_init_10 (fun zE2 zH2 zL2 zg2 zf2 zw2 => ?_)
  have zh2_0 : zE2 i = .inr (2, [.ref (zA1 N), .null, .int (nI 0), .int (nI 0), .int (nI 0), .int (nI 0), .int (nI 0), .int (nI 0)]) := zg2
  have zk2_0 : zE2 N = eI G 500 (fun _ => nI 0) := (zf2 _ (by omega)).trans zh1_0
  have zfr2 : ∀ j, j < N → j ≠ i → zE2 j = E j := fun j zm0 zm1 => (zf2 j zm1).trans (zfr1 j zm0)
  refine lv_aload_n hx hb dX5_init_13 rfl (lv_at hl 0 rfl) ?_
  refine lv_iconst (v := nI 4) hx hb dX5_init_14 rfl ?_
  refine r_newI C zw2 (n := 4) (by decide +kernel) (by decide) (Nat.le_of_ble_eq_true rfl) (Nat.le_of_ble_eq_true rfl) dX5_init_15 (fun zA3 zE3 zH3 za3 zg3 zf3 zw3 => ?_)
  have zk3_0 : zE3 N = eI G 500 (fun _ => nI 0) := (zf3 _ (by omega)).trans zk2_0
  have zk3_1 : zE3 i = .inr (2, [.ref (zA3 N), .null, .int (nI 0), .int (nI 0), .int (nI 0), .int (nI 0), .int (nI 0), .int (nI 0)]) := (zf3 _ (by omega)).trans (zh2_0.trans (by rw [za3 (N) (by omega)]))
  have zh3_0 : zE3 (N + 1) = eI G 4 (fun _ => nI 0) := zg3
  have zfr3 : ∀ j, j < N → j ≠ i → zE3 j = E j := fun j zm0 zm1 => (zf3 j (by omega) ).trans (zfr2 j zm0 zm1)
  have zag3 : ∀ j, j < N → zA3 j = ad j := fun j hj => (za3 j (by omega)).trans (zag1 j hj)
  have hl : lv_has ls 1 [(0, .ref (zA3 i))] := by rw [za3 (i) (by omega)]; exact hl
  refine r_stk (st2 := [.ref (zA3 ((N + 1))), .ref (zA3 i)]) (by rw [za3 (i) (by omega)]) ?_
  refine r_putF C hnam zw3 RX5 TX5 8 2 hinX5 tyX5 tyX5_ok nmX5 (i := i) (by omega) zk3_1 rfl 1 (by decide) (by decide +kernel) rfl rfl rfl (v := .ref (zA3 (N + 1))) rfl rfl (Nat.le_of_ble_eq_true rfl) dX5_init_17 (fun zE4 zH4 zL4 zg4 zf4 zw4 => ?_)
  have zh4_0 : zE4 i = .inr (2, [.ref (zA3 N), .ref (zA3 (N + 1)), .int (nI 0), .int (nI 0), .int (nI 0), .int (nI 0), .int (nI 0), .int (nI 0)]) := zg4
  have zk4_0 : zE4 N = eI G 500 (fun _ => nI 0) := (zf4 _ (by omega)).trans zk3_0
  have zk4_1 : zE4 (N + 1) = eI G 4 (fun _ => nI 0) := (zf4 _ (by omega)).trans zh3_0
  have zfr4 : ∀ j, j < N → j ≠ i → zE4 j = E j := fun j zm0 zm1 => (zf4 j zm1).trans (zfr3 j zm0 zm1)
  refine lv_aload_n hx hb dX5_init_20 rfl (lv_at hl 0 rfl) ?_
  refine r_get C zw4 RX5 TX5 8 2 hinX5 (i := i) (by omega) zh4_0 rfl 1 (by decide) (by decide +kernel) rfl (v := .ref (zA3 (N + 1))) rfl dX5_init_21 ?_
  refine lv_iconst (v := -1) hx hb dX5_init_24 (by decide) ?_
  refine r_sV C zw4 hl.1 [.ref (zA3 (N + 1)), .int (-1)] 2 rfl (c_J7_fill_53178 (l := l) (G := G) (tC := tC) (ad := zA3) (N := (N + 2)) (E := zE4) (q := (N + 1)) (n := 4) (f := fun _ => nI 0) (v := -1) (by omega) zk4_1 (by first | assumption | omega)) gX5_init_J7_fill_53178 rfl ⟨rfl, rfl⟩ (by decide +kernel) ⟨Nat.le_of_ble_eq_true rfl, Nat.le_of_ble_eq_true rfl⟩ (rest := []) rfl (Nat.le_of_ble_eq_true rfl) dX5_init_25 ⟨Nat.le_of_ble_eq_true rfl, Nat.le_of_ble_eq_true rfl⟩ (fun zE5 zH5 zL5 zp5 zw5 => ?_)
  obtain ⟨zg5_0, zf5⟩ := zp5
  have zh5_0 : zE5 (N + 1) = eI G 4 (fillF (fun _ => nI 0) 0 4 (-1)) := zg5_0
  have zk5_0 : zE5 N = eI G 500 (fun _ => nI 0) := (zf5 _ (by omega)).trans zk4_0
  have zk5_1 : zE5 i = .inr (2, [.ref (zA3 N), .ref (zA3 (N + 1)), .int (nI 0), .int (nI 0), .int (nI 0), .int (nI 0), .int (nI 0), .int (nI 0)]) := (zf5 _ (by omega)).trans zh4_0
  have zfr5 : ∀ j, j < N → j ≠ i → zE5 j = E j := fun j zm0 zm1 => (zf5 j (by omega)).trans (zfr4 j zm0 zm1)
  exact r_kret C zw5 zag3 dX5_init_28 ⟨fun _ => nI 0, fillF (fun _ => nI 0) 0 4 (-1), zk5_1, zk5_0, zh5_0, (fun j zm0 zm1 => zfr5 j zm0 zm1), (by exact ⟨fun b hb9 => by simp only [fillF]; rw [if_pos ⟨Nat.zero_le _, hb9⟩], fun _ _ => rfl⟩)⟩

set_option maxHeartbeats 4000000 in
set_option maxRecDepth 100000 in
theorem c_X2_init {l : Launch} {G : vG} {tC : Nat} {ad : Nat → Nat} {N : Nat} {E : Nat → va_E} {i : Nat} (hN0 : i < N) (hE0 : E i = .inr (0, [.null, .null, .null, .null, .int (nI 0)])) : MK l yX2_init wsX2_init ({ frames := 1, cells := 4, slots := 80, locals := 20 } : Room) 4 80 G tC ad N (N + 4) E [.ref (ad i)] (fun ad2 E2 => E2 i = .inr (0, [.ref (ad2 N), .ref (ad2 (N + 1)), .ref (ad2 (N + 2)), .ref (ad2 (N + 3)), .int (nI 0)]) ∧ E2 N = eI G 20 (fun _ => nI 0) ∧ E2 (N + 1) = eI G 20 (fun _ => nI 0) ∧ E2 (N + 2) = eI G 20 (fun _ => nI 0) ∧ E2 (N + 3) = eI G 20 (fun _ => nI 0) ∧ (∀ j, j < N → j ≠ i → E2 j = E j)) := by
  refine MK_of RX2 rfl (by decide) rfl rfl (Nat.le_of_ble_eq_true rfl) ?_
  intro pp_ ee_ ss_ mm_ aa_ bb_ me_ cc_ A ls C hnam hAO hw hl
  have hx := C.1
  have hb := C.2.1
  have hown := C.2.2.2.2.1
  have hts := C.2.2.2.2.2.1
  have hl : lv_has ls 1 [(0, .ref (ad i))] := hl
  have hinX2 : ∀ w ∈ u_ws RX2 TX2 5, w ∈ wsX2_init := by decide +kernel
  have zfr0 : ∀ j, j < N → E j = E j := fun _ _ => rfl
  refine lv_aload_n hx hb dX2_init_0 rfl (lv_at hl 0 rfl) ?_
  refine r_objInit C (by decide +kernel) (by decide +kernel) (by decide +kernel) hl.1 dX2_init_1 (Nat.le_of_ble_eq_true rfl) (Nat.le_of_ble_eq_true rfl) ?_
  refine lv_aload_n hx hb dX2_init_4 rfl (lv_at hl 0 rfl) ?_
  refine lv_bipush (v := nI 20) hx hb dX2_init_5 rfl ?_
  refine r_newI C hw (n := 20) (by decide +kernel) (by decide) (Nat.le_of_ble_eq_true rfl) (Nat.le_of_ble_eq_true rfl) dX2_init_7 (fun zA1 zE1 zH1 za1 zg1 zf1 zw1 => ?_)
  have zk1_0 : zE1 i = .inr (0, [.null, .null, .null, .null, .int (nI 0)]) := (zf1 _ (by omega)).trans hE0
  have zh1_0 : zE1 N = eI G 20 (fun _ => nI 0) := zg1
  have zfr1 : ∀ j, j < N → zE1 j = E j := fun j zm0 => (zf1 j (by omega) ).trans (zfr0 j zm0)
  have zag1 : ∀ j, j < N → zA1 j = ad j := fun j hj => (za1 j (by omega)).trans ((fun _ _ => rfl) j hj)
  have hl : lv_has ls 1 [(0, .ref (zA1 i))] := by rw [za1 (i) (by omega)]; exact hl
  refine r_stk (st2 := [.ref (zA1 (N)), .ref (zA1 i)]) (by rw [za1 (i) (by omega)]) ?_
  refine r_putF C hnam zw1 RX2 TX2 5 0 hinX2 tyX2 tyX2_ok nmX2 (i := i) (by omega) zk1_0 rfl 0 (by decide) (by decide +kernel) rfl rfl rfl (v := .ref (zA1 N)) rfl rfl (Nat.le_of_ble_eq_true rfl) dX2_init_9 (fun zE2 zH2 zL2 zg2 zf2 zw2 => ?_)
  have zh2_0 : zE2 i = .inr (0, [.ref (zA1 N), .null, .null, .null, .int (nI 0)]) := zg2
  have zk2_0 : zE2 N = eI G 20 (fun _ => nI 0) := (zf2 _ (by omega)).trans zh1_0
  have zfr2 : ∀ j, j < N → j ≠ i → zE2 j = E j := fun j zm0 zm1 => (zf2 j zm1).trans (zfr1 j zm0)
  refine lv_aload_n hx hb dX2_init_12 rfl (lv_at hl 0 rfl) ?_
  refine lv_bipush (v := nI 20) hx hb dX2_init_13 rfl ?_
  refine r_newI C zw2 (n := 20) (by decide +kernel) (by decide) (Nat.le_of_ble_eq_true rfl) (Nat.le_of_ble_eq_true rfl) dX2_init_15 (fun zA3 zE3 zH3 za3 zg3 zf3 zw3 => ?_)
  have zk3_0 : zE3 N = eI G 20 (fun _ => nI 0) := (zf3 _ (by omega)).trans zk2_0
  have zk3_1 : zE3 i = .inr (0, [.ref (zA3 N), .null, .null, .null, .int (nI 0)]) := (zf3 _ (by omega)).trans (zh2_0.trans (by rw [za3 (N) (by omega)]))
  have zh3_0 : zE3 (N + 1) = eI G 20 (fun _ => nI 0) := zg3
  have zfr3 : ∀ j, j < N → j ≠ i → zE3 j = E j := fun j zm0 zm1 => (zf3 j (by omega) ).trans (zfr2 j zm0 zm1)
  have zag3 : ∀ j, j < N → zA3 j = ad j := fun j hj => (za3 j (by omega)).trans (zag1 j hj)
  have hl : lv_has ls 1 [(0, .ref (zA3 i))] := by rw [za3 (i) (by omega)]; exact hl
  refine r_stk (st2 := [.ref (zA3 ((N + 1))), .ref (zA3 i)]) (by rw [za3 (i) (by omega)]) ?_
  refine r_putF C hnam zw3 RX2 TX2 5 0 hinX2 tyX2 tyX2_ok nmX2 (i := i) (by omega) zk3_1 rfl 1 (by decide) (by decide +kernel) rfl rfl rfl (v := .ref (zA3 (N + 1))) rfl rfl (Nat.le_of_ble_eq_true rfl) dX2_init_17 (fun zE4 zH4 zL4 zg4 zf4 zw4 => ?_)
  have zh4_0 : zE4 i = .inr (0, [.ref (zA3 N), .ref (zA3 (N + 1)), .null, .null, .int (nI 0)]) := zg4
  have zk4_0 : zE4 N = eI G 20 (fun _ => nI 0) := (zf4 _ (by omega)).trans zk3_0
  have zk4_1 : zE4 (N + 1) = eI G 20 (fun _ => nI 0) := (zf4 _ (by omega)).trans zh3_0
  have zfr4 : ∀ j, j < N → j ≠ i → zE4 j = E j := fun j zm0 zm1 => (zf4 j zm1).trans (zfr3 j zm0 zm1)
  refine lv_aload_n hx hb dX2_init_20 rfl (lv_at hl 0 rfl) ?_
  refine lv_bipush (v := nI 20) hx hb dX2_init_21 rfl ?_
  refine r_newI C zw4 (n := 20) (by decide +kernel) (by decide) (Nat.le_of_ble_eq_true rfl) (Nat.le_of_ble_eq_true rfl) dX2_init_23 (fun zA5 zE5 zH5 za5 zg5 zf5 zw5 => ?_)
  have zk5_0 : zE5 N = eI G 20 (fun _ => nI 0) := (zf5 _ (by omega)).trans zk4_0
  have zk5_1 : zE5 (N + 1) = eI G 20 (fun _ => nI 0) := (zf5 _ (by omega)).trans zk4_1
  have zk5_2 : zE5 i = .inr (0, [.ref (zA5 N), .ref (zA5 (N + 1)), .null, .null, .int (nI 0)]) := (zf5 _ (by omega)).trans (zh4_0.trans (by rw [za5 (N) (by omega), za5 ((N + 1)) (by omega)]))
  have zh5_0 : zE5 (N + 2) = eI G 20 (fun _ => nI 0) := zg5
  have zfr5 : ∀ j, j < N → j ≠ i → zE5 j = E j := fun j zm0 zm1 => (zf5 j (by omega) ).trans (zfr4 j zm0 zm1)
  have zag5 : ∀ j, j < N → zA5 j = ad j := fun j hj => (za5 j (by omega)).trans (zag3 j hj)
  have hl : lv_has ls 1 [(0, .ref (zA5 i))] := by rw [za5 (i) (by omega)]; exact hl
  refine r_stk (st2 := [.ref (zA5 ((N + 2))), .ref (zA5 i)]) (by rw [za5 (i) (by omega)]) ?_
  refine r_putF C hnam zw5 RX2 TX2 5 0 hinX2 tyX2 tyX2_ok nmX2 (i := i) (by omega) zk5_2 rfl 2 (by decide) (by decide +kernel) rfl rfl rfl (v := .ref (zA5 (N + 2))) rfl rfl (Nat.le_of_ble_eq_true rfl) dX2_init_25 (fun zE6 zH6 zL6 zg6 zf6 zw6 => ?_)
  have zh6_0 : zE6 i = .inr (0, [.ref (zA5 N), .ref (zA5 (N + 1)), .ref (zA5 (N + 2)), .null, .int (nI 0)]) := zg6
  have zk6_0 : zE6 N = eI G 20 (fun _ => nI 0) := (zf6 _ (by omega)).trans zk5_0
  have zk6_1 : zE6 (N + 1) = eI G 20 (fun _ => nI 0) := (zf6 _ (by omega)).trans zk5_1
  have zk6_2 : zE6 (N + 2) = eI G 20 (fun _ => nI 0) := (zf6 _ (by omega)).trans zh5_0
  have zfr6 : ∀ j, j < N → j ≠ i → zE6 j = E j := fun j zm0 zm1 => (zf6 j zm1).trans (zfr5 j zm0 zm1)
  refine lv_aload_n hx hb dX2_init_28 rfl (lv_at hl 0 rfl) ?_
  refine lv_bipush (v := nI 20) hx hb dX2_init_29 rfl ?_
  refine r_newI C zw6 (n := 20) (by decide +kernel) (by decide) (Nat.le_of_ble_eq_true rfl) (Nat.le_of_ble_eq_true rfl) dX2_init_31 (fun zA7 zE7 zH7 za7 zg7 zf7 zw7 => ?_)
  have zk7_0 : zE7 N = eI G 20 (fun _ => nI 0) := (zf7 _ (by omega)).trans zk6_0
  have zk7_1 : zE7 (N + 1) = eI G 20 (fun _ => nI 0) := (zf7 _ (by omega)).trans zk6_1
  have zk7_2 : zE7 (N + 2) = eI G 20 (fun _ => nI 0) := (zf7 _ (by omega)).trans zk6_2
  have zk7_3 : zE7 i = .inr (0, [.ref (zA7 N), .ref (zA7 (N + 1)), .ref (zA7 (N + 2)), .null, .int (nI 0)]) := (zf7 _ (by omega)).trans (zh6_0.trans (by rw [za7 (N) (by omega), za7 ((N + 1)) (by omega), za7 ((N + 2)) (by omega)]))
  have zh7_0 : zE7 (N + 3) = eI G 20 (fun _ => nI 0) := zg7
  have zfr7 : ∀ j, j < N → j ≠ i → zE7 j = E j := fun j zm0 zm1 => (zf7 j (by omega) ).trans (zfr6 j zm0 zm1)
  have zag7 : ∀ j, j < N → zA7 j = ad j := fun j hj => (za7 j (by omega)).trans (zag5 j hj)
  have hl : lv_has ls 1 [(0, .ref (zA7 i))] := by rw [za7 (i) (by omega)]; exact hl
  refine r_stk (st2 := [.ref (zA7 ((N + 3))), .ref (zA7 i)]) (by rw [za7 (i) (by omega)]) ?_
  refine r_putF C hnam zw7 RX2 TX2 5 0 hinX2 tyX2 tyX2_ok nmX2 (i := i) (by omega) zk7_3 rfl 3 (by decide) (by decide +kernel) rfl rfl rfl (v := .ref (zA7 (N + 3))) rfl rfl (Nat.le_of_ble_eq_true rfl) dX2_init_33 (fun zE8 zH8 zL8 zg8 zf8 zw8 => ?_)
  have zh8_0 : zE8 i = .inr (0, [.ref (zA7 N), .ref (zA7 (N + 1)), .ref (zA7 (N + 2)), .ref (zA7 (N + 3)), .int (nI 0)]) := zg8
  have zk8_0 : zE8 N = eI G 20 (fun _ => nI 0) := (zf8 _ (by omega)).trans zk7_0
  have zk8_1 : zE8 (N + 1) = eI G 20 (fun _ => nI 0) := (zf8 _ (by omega)).trans zk7_1
  have zk8_2 : zE8 (N + 2) = eI G 20 (fun _ => nI 0) := (zf8 _ (by omega)).trans zk7_2
  have zk8_3 : zE8 (N + 3) = eI G 20 (fun _ => nI 0) := (zf8 _ (by omega)).trans zh7_0
  have zfr8 : ∀ j, j < N → j ≠ i → zE8 j = E j := fun j zm0 zm1 => (zf8 j zm1).trans (zfr7 j zm0 zm1)
  exact r_kret C zw8 zag7 dX2_init_36 ⟨zh8_0, zk8_0, zk8_1, zk8_2, zk8_3, (fun j zm0 zm1 => zfr8 j zm0 zm1)⟩

set_option maxHeartbeats 4000000 in
set_option maxRecDepth 100000 in
theorem c_X4_init {l : Launch} {G : vG} {tC : Nat} {ad : Nat → Nat} {N : Nat} {E : Nat → va_E} {i : Nat} (hN0 : i < N) (hE0 : E i = .inr (1, [.null, .null, .null, .null, .null, .int (nI 0), .int (nI 0)])) : MK l yX4_init wsX4_init ({ frames := 1, cells := 5, slots := 50, locals := 20 } : Room) 5 50 G tC ad N (N + 5) E [.ref (ad i)] (fun ad2 E2 => E2 i = .inr (1, [.ref (ad2 N), .ref (ad2 (N + 1)), .ref (ad2 (N + 2)), .ref (ad2 (N + 3)), .ref (ad2 (N + 4)), .int (nI 0), .int (nI 0)]) ∧ E2 N = eI G 10 (fun _ => nI 0) ∧ E2 (N + 1) = eI G 10 (fun _ => nI 0) ∧ E2 (N + 2) = eI G 10 (fun _ => nI 0) ∧ E2 (N + 3) = eI G 10 (fun _ => nI 0) ∧ E2 (N + 4) = eI G 10 (fun _ => nI 0) ∧ (∀ j, j < N → j ≠ i → E2 j = E j)) := by
  refine MK_of RX4 rfl (by decide) rfl rfl (Nat.le_of_ble_eq_true rfl) ?_
  intro pp_ ee_ ss_ mm_ aa_ bb_ me_ cc_ A ls C hnam hAO hw hl
  have hx := C.1
  have hb := C.2.1
  have hown := C.2.2.2.2.1
  have hts := C.2.2.2.2.2.1
  have hl : lv_has ls 1 [(0, .ref (ad i))] := hl
  have hinX4 : ∀ w ∈ u_ws RX4 TX4 7, w ∈ wsX4_init := by decide +kernel
  have zfr0 : ∀ j, j < N → E j = E j := fun _ _ => rfl
  refine lv_aload_n hx hb dX4_init_0 rfl (lv_at hl 0 rfl) ?_
  refine r_objInit C (by decide +kernel) (by decide +kernel) (by decide +kernel) hl.1 dX4_init_1 (Nat.le_of_ble_eq_true rfl) (Nat.le_of_ble_eq_true rfl) ?_
  refine lv_aload_n hx hb dX4_init_4 rfl (lv_at hl 0 rfl) ?_
  refine lv_bipush (v := nI 10) hx hb dX4_init_5 rfl ?_
  refine r_newI C hw (n := 10) (by decide +kernel) (by decide) (Nat.le_of_ble_eq_true rfl) (Nat.le_of_ble_eq_true rfl) dX4_init_7 (fun zA1 zE1 zH1 za1 zg1 zf1 zw1 => ?_)
  have zk1_0 : zE1 i = .inr (1, [.null, .null, .null, .null, .null, .int (nI 0), .int (nI 0)]) := (zf1 _ (by omega)).trans hE0
  have zh1_0 : zE1 N = eI G 10 (fun _ => nI 0) := zg1
  have zfr1 : ∀ j, j < N → zE1 j = E j := fun j zm0 => (zf1 j (by omega) ).trans (zfr0 j zm0)
  have zag1 : ∀ j, j < N → zA1 j = ad j := fun j hj => (za1 j (by omega)).trans ((fun _ _ => rfl) j hj)
  have hl : lv_has ls 1 [(0, .ref (zA1 i))] := by rw [za1 (i) (by omega)]; exact hl
  refine r_stk (st2 := [.ref (zA1 (N)), .ref (zA1 i)]) (by rw [za1 (i) (by omega)]) ?_
  refine r_putF C hnam zw1 RX4 TX4 7 1 hinX4 tyX4 tyX4_ok nmX4 (i := i) (by omega) zk1_0 rfl 0 (by decide) (by decide +kernel) rfl rfl rfl (v := .ref (zA1 N)) rfl rfl (Nat.le_of_ble_eq_true rfl) dX4_init_9 (fun zE2 zH2 zL2 zg2 zf2 zw2 => ?_)
  have zh2_0 : zE2 i = .inr (1, [.ref (zA1 N), .null, .null, .null, .null, .int (nI 0), .int (nI 0)]) := zg2
  have zk2_0 : zE2 N = eI G 10 (fun _ => nI 0) := (zf2 _ (by omega)).trans zh1_0
  have zfr2 : ∀ j, j < N → j ≠ i → zE2 j = E j := fun j zm0 zm1 => (zf2 j zm1).trans (zfr1 j zm0)
  refine lv_aload_n hx hb dX4_init_12 rfl (lv_at hl 0 rfl) ?_
  refine lv_bipush (v := nI 10) hx hb dX4_init_13 rfl ?_
  refine r_newI C zw2 (n := 10) (by decide +kernel) (by decide) (Nat.le_of_ble_eq_true rfl) (Nat.le_of_ble_eq_true rfl) dX4_init_15 (fun zA3 zE3 zH3 za3 zg3 zf3 zw3 => ?_)
  have zk3_0 : zE3 N = eI G 10 (fun _ => nI 0) := (zf3 _ (by omega)).trans zk2_0
  have zk3_1 : zE3 i = .inr (1, [.ref (zA3 N), .null, .null, .null, .null, .int (nI 0), .int (nI 0)]) := (zf3 _ (by omega)).trans (zh2_0.trans (by rw [za3 (N) (by omega)]))
  have zh3_0 : zE3 (N + 1) = eI G 10 (fun _ => nI 0) := zg3
  have zfr3 : ∀ j, j < N → j ≠ i → zE3 j = E j := fun j zm0 zm1 => (zf3 j (by omega) ).trans (zfr2 j zm0 zm1)
  have zag3 : ∀ j, j < N → zA3 j = ad j := fun j hj => (za3 j (by omega)).trans (zag1 j hj)
  have hl : lv_has ls 1 [(0, .ref (zA3 i))] := by rw [za3 (i) (by omega)]; exact hl
  refine r_stk (st2 := [.ref (zA3 ((N + 1))), .ref (zA3 i)]) (by rw [za3 (i) (by omega)]) ?_
  refine r_putF C hnam zw3 RX4 TX4 7 1 hinX4 tyX4 tyX4_ok nmX4 (i := i) (by omega) zk3_1 rfl 1 (by decide) (by decide +kernel) rfl rfl rfl (v := .ref (zA3 (N + 1))) rfl rfl (Nat.le_of_ble_eq_true rfl) dX4_init_17 (fun zE4 zH4 zL4 zg4 zf4 zw4 => ?_)
  have zh4_0 : zE4 i = .inr (1, [.ref (zA3 N), .ref (zA3 (N + 1)), .null, .null, .null, .int (nI 0), .int (nI 0)]) := zg4
  have zk4_0 : zE4 N = eI G 10 (fun _ => nI 0) := (zf4 _ (by omega)).trans zk3_0
  have zk4_1 : zE4 (N + 1) = eI G 10 (fun _ => nI 0) := (zf4 _ (by omega)).trans zh3_0
  have zfr4 : ∀ j, j < N → j ≠ i → zE4 j = E j := fun j zm0 zm1 => (zf4 j zm1).trans (zfr3 j zm0 zm1)
  refine lv_aload_n hx hb dX4_init_20 rfl (lv_at hl 0 rfl) ?_
  refine lv_bipush (v := nI 10) hx hb dX4_init_21 rfl ?_
  refine r_newI C zw4 (n := 10) (by decide +kernel) (by decide) (Nat.le_of_ble_eq_true rfl) (Nat.le_of_ble_eq_true rfl) dX4_init_23 (fun zA5 zE5 zH5 za5 zg5 zf5 zw5 => ?_)
  have zk5_0 : zE5 N = eI G 10 (fun _ => nI 0) := (zf5 _ (by omega)).trans zk4_0
  have zk5_1 : zE5 (N + 1) = eI G 10 (fun _ => nI 0) := (zf5 _ (by omega)).trans zk4_1
  have zk5_2 : zE5 i = .inr (1, [.ref (zA5 N), .ref (zA5 (N + 1)), .null, .null, .null, .int (nI 0), .int (nI 0)]) := (zf5 _ (by omega)).trans (zh4_0.trans (by rw [za5 (N) (by omega), za5 ((N + 1)) (by omega)]))
  have zh5_0 : zE5 (N + 2) = eI G 10 (fun _ => nI 0) := zg5
  have zfr5 : ∀ j, j < N → j ≠ i → zE5 j = E j := fun j zm0 zm1 => (zf5 j (by omega) ).trans (zfr4 j zm0 zm1)
  have zag5 : ∀ j, j < N → zA5 j = ad j := fun j hj => (za5 j (by omega)).trans (zag3 j hj)
  have hl : lv_has ls 1 [(0, .ref (zA5 i))] := by rw [za5 (i) (by omega)]; exact hl
  refine r_stk (st2 := [.ref (zA5 ((N + 2))), .ref (zA5 i)]) (by rw [za5 (i) (by omega)]) ?_
  refine r_putF C hnam zw5 RX4 TX4 7 1 hinX4 tyX4 tyX4_ok nmX4 (i := i) (by omega) zk5_2 rfl 2 (by decide) (by decide +kernel) rfl rfl rfl (v := .ref (zA5 (N + 2))) rfl rfl (Nat.le_of_ble_eq_true rfl) dX4_init_25 (fun zE6 zH6 zL6 zg6 zf6 zw6 => ?_)
  have zh6_0 : zE6 i = .inr (1, [.ref (zA5 N), .ref (zA5 (N + 1)), .ref (zA5 (N + 2)), .null, .null, .int (nI 0), .int (nI 0)]) := zg6
  have zk6_0 : zE6 N = eI G 10 (fun _ => nI 0) := (zf6 _ (by omega)).trans zk5_0
  have zk6_1 : zE6 (N + 1) = eI G 10 (fun _ => nI 0) := (zf6 _ (by omega)).trans zk5_1
  have zk6_2 : zE6 (N + 2) = eI G 10 (fun _ => nI 0) := (zf6 _ (by omega)).trans zh5_0
  have zfr6 : ∀ j, j < N → j ≠ i → zE6 j = E j := fun j zm0 zm1 => (zf6 j zm1).trans (zfr5 j zm0 zm1)
  refine lv_aload_n hx hb dX4_init_28 rfl (lv_at hl 0 rfl) ?_
  refine lv_bipush (v := nI 10) hx hb dX4_init_29 rfl ?_
  refine r_newI C zw6 (n := 10) (by decide +kernel) (by decide) (Nat.le_of_ble_eq_true rfl) (Nat.le_of_ble_eq_true rfl) dX4_init_31 (fun zA7 zE7 zH7 za7 zg7 zf7 zw7 => ?_)
  have zk7_0 : zE7 N = eI G 10 (fun _ => nI 0) := (zf7 _ (by omega)).trans zk6_0
  have zk7_1 : zE7 (N + 1) = eI G 10 (fun _ => nI 0) := (zf7 _ (by omega)).trans zk6_1
  have zk7_2 : zE7 (N + 2) = eI G 10 (fun _ => nI 0) := (zf7 _ (by omega)).trans zk6_2
  have zk7_3 : zE7 i = .inr (1, [.ref (zA7 N), .ref (zA7 (N + 1)), .ref (zA7 (N + 2)), .null, .null, .int (nI 0), .int (nI 0)]) := (zf7 _ (by omega)).trans (zh6_0.trans (by rw [za7 (N) (by omega), za7 ((N + 1)) (by omega), za7 ((N + 2)) (by omega)]))
  have zh7_0 : zE7 (N + 3) = eI G 10 (fun _ => nI 0) := zg7
  have zfr7 : ∀ j, j < N → j ≠ i → zE7 j = E j := fun j zm0 zm1 => (zf7 j (by omega) ).trans (zfr6 j zm0 zm1)
  have zag7 : ∀ j, j < N → zA7 j = ad j := fun j hj => (za7 j (by omega)).trans (zag5 j hj)
  have hl : lv_has ls 1 [(0, .ref (zA7 i))] := by rw [za7 (i) (by omega)]; exact hl
  refine r_stk (st2 := [.ref (zA7 ((N + 3))), .ref (zA7 i)]) (by rw [za7 (i) (by omega)]) ?_
  refine r_putF C hnam zw7 RX4 TX4 7 1 hinX4 tyX4 tyX4_ok nmX4 (i := i) (by omega) zk7_3 rfl 3 (by decide) (by decide +kernel) rfl rfl rfl (v := .ref (zA7 (N + 3))) rfl rfl (Nat.le_of_ble_eq_true rfl) dX4_init_33 (fun zE8 zH8 zL8 zg8 zf8 zw8 => ?_)
  have zh8_0 : zE8 i = .inr (1, [.ref (zA7 N), .ref (zA7 (N + 1)), .ref (zA7 (N + 2)), .ref (zA7 (N + 3)), .null, .int (nI 0), .int (nI 0)]) := zg8
  have zk8_0 : zE8 N = eI G 10 (fun _ => nI 0) := (zf8 _ (by omega)).trans zk7_0
  have zk8_1 : zE8 (N + 1) = eI G 10 (fun _ => nI 0) := (zf8 _ (by omega)).trans zk7_1
  have zk8_2 : zE8 (N + 2) = eI G 10 (fun _ => nI 0) := (zf8 _ (by omega)).trans zk7_2
  have zk8_3 : zE8 (N + 3) = eI G 10 (fun _ => nI 0) := (zf8 _ (by omega)).trans zh7_0
  have zfr8 : ∀ j, j < N → j ≠ i → zE8 j = E j := fun j zm0 zm1 => (zf8 j zm1).trans (zfr7 j zm0 zm1)
  refine lv_aload_n hx hb dX4_init_36 rfl (lv_at hl 0 rfl) ?_
  refine lv_bipush (v := nI 10) hx hb dX4_init_37 rfl ?_
  refine r_newI C zw8 (n := 10) (by decide +kernel) (by decide) (Nat.le_of_ble_eq_true rfl) (Nat.le_of_ble_eq_true rfl) dX4_init_39 (fun zA9 zE9 zH9 za9 zg9 zf9 zw9 => ?_)
  have zk9_0 : zE9 N = eI G 10 (fun _ => nI 0) := (zf9 _ (by omega)).trans zk8_0
  have zk9_1 : zE9 (N + 1) = eI G 10 (fun _ => nI 0) := (zf9 _ (by omega)).trans zk8_1
  have zk9_2 : zE9 (N + 2) = eI G 10 (fun _ => nI 0) := (zf9 _ (by omega)).trans zk8_2
  have zk9_3 : zE9 (N + 3) = eI G 10 (fun _ => nI 0) := (zf9 _ (by omega)).trans zk8_3
  have zk9_4 : zE9 i = .inr (1, [.ref (zA9 N), .ref (zA9 (N + 1)), .ref (zA9 (N + 2)), .ref (zA9 (N + 3)), .null, .int (nI 0), .int (nI 0)]) := (zf9 _ (by omega)).trans (zh8_0.trans (by rw [za9 (N) (by omega), za9 ((N + 1)) (by omega), za9 ((N + 2)) (by omega), za9 ((N + 3)) (by omega)]))
  have zh9_0 : zE9 (N + 4) = eI G 10 (fun _ => nI 0) := zg9
  have zfr9 : ∀ j, j < N → j ≠ i → zE9 j = E j := fun j zm0 zm1 => (zf9 j (by omega) ).trans (zfr8 j zm0 zm1)
  have zag9 : ∀ j, j < N → zA9 j = ad j := fun j hj => (za9 j (by omega)).trans (zag7 j hj)
  have hl : lv_has ls 1 [(0, .ref (zA9 i))] := by rw [za9 (i) (by omega)]; exact hl
  refine r_stk (st2 := [.ref (zA9 ((N + 4))), .ref (zA9 i)]) (by rw [za9 (i) (by omega)]) ?_
  refine r_putF C hnam zw9 RX4 TX4 7 1 hinX4 tyX4 tyX4_ok nmX4 (i := i) (by omega) zk9_4 rfl 4 (by decide) (by decide +kernel) rfl rfl rfl (v := .ref (zA9 (N + 4))) rfl rfl (Nat.le_of_ble_eq_true rfl) dX4_init_41 (fun zE10 zH10 zL10 zg10 zf10 zw10 => ?_)
  have zh10_0 : zE10 i = .inr (1, [.ref (zA9 N), .ref (zA9 (N + 1)), .ref (zA9 (N + 2)), .ref (zA9 (N + 3)), .ref (zA9 (N + 4)), .int (nI 0), .int (nI 0)]) := zg10
  have zk10_0 : zE10 N = eI G 10 (fun _ => nI 0) := (zf10 _ (by omega)).trans zk9_0
  have zk10_1 : zE10 (N + 1) = eI G 10 (fun _ => nI 0) := (zf10 _ (by omega)).trans zk9_1
  have zk10_2 : zE10 (N + 2) = eI G 10 (fun _ => nI 0) := (zf10 _ (by omega)).trans zk9_2
  have zk10_3 : zE10 (N + 3) = eI G 10 (fun _ => nI 0) := (zf10 _ (by omega)).trans zk9_3
  have zk10_4 : zE10 (N + 4) = eI G 10 (fun _ => nI 0) := (zf10 _ (by omega)).trans zh9_0
  have zfr10 : ∀ j, j < N → j ≠ i → zE10 j = E j := fun j zm0 zm1 => (zf10 j zm1).trans (zfr9 j zm0 zm1)
  exact r_kret C zw10 zag9 dX4_init_44 ⟨zh10_0, zk10_0, zk10_1, zk10_2, zk10_3, zk10_4, (fun j zm0 zm1 => zfr10 j zm0 zm1)⟩

set_option maxHeartbeats 4000000 in
set_option maxRecDepth 100000 in
theorem c_X8_init {l : Launch} {G : vG} {tC : Nat} {ad : Nat → Nat} {N : Nat} {E : Nat → va_E} {i : Nat} (hN0 : i < N) (hE0 : E i = .inr (5, [.int (nI 0), .null, .long 0, .null, .null, .int (nI 0), .null, .int (nI 0), .null, .null, .null, .null, .int (nI 0), .null, .null, .null, .null])) : MK l yX8_init wsX8_init ({ frames := 1, cells := 12, slots := 9846, locals := 20 } : Room) 12 9846 G tC ad N (N + 12) E [.ref (ad i)] (fun ad2 E2 => E2 i = .inr (5, [.int (nI 0), .ref (ad2 N), .long 0, .ref (ad2 (N + 1)), .ref (ad2 (N + 2)), .int (nI 0), .ref (ad2 (N + 3)), .int (nI 0), .ref (ad2 (N + 4)), .ref (ad2 (N + 5)), .ref (ad2 (N + 6)), .ref (ad2 (N + 7)), .int (nI 0), .ref (ad2 (N + 8)), .ref (ad2 (N + 9)), .ref (ad2 (N + 10)), .ref (ad2 (N + 11))]) ∧ E2 N = eI G 508 (fillF (fun _ => nI 0) 4 8 (-1)) ∧ E2 (N + 1) = eI G 10 (fun _ => nI 0) ∧ E2 (N + 2) = eI G 10 (fun _ => nI 0) ∧ E2 (N + 3) = eI G 8128 (fun _ => nI 0) ∧ E2 (N + 4) = eI G 1016 (fun _ => nI 0) ∧ E2 (N + 5) = eJ G 2 (fun _ => 0) ∧ E2 (N + 6) = eZ G 2 (fun _ => nI 0) ∧ E2 (N + 7) = eI G 80 (fun _ => nI 0) ∧ E2 (N + 8) = eI G 60 (fun _ => nI 0) ∧ E2 (N + 9) = eI G 10 (fun _ => nI 0) ∧ E2 (N + 10) = eI G 10 (fun _ => nI 0) ∧ E2 (N + 11) = eI G 10 (fun _ => nI 0) ∧ (∀ j, j < N → j ≠ i → E2 j = E j)) := by
  refine MK_of RX8 rfl (by decide) rfl rfl (Nat.le_of_ble_eq_true rfl) ?_
  intro pp_ ee_ ss_ mm_ aa_ bb_ me_ cc_ A ls C hnam hAO hw hl
  have hx := C.1
  have hb := C.2.1
  have hown := C.2.2.2.2.1
  have hts := C.2.2.2.2.2.1
  have hl : lv_has ls 2 [(0, .ref (ad i))] := hl
  have hinX8 : ∀ w ∈ u_ws RX8 TX8 17, w ∈ wsX8_init := by decide +kernel
  have zfr0 : ∀ j, j < N → E j = E j := fun _ _ => rfl
  refine lv_aload_n hx hb dX8_init_0 rfl (lv_at hl 0 rfl) ?_
  refine r_objInit C (by decide +kernel) (by decide +kernel) (by decide +kernel) hl.1 dX8_init_1 (Nat.le_of_ble_eq_true rfl) (Nat.le_of_ble_eq_true rfl) ?_
  refine lv_aload_n hx hb dX8_init_4 rfl (lv_at hl 0 rfl) ?_
  refine lv_sipush (v := nI 508) hx hb dX8_init_5 rfl ?_
  refine r_newI C hw (n := 508) (by decide +kernel) (by decide) (Nat.le_of_ble_eq_true rfl) (Nat.le_of_ble_eq_true rfl) dX8_init_8 (fun zA1 zE1 zH1 za1 zg1 zf1 zw1 => ?_)
  have zk1_0 : zE1 i = .inr (5, [.int (nI 0), .null, .long 0, .null, .null, .int (nI 0), .null, .int (nI 0), .null, .null, .null, .null, .int (nI 0), .null, .null, .null, .null]) := (zf1 _ (by omega)).trans hE0
  have zh1_0 : zE1 N = eI G 508 (fun _ => nI 0) := zg1
  have zfr1 : ∀ j, j < N → zE1 j = E j := fun j zm0 => (zf1 j (by omega) ).trans (zfr0 j zm0)
  have zag1 : ∀ j, j < N → zA1 j = ad j := fun j hj => (za1 j (by omega)).trans ((fun _ _ => rfl) j hj)
  have hl : lv_has ls 2 [(0, .ref (zA1 i))] := by rw [za1 (i) (by omega)]; exact hl
  refine r_stk (st2 := [.ref (zA1 (N)), .ref (zA1 i)]) (by rw [za1 (i) (by omega)]) ?_
  refine r_putF C hnam zw1 RX8 TX8 17 5 hinX8 tyX8 tyX8_ok nmX8 (i := i) (by omega) zk1_0 rfl 1 (by decide) (by decide +kernel) rfl rfl rfl (v := .ref (zA1 N)) rfl rfl (Nat.le_of_ble_eq_true rfl) dX8_init_10 (fun zE2 zH2 zL2 zg2 zf2 zw2 => ?_)
  have zh2_0 : zE2 i = .inr (5, [.int (nI 0), .ref (zA1 N), .long 0, .null, .null, .int (nI 0), .null, .int (nI 0), .null, .null, .null, .null, .int (nI 0), .null, .null, .null, .null]) := zg2
  have zk2_0 : zE2 N = eI G 508 (fun _ => nI 0) := (zf2 _ (by omega)).trans zh1_0
  have zfr2 : ∀ j, j < N → j ≠ i → zE2 j = E j := fun j zm0 zm1 => (zf2 j zm1).trans (zfr1 j zm0)
  refine lv_aload_n hx hb dX8_init_13 rfl (lv_at hl 0 rfl) ?_
  refine lv_bipush (v := nI 10) hx hb dX8_init_14 rfl ?_
  refine r_newI C zw2 (n := 10) (by decide +kernel) (by decide) (Nat.le_of_ble_eq_true rfl) (Nat.le_of_ble_eq_true rfl) dX8_init_16 (fun zA3 zE3 zH3 za3 zg3 zf3 zw3 => ?_)
  have zk3_0 : zE3 N = eI G 508 (fun _ => nI 0) := (zf3 _ (by omega)).trans zk2_0
  have zk3_1 : zE3 i = .inr (5, [.int (nI 0), .ref (zA3 N), .long 0, .null, .null, .int (nI 0), .null, .int (nI 0), .null, .null, .null, .null, .int (nI 0), .null, .null, .null, .null]) := (zf3 _ (by omega)).trans (zh2_0.trans (by rw [za3 (N) (by omega)]))
  have zh3_0 : zE3 (N + 1) = eI G 10 (fun _ => nI 0) := zg3
  have zfr3 : ∀ j, j < N → j ≠ i → zE3 j = E j := fun j zm0 zm1 => (zf3 j (by omega) ).trans (zfr2 j zm0 zm1)
  have zag3 : ∀ j, j < N → zA3 j = ad j := fun j hj => (za3 j (by omega)).trans (zag1 j hj)
  have hl : lv_has ls 2 [(0, .ref (zA3 i))] := by rw [za3 (i) (by omega)]; exact hl
  refine r_stk (st2 := [.ref (zA3 ((N + 1))), .ref (zA3 i)]) (by rw [za3 (i) (by omega)]) ?_
  refine r_putF C hnam zw3 RX8 TX8 17 5 hinX8 tyX8 tyX8_ok nmX8 (i := i) (by omega) zk3_1 rfl 3 (by decide) (by decide +kernel) rfl rfl rfl (v := .ref (zA3 (N + 1))) rfl rfl (Nat.le_of_ble_eq_true rfl) dX8_init_18 (fun zE4 zH4 zL4 zg4 zf4 zw4 => ?_)
  have zh4_0 : zE4 i = .inr (5, [.int (nI 0), .ref (zA3 N), .long 0, .ref (zA3 (N + 1)), .null, .int (nI 0), .null, .int (nI 0), .null, .null, .null, .null, .int (nI 0), .null, .null, .null, .null]) := zg4
  have zk4_0 : zE4 N = eI G 508 (fun _ => nI 0) := (zf4 _ (by omega)).trans zk3_0
  have zk4_1 : zE4 (N + 1) = eI G 10 (fun _ => nI 0) := (zf4 _ (by omega)).trans zh3_0
  have zfr4 : ∀ j, j < N → j ≠ i → zE4 j = E j := fun j zm0 zm1 => (zf4 j zm1).trans (zfr3 j zm0 zm1)
  refine lv_aload_n hx hb dX8_init_21 rfl (lv_at hl 0 rfl) ?_
  refine lv_bipush (v := nI 10) hx hb dX8_init_22 rfl ?_
  refine r_newI C zw4 (n := 10) (by decide +kernel) (by decide) (Nat.le_of_ble_eq_true rfl) (Nat.le_of_ble_eq_true rfl) dX8_init_24 (fun zA5 zE5 zH5 za5 zg5 zf5 zw5 => ?_)
  have zk5_0 : zE5 N = eI G 508 (fun _ => nI 0) := (zf5 _ (by omega)).trans zk4_0
  have zk5_1 : zE5 (N + 1) = eI G 10 (fun _ => nI 0) := (zf5 _ (by omega)).trans zk4_1
  have zk5_2 : zE5 i = .inr (5, [.int (nI 0), .ref (zA5 N), .long 0, .ref (zA5 (N + 1)), .null, .int (nI 0), .null, .int (nI 0), .null, .null, .null, .null, .int (nI 0), .null, .null, .null, .null]) := (zf5 _ (by omega)).trans (zh4_0.trans (by rw [za5 (N) (by omega), za5 ((N + 1)) (by omega)]))
  have zh5_0 : zE5 (N + 2) = eI G 10 (fun _ => nI 0) := zg5
  have zfr5 : ∀ j, j < N → j ≠ i → zE5 j = E j := fun j zm0 zm1 => (zf5 j (by omega) ).trans (zfr4 j zm0 zm1)
  have zag5 : ∀ j, j < N → zA5 j = ad j := fun j hj => (za5 j (by omega)).trans (zag3 j hj)
  have hl : lv_has ls 2 [(0, .ref (zA5 i))] := by rw [za5 (i) (by omega)]; exact hl
  refine r_stk (st2 := [.ref (zA5 ((N + 2))), .ref (zA5 i)]) (by rw [za5 (i) (by omega)]) ?_
  refine r_putF C hnam zw5 RX8 TX8 17 5 hinX8 tyX8 tyX8_ok nmX8 (i := i) (by omega) zk5_2 rfl 4 (by decide) (by decide +kernel) rfl rfl rfl (v := .ref (zA5 (N + 2))) rfl rfl (Nat.le_of_ble_eq_true rfl) dX8_init_26 (fun zE6 zH6 zL6 zg6 zf6 zw6 => ?_)
  have zh6_0 : zE6 i = .inr (5, [.int (nI 0), .ref (zA5 N), .long 0, .ref (zA5 (N + 1)), .ref (zA5 (N + 2)), .int (nI 0), .null, .int (nI 0), .null, .null, .null, .null, .int (nI 0), .null, .null, .null, .null]) := zg6
  have zk6_0 : zE6 N = eI G 508 (fun _ => nI 0) := (zf6 _ (by omega)).trans zk5_0
  have zk6_1 : zE6 (N + 1) = eI G 10 (fun _ => nI 0) := (zf6 _ (by omega)).trans zk5_1
  have zk6_2 : zE6 (N + 2) = eI G 10 (fun _ => nI 0) := (zf6 _ (by omega)).trans zh5_0
  have zfr6 : ∀ j, j < N → j ≠ i → zE6 j = E j := fun j zm0 zm1 => (zf6 j zm1).trans (zfr5 j zm0 zm1)
  refine lv_aload_n hx hb dX8_init_29 rfl (lv_at hl 0 rfl) ?_
  refine lv_sipush (v := nI 8128) hx hb dX8_init_30 rfl ?_
  refine r_newI C zw6 (n := 8128) (by decide +kernel) (by decide) (Nat.le_of_ble_eq_true rfl) (Nat.le_of_ble_eq_true rfl) dX8_init_33 (fun zA7 zE7 zH7 za7 zg7 zf7 zw7 => ?_)
  have zk7_0 : zE7 N = eI G 508 (fun _ => nI 0) := (zf7 _ (by omega)).trans zk6_0
  have zk7_1 : zE7 (N + 1) = eI G 10 (fun _ => nI 0) := (zf7 _ (by omega)).trans zk6_1
  have zk7_2 : zE7 (N + 2) = eI G 10 (fun _ => nI 0) := (zf7 _ (by omega)).trans zk6_2
  have zk7_3 : zE7 i = .inr (5, [.int (nI 0), .ref (zA7 N), .long 0, .ref (zA7 (N + 1)), .ref (zA7 (N + 2)), .int (nI 0), .null, .int (nI 0), .null, .null, .null, .null, .int (nI 0), .null, .null, .null, .null]) := (zf7 _ (by omega)).trans (zh6_0.trans (by rw [za7 (N) (by omega), za7 ((N + 1)) (by omega), za7 ((N + 2)) (by omega)]))
  have zh7_0 : zE7 (N + 3) = eI G 8128 (fun _ => nI 0) := zg7
  have zfr7 : ∀ j, j < N → j ≠ i → zE7 j = E j := fun j zm0 zm1 => (zf7 j (by omega) ).trans (zfr6 j zm0 zm1)
  have zag7 : ∀ j, j < N → zA7 j = ad j := fun j hj => (za7 j (by omega)).trans (zag5 j hj)
  have hl : lv_has ls 2 [(0, .ref (zA7 i))] := by rw [za7 (i) (by omega)]; exact hl
  refine r_stk (st2 := [.ref (zA7 ((N + 3))), .ref (zA7 i)]) (by rw [za7 (i) (by omega)]) ?_
  refine r_putF C hnam zw7 RX8 TX8 17 5 hinX8 tyX8 tyX8_ok nmX8 (i := i) (by omega) zk7_3 rfl 6 (by decide) (by decide +kernel) rfl rfl rfl (v := .ref (zA7 (N + 3))) rfl rfl (Nat.le_of_ble_eq_true rfl) dX8_init_35 (fun zE8 zH8 zL8 zg8 zf8 zw8 => ?_)
  have zh8_0 : zE8 i = .inr (5, [.int (nI 0), .ref (zA7 N), .long 0, .ref (zA7 (N + 1)), .ref (zA7 (N + 2)), .int (nI 0), .ref (zA7 (N + 3)), .int (nI 0), .null, .null, .null, .null, .int (nI 0), .null, .null, .null, .null]) := zg8
  have zk8_0 : zE8 N = eI G 508 (fun _ => nI 0) := (zf8 _ (by omega)).trans zk7_0
  have zk8_1 : zE8 (N + 1) = eI G 10 (fun _ => nI 0) := (zf8 _ (by omega)).trans zk7_1
  have zk8_2 : zE8 (N + 2) = eI G 10 (fun _ => nI 0) := (zf8 _ (by omega)).trans zk7_2
  have zk8_3 : zE8 (N + 3) = eI G 8128 (fun _ => nI 0) := (zf8 _ (by omega)).trans zh7_0
  have zfr8 : ∀ j, j < N → j ≠ i → zE8 j = E j := fun j zm0 zm1 => (zf8 j zm1).trans (zfr7 j zm0 zm1)
  refine lv_aload_n hx hb dX8_init_38 rfl (lv_at hl 0 rfl) ?_
  refine lv_sipush (v := nI 1016) hx hb dX8_init_39 rfl ?_
  refine r_newI C zw8 (n := 1016) (by decide +kernel) (by decide) (Nat.le_of_ble_eq_true rfl) (Nat.le_of_ble_eq_true rfl) dX8_init_42 (fun zA9 zE9 zH9 za9 zg9 zf9 zw9 => ?_)
  have zk9_0 : zE9 N = eI G 508 (fun _ => nI 0) := (zf9 _ (by omega)).trans zk8_0
  have zk9_1 : zE9 (N + 1) = eI G 10 (fun _ => nI 0) := (zf9 _ (by omega)).trans zk8_1
  have zk9_2 : zE9 (N + 2) = eI G 10 (fun _ => nI 0) := (zf9 _ (by omega)).trans zk8_2
  have zk9_3 : zE9 (N + 3) = eI G 8128 (fun _ => nI 0) := (zf9 _ (by omega)).trans zk8_3
  have zk9_4 : zE9 i = .inr (5, [.int (nI 0), .ref (zA9 N), .long 0, .ref (zA9 (N + 1)), .ref (zA9 (N + 2)), .int (nI 0), .ref (zA9 (N + 3)), .int (nI 0), .null, .null, .null, .null, .int (nI 0), .null, .null, .null, .null]) := (zf9 _ (by omega)).trans (zh8_0.trans (by rw [za9 (N) (by omega), za9 ((N + 1)) (by omega), za9 ((N + 2)) (by omega), za9 ((N + 3)) (by omega)]))
  have zh9_0 : zE9 (N + 4) = eI G 1016 (fun _ => nI 0) := zg9
  have zfr9 : ∀ j, j < N → j ≠ i → zE9 j = E j := fun j zm0 zm1 => (zf9 j (by omega) ).trans (zfr8 j zm0 zm1)
  have zag9 : ∀ j, j < N → zA9 j = ad j := fun j hj => (za9 j (by omega)).trans (zag7 j hj)
  have hl : lv_has ls 2 [(0, .ref (zA9 i))] := by rw [za9 (i) (by omega)]; exact hl
  refine r_stk (st2 := [.ref (zA9 ((N + 4))), .ref (zA9 i)]) (by rw [za9 (i) (by omega)]) ?_
  refine r_putF C hnam zw9 RX8 TX8 17 5 hinX8 tyX8 tyX8_ok nmX8 (i := i) (by omega) zk9_4 rfl 8 (by decide) (by decide +kernel) rfl rfl rfl (v := .ref (zA9 (N + 4))) rfl rfl (Nat.le_of_ble_eq_true rfl) dX8_init_44 (fun zE10 zH10 zL10 zg10 zf10 zw10 => ?_)
  have zh10_0 : zE10 i = .inr (5, [.int (nI 0), .ref (zA9 N), .long 0, .ref (zA9 (N + 1)), .ref (zA9 (N + 2)), .int (nI 0), .ref (zA9 (N + 3)), .int (nI 0), .ref (zA9 (N + 4)), .null, .null, .null, .int (nI 0), .null, .null, .null, .null]) := zg10
  have zk10_0 : zE10 N = eI G 508 (fun _ => nI 0) := (zf10 _ (by omega)).trans zk9_0
  have zk10_1 : zE10 (N + 1) = eI G 10 (fun _ => nI 0) := (zf10 _ (by omega)).trans zk9_1
  have zk10_2 : zE10 (N + 2) = eI G 10 (fun _ => nI 0) := (zf10 _ (by omega)).trans zk9_2
  have zk10_3 : zE10 (N + 3) = eI G 8128 (fun _ => nI 0) := (zf10 _ (by omega)).trans zk9_3
  have zk10_4 : zE10 (N + 4) = eI G 1016 (fun _ => nI 0) := (zf10 _ (by omega)).trans zh9_0
  have zfr10 : ∀ j, j < N → j ≠ i → zE10 j = E j := fun j zm0 zm1 => (zf10 j zm1).trans (zfr9 j zm0 zm1)
  refine lv_aload_n hx hb dX8_init_47 rfl (lv_at hl 0 rfl) ?_
  refine lv_iconst (v := nI 2) hx hb dX8_init_48 rfl ?_
  refine r_newJ C zw10 (n := 2) (by decide +kernel) (by decide) (Nat.le_of_ble_eq_true rfl) (Nat.le_of_ble_eq_true rfl) dX8_init_49 (fun zA11 zE11 zH11 za11 zg11 zf11 zw11 => ?_)
  have zk11_0 : zE11 N = eI G 508 (fun _ => nI 0) := (zf11 _ (by omega)).trans zk10_0
  have zk11_1 : zE11 (N + 1) = eI G 10 (fun _ => nI 0) := (zf11 _ (by omega)).trans zk10_1
  have zk11_2 : zE11 (N + 2) = eI G 10 (fun _ => nI 0) := (zf11 _ (by omega)).trans zk10_2
  have zk11_3 : zE11 (N + 3) = eI G 8128 (fun _ => nI 0) := (zf11 _ (by omega)).trans zk10_3
  have zk11_4 : zE11 (N + 4) = eI G 1016 (fun _ => nI 0) := (zf11 _ (by omega)).trans zk10_4
  have zk11_5 : zE11 i = .inr (5, [.int (nI 0), .ref (zA11 N), .long 0, .ref (zA11 (N + 1)), .ref (zA11 (N + 2)), .int (nI 0), .ref (zA11 (N + 3)), .int (nI 0), .ref (zA11 (N + 4)), .null, .null, .null, .int (nI 0), .null, .null, .null, .null]) := (zf11 _ (by omega)).trans (zh10_0.trans (by rw [za11 (N) (by omega), za11 ((N + 1)) (by omega), za11 ((N + 2)) (by omega), za11 ((N + 3)) (by omega), za11 ((N + 4)) (by omega)]))
  have zh11_0 : zE11 (N + 5) = eJ G 2 (fun _ => 0) := zg11
  have zfr11 : ∀ j, j < N → j ≠ i → zE11 j = E j := fun j zm0 zm1 => (zf11 j (by omega) ).trans (zfr10 j zm0 zm1)
  have zag11 : ∀ j, j < N → zA11 j = ad j := fun j hj => (za11 j (by omega)).trans (zag9 j hj)
  have hl : lv_has ls 2 [(0, .ref (zA11 i))] := by rw [za11 (i) (by omega)]; exact hl
  refine r_stk (st2 := [.ref (zA11 ((N + 5))), .ref (zA11 i)]) (by rw [za11 (i) (by omega)]) ?_
  refine r_putF C hnam zw11 RX8 TX8 17 5 hinX8 tyX8 tyX8_ok nmX8 (i := i) (by omega) zk11_5 rfl 9 (by decide) (by decide +kernel) rfl rfl rfl (v := .ref (zA11 (N + 5))) rfl rfl (Nat.le_of_ble_eq_true rfl) dX8_init_51 (fun zE12 zH12 zL12 zg12 zf12 zw12 => ?_)
  have zh12_0 : zE12 i = .inr (5, [.int (nI 0), .ref (zA11 N), .long 0, .ref (zA11 (N + 1)), .ref (zA11 (N + 2)), .int (nI 0), .ref (zA11 (N + 3)), .int (nI 0), .ref (zA11 (N + 4)), .ref (zA11 (N + 5)), .null, .null, .int (nI 0), .null, .null, .null, .null]) := zg12
  have zk12_0 : zE12 N = eI G 508 (fun _ => nI 0) := (zf12 _ (by omega)).trans zk11_0
  have zk12_1 : zE12 (N + 1) = eI G 10 (fun _ => nI 0) := (zf12 _ (by omega)).trans zk11_1
  have zk12_2 : zE12 (N + 2) = eI G 10 (fun _ => nI 0) := (zf12 _ (by omega)).trans zk11_2
  have zk12_3 : zE12 (N + 3) = eI G 8128 (fun _ => nI 0) := (zf12 _ (by omega)).trans zk11_3
  have zk12_4 : zE12 (N + 4) = eI G 1016 (fun _ => nI 0) := (zf12 _ (by omega)).trans zk11_4
  have zk12_5 : zE12 (N + 5) = eJ G 2 (fun _ => 0) := (zf12 _ (by omega)).trans zh11_0
  have zfr12 : ∀ j, j < N → j ≠ i → zE12 j = E j := fun j zm0 zm1 => (zf12 j zm1).trans (zfr11 j zm0 zm1)
  refine lv_aload_n hx hb dX8_init_54 rfl (lv_at hl 0 rfl) ?_
  refine lv_iconst (v := nI 2) hx hb dX8_init_55 rfl ?_
  refine r_newZ C zw12 (n := 2) (by decide +kernel) (by decide) (Nat.le_of_ble_eq_true rfl) (Nat.le_of_ble_eq_true rfl) dX8_init_56 (fun zA13 zE13 zH13 za13 zg13 zf13 zw13 => ?_)
  have zk13_0 : zE13 N = eI G 508 (fun _ => nI 0) := (zf13 _ (by omega)).trans zk12_0
  have zk13_1 : zE13 (N + 1) = eI G 10 (fun _ => nI 0) := (zf13 _ (by omega)).trans zk12_1
  have zk13_2 : zE13 (N + 2) = eI G 10 (fun _ => nI 0) := (zf13 _ (by omega)).trans zk12_2
  have zk13_3 : zE13 (N + 3) = eI G 8128 (fun _ => nI 0) := (zf13 _ (by omega)).trans zk12_3
  have zk13_4 : zE13 (N + 4) = eI G 1016 (fun _ => nI 0) := (zf13 _ (by omega)).trans zk12_4
  have zk13_5 : zE13 (N + 5) = eJ G 2 (fun _ => 0) := (zf13 _ (by omega)).trans zk12_5
  have zk13_6 : zE13 i = .inr (5, [.int (nI 0), .ref (zA13 N), .long 0, .ref (zA13 (N + 1)), .ref (zA13 (N + 2)), .int (nI 0), .ref (zA13 (N + 3)), .int (nI 0), .ref (zA13 (N + 4)), .ref (zA13 (N + 5)), .null, .null, .int (nI 0), .null, .null, .null, .null]) := (zf13 _ (by omega)).trans (zh12_0.trans (by rw [za13 (N) (by omega), za13 ((N + 1)) (by omega), za13 ((N + 2)) (by omega), za13 ((N + 3)) (by omega), za13 ((N + 4)) (by omega), za13 ((N + 5)) (by omega)]))
  have zh13_0 : zE13 (N + 6) = eZ G 2 (fun _ => nI 0) := zg13
  have zfr13 : ∀ j, j < N → j ≠ i → zE13 j = E j := fun j zm0 zm1 => (zf13 j (by omega) ).trans (zfr12 j zm0 zm1)
  have zag13 : ∀ j, j < N → zA13 j = ad j := fun j hj => (za13 j (by omega)).trans (zag11 j hj)
  have hl : lv_has ls 2 [(0, .ref (zA13 i))] := by rw [za13 (i) (by omega)]; exact hl
  refine r_stk (st2 := [.ref (zA13 ((N + 6))), .ref (zA13 i)]) (by rw [za13 (i) (by omega)]) ?_
  refine r_putF C hnam zw13 RX8 TX8 17 5 hinX8 tyX8 tyX8_ok nmX8 (i := i) (by omega) zk13_6 rfl 10 (by decide) (by decide +kernel) rfl rfl rfl (v := .ref (zA13 (N + 6))) rfl rfl (Nat.le_of_ble_eq_true rfl) dX8_init_58 (fun zE14 zH14 zL14 zg14 zf14 zw14 => ?_)
  have zh14_0 : zE14 i = .inr (5, [.int (nI 0), .ref (zA13 N), .long 0, .ref (zA13 (N + 1)), .ref (zA13 (N + 2)), .int (nI 0), .ref (zA13 (N + 3)), .int (nI 0), .ref (zA13 (N + 4)), .ref (zA13 (N + 5)), .ref (zA13 (N + 6)), .null, .int (nI 0), .null, .null, .null, .null]) := zg14
  have zk14_0 : zE14 N = eI G 508 (fun _ => nI 0) := (zf14 _ (by omega)).trans zk13_0
  have zk14_1 : zE14 (N + 1) = eI G 10 (fun _ => nI 0) := (zf14 _ (by omega)).trans zk13_1
  have zk14_2 : zE14 (N + 2) = eI G 10 (fun _ => nI 0) := (zf14 _ (by omega)).trans zk13_2
  have zk14_3 : zE14 (N + 3) = eI G 8128 (fun _ => nI 0) := (zf14 _ (by omega)).trans zk13_3
  have zk14_4 : zE14 (N + 4) = eI G 1016 (fun _ => nI 0) := (zf14 _ (by omega)).trans zk13_4
  have zk14_5 : zE14 (N + 5) = eJ G 2 (fun _ => 0) := (zf14 _ (by omega)).trans zk13_5
  have zk14_6 : zE14 (N + 6) = eZ G 2 (fun _ => nI 0) := (zf14 _ (by omega)).trans zh13_0
  have zfr14 : ∀ j, j < N → j ≠ i → zE14 j = E j := fun j zm0 zm1 => (zf14 j zm1).trans (zfr13 j zm0 zm1)
  refine lv_aload_n hx hb dX8_init_61 rfl (lv_at hl 0 rfl) ?_
  refine lv_bipush (v := nI 80) hx hb dX8_init_62 rfl ?_
  refine r_newI C zw14 (n := 80) (by decide +kernel) (by decide) (Nat.le_of_ble_eq_true rfl) (Nat.le_of_ble_eq_true rfl) dX8_init_64 (fun zA15 zE15 zH15 za15 zg15 zf15 zw15 => ?_)
  have zk15_0 : zE15 N = eI G 508 (fun _ => nI 0) := (zf15 _ (by omega)).trans zk14_0
  have zk15_1 : zE15 (N + 1) = eI G 10 (fun _ => nI 0) := (zf15 _ (by omega)).trans zk14_1
  have zk15_2 : zE15 (N + 2) = eI G 10 (fun _ => nI 0) := (zf15 _ (by omega)).trans zk14_2
  have zk15_3 : zE15 (N + 3) = eI G 8128 (fun _ => nI 0) := (zf15 _ (by omega)).trans zk14_3
  have zk15_4 : zE15 (N + 4) = eI G 1016 (fun _ => nI 0) := (zf15 _ (by omega)).trans zk14_4
  have zk15_5 : zE15 (N + 5) = eJ G 2 (fun _ => 0) := (zf15 _ (by omega)).trans zk14_5
  have zk15_6 : zE15 (N + 6) = eZ G 2 (fun _ => nI 0) := (zf15 _ (by omega)).trans zk14_6
  have zk15_7 : zE15 i = .inr (5, [.int (nI 0), .ref (zA15 N), .long 0, .ref (zA15 (N + 1)), .ref (zA15 (N + 2)), .int (nI 0), .ref (zA15 (N + 3)), .int (nI 0), .ref (zA15 (N + 4)), .ref (zA15 (N + 5)), .ref (zA15 (N + 6)), .null, .int (nI 0), .null, .null, .null, .null]) := (zf15 _ (by omega)).trans (zh14_0.trans (by rw [za15 (N) (by omega), za15 ((N + 1)) (by omega), za15 ((N + 2)) (by omega), za15 ((N + 3)) (by omega), za15 ((N + 4)) (by omega), za15 ((N + 5)) (by omega), za15 ((N + 6)) (by omega)]))
  have zh15_0 : zE15 (N + 7) = eI G 80 (fun _ => nI 0) := zg15
  have zfr15 : ∀ j, j < N → j ≠ i → zE15 j = E j := fun j zm0 zm1 => (zf15 j (by omega) ).trans (zfr14 j zm0 zm1)
  have zag15 : ∀ j, j < N → zA15 j = ad j := fun j hj => (za15 j (by omega)).trans (zag13 j hj)
  have hl : lv_has ls 2 [(0, .ref (zA15 i))] := by rw [za15 (i) (by omega)]; exact hl
  refine r_stk (st2 := [.ref (zA15 ((N + 7))), .ref (zA15 i)]) (by rw [za15 (i) (by omega)]) ?_
  refine r_putF C hnam zw15 RX8 TX8 17 5 hinX8 tyX8 tyX8_ok nmX8 (i := i) (by omega) zk15_7 rfl 11 (by decide) (by decide +kernel) rfl rfl rfl (v := .ref (zA15 (N + 7))) rfl rfl (Nat.le_of_ble_eq_true rfl) dX8_init_66 (fun zE16 zH16 zL16 zg16 zf16 zw16 => ?_)
  have zh16_0 : zE16 i = .inr (5, [.int (nI 0), .ref (zA15 N), .long 0, .ref (zA15 (N + 1)), .ref (zA15 (N + 2)), .int (nI 0), .ref (zA15 (N + 3)), .int (nI 0), .ref (zA15 (N + 4)), .ref (zA15 (N + 5)), .ref (zA15 (N + 6)), .ref (zA15 (N + 7)), .int (nI 0), .null, .null, .null, .null]) := zg16
  have zk16_0 : zE16 N = eI G 508 (fun _ => nI 0) := (zf16 _ (by omega)).trans zk15_0
  have zk16_1 : zE16 (N + 1) = eI G 10 (fun _ => nI 0) := (zf16 _ (by omega)).trans zk15_1
  have zk16_2 : zE16 (N + 2) = eI G 10 (fun _ => nI 0) := (zf16 _ (by omega)).trans zk15_2
  have zk16_3 : zE16 (N + 3) = eI G 8128 (fun _ => nI 0) := (zf16 _ (by omega)).trans zk15_3
  have zk16_4 : zE16 (N + 4) = eI G 1016 (fun _ => nI 0) := (zf16 _ (by omega)).trans zk15_4
  have zk16_5 : zE16 (N + 5) = eJ G 2 (fun _ => 0) := (zf16 _ (by omega)).trans zk15_5
  have zk16_6 : zE16 (N + 6) = eZ G 2 (fun _ => nI 0) := (zf16 _ (by omega)).trans zk15_6
  have zk16_7 : zE16 (N + 7) = eI G 80 (fun _ => nI 0) := (zf16 _ (by omega)).trans zh15_0
  have zfr16 : ∀ j, j < N → j ≠ i → zE16 j = E j := fun j zm0 zm1 => (zf16 j zm1).trans (zfr15 j zm0 zm1)
  refine lv_aload_n hx hb dX8_init_69 rfl (lv_at hl 0 rfl) ?_
  refine lv_bipush (v := nI 60) hx hb dX8_init_70 rfl ?_
  refine r_newI C zw16 (n := 60) (by decide +kernel) (by decide) (Nat.le_of_ble_eq_true rfl) (Nat.le_of_ble_eq_true rfl) dX8_init_72 (fun zA17 zE17 zH17 za17 zg17 zf17 zw17 => ?_)
  have zk17_0 : zE17 N = eI G 508 (fun _ => nI 0) := (zf17 _ (by omega)).trans zk16_0
  have zk17_1 : zE17 (N + 1) = eI G 10 (fun _ => nI 0) := (zf17 _ (by omega)).trans zk16_1
  have zk17_2 : zE17 (N + 2) = eI G 10 (fun _ => nI 0) := (zf17 _ (by omega)).trans zk16_2
  have zk17_3 : zE17 (N + 3) = eI G 8128 (fun _ => nI 0) := (zf17 _ (by omega)).trans zk16_3
  have zk17_4 : zE17 (N + 4) = eI G 1016 (fun _ => nI 0) := (zf17 _ (by omega)).trans zk16_4
  have zk17_5 : zE17 (N + 5) = eJ G 2 (fun _ => 0) := (zf17 _ (by omega)).trans zk16_5
  have zk17_6 : zE17 (N + 6) = eZ G 2 (fun _ => nI 0) := (zf17 _ (by omega)).trans zk16_6
  have zk17_7 : zE17 (N + 7) = eI G 80 (fun _ => nI 0) := (zf17 _ (by omega)).trans zk16_7
  have zk17_8 : zE17 i = .inr (5, [.int (nI 0), .ref (zA17 N), .long 0, .ref (zA17 (N + 1)), .ref (zA17 (N + 2)), .int (nI 0), .ref (zA17 (N + 3)), .int (nI 0), .ref (zA17 (N + 4)), .ref (zA17 (N + 5)), .ref (zA17 (N + 6)), .ref (zA17 (N + 7)), .int (nI 0), .null, .null, .null, .null]) := (zf17 _ (by omega)).trans (zh16_0.trans (by rw [za17 (N) (by omega), za17 ((N + 1)) (by omega), za17 ((N + 2)) (by omega), za17 ((N + 3)) (by omega), za17 ((N + 4)) (by omega), za17 ((N + 5)) (by omega), za17 ((N + 6)) (by omega), za17 ((N + 7)) (by omega)]))
  have zh17_0 : zE17 (N + 8) = eI G 60 (fun _ => nI 0) := zg17
  have zfr17 : ∀ j, j < N → j ≠ i → zE17 j = E j := fun j zm0 zm1 => (zf17 j (by omega) ).trans (zfr16 j zm0 zm1)
  have zag17 : ∀ j, j < N → zA17 j = ad j := fun j hj => (za17 j (by omega)).trans (zag15 j hj)
  have hl : lv_has ls 2 [(0, .ref (zA17 i))] := by rw [za17 (i) (by omega)]; exact hl
  refine r_stk (st2 := [.ref (zA17 ((N + 8))), .ref (zA17 i)]) (by rw [za17 (i) (by omega)]) ?_
  refine r_putF C hnam zw17 RX8 TX8 17 5 hinX8 tyX8 tyX8_ok nmX8 (i := i) (by omega) zk17_8 rfl 13 (by decide) (by decide +kernel) rfl rfl rfl (v := .ref (zA17 (N + 8))) rfl rfl (Nat.le_of_ble_eq_true rfl) dX8_init_74 (fun zE18 zH18 zL18 zg18 zf18 zw18 => ?_)
  have zh18_0 : zE18 i = .inr (5, [.int (nI 0), .ref (zA17 N), .long 0, .ref (zA17 (N + 1)), .ref (zA17 (N + 2)), .int (nI 0), .ref (zA17 (N + 3)), .int (nI 0), .ref (zA17 (N + 4)), .ref (zA17 (N + 5)), .ref (zA17 (N + 6)), .ref (zA17 (N + 7)), .int (nI 0), .ref (zA17 (N + 8)), .null, .null, .null]) := zg18
  have zk18_0 : zE18 N = eI G 508 (fun _ => nI 0) := (zf18 _ (by omega)).trans zk17_0
  have zk18_1 : zE18 (N + 1) = eI G 10 (fun _ => nI 0) := (zf18 _ (by omega)).trans zk17_1
  have zk18_2 : zE18 (N + 2) = eI G 10 (fun _ => nI 0) := (zf18 _ (by omega)).trans zk17_2
  have zk18_3 : zE18 (N + 3) = eI G 8128 (fun _ => nI 0) := (zf18 _ (by omega)).trans zk17_3
  have zk18_4 : zE18 (N + 4) = eI G 1016 (fun _ => nI 0) := (zf18 _ (by omega)).trans zk17_4
  have zk18_5 : zE18 (N + 5) = eJ G 2 (fun _ => 0) := (zf18 _ (by omega)).trans zk17_5
  have zk18_6 : zE18 (N + 6) = eZ G 2 (fun _ => nI 0) := (zf18 _ (by omega)).trans zk17_6
  have zk18_7 : zE18 (N + 7) = eI G 80 (fun _ => nI 0) := (zf18 _ (by omega)).trans zk17_7
  have zk18_8 : zE18 (N + 8) = eI G 60 (fun _ => nI 0) := (zf18 _ (by omega)).trans zh17_0
  have zfr18 : ∀ j, j < N → j ≠ i → zE18 j = E j := fun j zm0 zm1 => (zf18 j zm1).trans (zfr17 j zm0 zm1)
  refine lv_aload_n hx hb dX8_init_77 rfl (lv_at hl 0 rfl) ?_
  refine lv_bipush (v := nI 10) hx hb dX8_init_78 rfl ?_
  refine r_newI C zw18 (n := 10) (by decide +kernel) (by decide) (Nat.le_of_ble_eq_true rfl) (Nat.le_of_ble_eq_true rfl) dX8_init_80 (fun zA19 zE19 zH19 za19 zg19 zf19 zw19 => ?_)
  have zk19_0 : zE19 N = eI G 508 (fun _ => nI 0) := (zf19 _ (by omega)).trans zk18_0
  have zk19_1 : zE19 (N + 1) = eI G 10 (fun _ => nI 0) := (zf19 _ (by omega)).trans zk18_1
  have zk19_2 : zE19 (N + 2) = eI G 10 (fun _ => nI 0) := (zf19 _ (by omega)).trans zk18_2
  have zk19_3 : zE19 (N + 3) = eI G 8128 (fun _ => nI 0) := (zf19 _ (by omega)).trans zk18_3
  have zk19_4 : zE19 (N + 4) = eI G 1016 (fun _ => nI 0) := (zf19 _ (by omega)).trans zk18_4
  have zk19_5 : zE19 (N + 5) = eJ G 2 (fun _ => 0) := (zf19 _ (by omega)).trans zk18_5
  have zk19_6 : zE19 (N + 6) = eZ G 2 (fun _ => nI 0) := (zf19 _ (by omega)).trans zk18_6
  have zk19_7 : zE19 (N + 7) = eI G 80 (fun _ => nI 0) := (zf19 _ (by omega)).trans zk18_7
  have zk19_8 : zE19 (N + 8) = eI G 60 (fun _ => nI 0) := (zf19 _ (by omega)).trans zk18_8
  have zk19_9 : zE19 i = .inr (5, [.int (nI 0), .ref (zA19 N), .long 0, .ref (zA19 (N + 1)), .ref (zA19 (N + 2)), .int (nI 0), .ref (zA19 (N + 3)), .int (nI 0), .ref (zA19 (N + 4)), .ref (zA19 (N + 5)), .ref (zA19 (N + 6)), .ref (zA19 (N + 7)), .int (nI 0), .ref (zA19 (N + 8)), .null, .null, .null]) := (zf19 _ (by omega)).trans (zh18_0.trans (by rw [za19 (N) (by omega), za19 ((N + 1)) (by omega), za19 ((N + 2)) (by omega), za19 ((N + 3)) (by omega), za19 ((N + 4)) (by omega), za19 ((N + 5)) (by omega), za19 ((N + 6)) (by omega), za19 ((N + 7)) (by omega), za19 ((N + 8)) (by omega)]))
  have zh19_0 : zE19 (N + 9) = eI G 10 (fun _ => nI 0) := zg19
  have zfr19 : ∀ j, j < N → j ≠ i → zE19 j = E j := fun j zm0 zm1 => (zf19 j (by omega) ).trans (zfr18 j zm0 zm1)
  have zag19 : ∀ j, j < N → zA19 j = ad j := fun j hj => (za19 j (by omega)).trans (zag17 j hj)
  have hl : lv_has ls 2 [(0, .ref (zA19 i))] := by rw [za19 (i) (by omega)]; exact hl
  refine r_stk (st2 := [.ref (zA19 ((N + 9))), .ref (zA19 i)]) (by rw [za19 (i) (by omega)]) ?_
  refine r_putF C hnam zw19 RX8 TX8 17 5 hinX8 tyX8 tyX8_ok nmX8 (i := i) (by omega) zk19_9 rfl 14 (by decide) (by decide +kernel) rfl rfl rfl (v := .ref (zA19 (N + 9))) rfl rfl (Nat.le_of_ble_eq_true rfl) dX8_init_82 (fun zE20 zH20 zL20 zg20 zf20 zw20 => ?_)
  have zh20_0 : zE20 i = .inr (5, [.int (nI 0), .ref (zA19 N), .long 0, .ref (zA19 (N + 1)), .ref (zA19 (N + 2)), .int (nI 0), .ref (zA19 (N + 3)), .int (nI 0), .ref (zA19 (N + 4)), .ref (zA19 (N + 5)), .ref (zA19 (N + 6)), .ref (zA19 (N + 7)), .int (nI 0), .ref (zA19 (N + 8)), .ref (zA19 (N + 9)), .null, .null]) := zg20
  have zk20_0 : zE20 N = eI G 508 (fun _ => nI 0) := (zf20 _ (by omega)).trans zk19_0
  have zk20_1 : zE20 (N + 1) = eI G 10 (fun _ => nI 0) := (zf20 _ (by omega)).trans zk19_1
  have zk20_2 : zE20 (N + 2) = eI G 10 (fun _ => nI 0) := (zf20 _ (by omega)).trans zk19_2
  have zk20_3 : zE20 (N + 3) = eI G 8128 (fun _ => nI 0) := (zf20 _ (by omega)).trans zk19_3
  have zk20_4 : zE20 (N + 4) = eI G 1016 (fun _ => nI 0) := (zf20 _ (by omega)).trans zk19_4
  have zk20_5 : zE20 (N + 5) = eJ G 2 (fun _ => 0) := (zf20 _ (by omega)).trans zk19_5
  have zk20_6 : zE20 (N + 6) = eZ G 2 (fun _ => nI 0) := (zf20 _ (by omega)).trans zk19_6
  have zk20_7 : zE20 (N + 7) = eI G 80 (fun _ => nI 0) := (zf20 _ (by omega)).trans zk19_7
  have zk20_8 : zE20 (N + 8) = eI G 60 (fun _ => nI 0) := (zf20 _ (by omega)).trans zk19_8
  have zk20_9 : zE20 (N + 9) = eI G 10 (fun _ => nI 0) := (zf20 _ (by omega)).trans zh19_0
  have zfr20 : ∀ j, j < N → j ≠ i → zE20 j = E j := fun j zm0 zm1 => (zf20 j zm1).trans (zfr19 j zm0 zm1)
  refine lv_aload_n hx hb dX8_init_85 rfl (lv_at hl 0 rfl) ?_
  refine lv_bipush (v := nI 10) hx hb dX8_init_86 rfl ?_
  refine r_newI C zw20 (n := 10) (by decide +kernel) (by decide) (Nat.le_of_ble_eq_true rfl) (Nat.le_of_ble_eq_true rfl) dX8_init_88 (fun zA21 zE21 zH21 za21 zg21 zf21 zw21 => ?_)
  have zk21_0 : zE21 N = eI G 508 (fun _ => nI 0) := (zf21 _ (by omega)).trans zk20_0
  have zk21_1 : zE21 (N + 1) = eI G 10 (fun _ => nI 0) := (zf21 _ (by omega)).trans zk20_1
  have zk21_2 : zE21 (N + 2) = eI G 10 (fun _ => nI 0) := (zf21 _ (by omega)).trans zk20_2
  have zk21_3 : zE21 (N + 3) = eI G 8128 (fun _ => nI 0) := (zf21 _ (by omega)).trans zk20_3
  have zk21_4 : zE21 (N + 4) = eI G 1016 (fun _ => nI 0) := (zf21 _ (by omega)).trans zk20_4
  have zk21_5 : zE21 (N + 5) = eJ G 2 (fun _ => 0) := (zf21 _ (by omega)).trans zk20_5
  have zk21_6 : zE21 (N + 6) = eZ G 2 (fun _ => nI 0) := (zf21 _ (by omega)).trans zk20_6
  have zk21_7 : zE21 (N + 7) = eI G 80 (fun _ => nI 0) := (zf21 _ (by omega)).trans zk20_7
  have zk21_8 : zE21 (N + 8) = eI G 60 (fun _ => nI 0) := (zf21 _ (by omega)).trans zk20_8
  have zk21_9 : zE21 (N + 9) = eI G 10 (fun _ => nI 0) := (zf21 _ (by omega)).trans zk20_9
  have zk21_10 : zE21 i = .inr (5, [.int (nI 0), .ref (zA21 N), .long 0, .ref (zA21 (N + 1)), .ref (zA21 (N + 2)), .int (nI 0), .ref (zA21 (N + 3)), .int (nI 0), .ref (zA21 (N + 4)), .ref (zA21 (N + 5)), .ref (zA21 (N + 6)), .ref (zA21 (N + 7)), .int (nI 0), .ref (zA21 (N + 8)), .ref (zA21 (N + 9)), .null, .null]) := (zf21 _ (by omega)).trans (zh20_0.trans (by rw [za21 (N) (by omega), za21 ((N + 1)) (by omega), za21 ((N + 2)) (by omega), za21 ((N + 3)) (by omega), za21 ((N + 4)) (by omega), za21 ((N + 5)) (by omega), za21 ((N + 6)) (by omega), za21 ((N + 7)) (by omega), za21 ((N + 8)) (by omega), za21 ((N + 9)) (by omega)]))
  have zh21_0 : zE21 (N + 10) = eI G 10 (fun _ => nI 0) := zg21
  have zfr21 : ∀ j, j < N → j ≠ i → zE21 j = E j := fun j zm0 zm1 => (zf21 j (by omega) ).trans (zfr20 j zm0 zm1)
  have zag21 : ∀ j, j < N → zA21 j = ad j := fun j hj => (za21 j (by omega)).trans (zag19 j hj)
  have hl : lv_has ls 2 [(0, .ref (zA21 i))] := by rw [za21 (i) (by omega)]; exact hl
  refine r_stk (st2 := [.ref (zA21 ((N + 10))), .ref (zA21 i)]) (by rw [za21 (i) (by omega)]) ?_
  refine r_putF C hnam zw21 RX8 TX8 17 5 hinX8 tyX8 tyX8_ok nmX8 (i := i) (by omega) zk21_10 rfl 15 (by decide) (by decide +kernel) rfl rfl rfl (v := .ref (zA21 (N + 10))) rfl rfl (Nat.le_of_ble_eq_true rfl) dX8_init_90 (fun zE22 zH22 zL22 zg22 zf22 zw22 => ?_)
  have zh22_0 : zE22 i = .inr (5, [.int (nI 0), .ref (zA21 N), .long 0, .ref (zA21 (N + 1)), .ref (zA21 (N + 2)), .int (nI 0), .ref (zA21 (N + 3)), .int (nI 0), .ref (zA21 (N + 4)), .ref (zA21 (N + 5)), .ref (zA21 (N + 6)), .ref (zA21 (N + 7)), .int (nI 0), .ref (zA21 (N + 8)), .ref (zA21 (N + 9)), .ref (zA21 (N + 10)), .null]) := zg22
  have zk22_0 : zE22 N = eI G 508 (fun _ => nI 0) := (zf22 _ (by omega)).trans zk21_0
  have zk22_1 : zE22 (N + 1) = eI G 10 (fun _ => nI 0) := (zf22 _ (by omega)).trans zk21_1
  have zk22_2 : zE22 (N + 2) = eI G 10 (fun _ => nI 0) := (zf22 _ (by omega)).trans zk21_2
  have zk22_3 : zE22 (N + 3) = eI G 8128 (fun _ => nI 0) := (zf22 _ (by omega)).trans zk21_3
  have zk22_4 : zE22 (N + 4) = eI G 1016 (fun _ => nI 0) := (zf22 _ (by omega)).trans zk21_4
  have zk22_5 : zE22 (N + 5) = eJ G 2 (fun _ => 0) := (zf22 _ (by omega)).trans zk21_5
  have zk22_6 : zE22 (N + 6) = eZ G 2 (fun _ => nI 0) := (zf22 _ (by omega)).trans zk21_6
  have zk22_7 : zE22 (N + 7) = eI G 80 (fun _ => nI 0) := (zf22 _ (by omega)).trans zk21_7
  have zk22_8 : zE22 (N + 8) = eI G 60 (fun _ => nI 0) := (zf22 _ (by omega)).trans zk21_8
  have zk22_9 : zE22 (N + 9) = eI G 10 (fun _ => nI 0) := (zf22 _ (by omega)).trans zk21_9
  have zk22_10 : zE22 (N + 10) = eI G 10 (fun _ => nI 0) := (zf22 _ (by omega)).trans zh21_0
  have zfr22 : ∀ j, j < N → j ≠ i → zE22 j = E j := fun j zm0 zm1 => (zf22 j zm1).trans (zfr21 j zm0 zm1)
  refine lv_aload_n hx hb dX8_init_93 rfl (lv_at hl 0 rfl) ?_
  refine lv_bipush (v := nI 10) hx hb dX8_init_94 rfl ?_
  refine r_newI C zw22 (n := 10) (by decide +kernel) (by decide) (Nat.le_of_ble_eq_true rfl) (Nat.le_of_ble_eq_true rfl) dX8_init_96 (fun zA23 zE23 zH23 za23 zg23 zf23 zw23 => ?_)
  have zk23_0 : zE23 N = eI G 508 (fun _ => nI 0) := (zf23 _ (by omega)).trans zk22_0
  have zk23_1 : zE23 (N + 1) = eI G 10 (fun _ => nI 0) := (zf23 _ (by omega)).trans zk22_1
  have zk23_2 : zE23 (N + 2) = eI G 10 (fun _ => nI 0) := (zf23 _ (by omega)).trans zk22_2
  have zk23_3 : zE23 (N + 3) = eI G 8128 (fun _ => nI 0) := (zf23 _ (by omega)).trans zk22_3
  have zk23_4 : zE23 (N + 4) = eI G 1016 (fun _ => nI 0) := (zf23 _ (by omega)).trans zk22_4
  have zk23_5 : zE23 (N + 5) = eJ G 2 (fun _ => 0) := (zf23 _ (by omega)).trans zk22_5
  have zk23_6 : zE23 (N + 6) = eZ G 2 (fun _ => nI 0) := (zf23 _ (by omega)).trans zk22_6
  have zk23_7 : zE23 (N + 7) = eI G 80 (fun _ => nI 0) := (zf23 _ (by omega)).trans zk22_7
  have zk23_8 : zE23 (N + 8) = eI G 60 (fun _ => nI 0) := (zf23 _ (by omega)).trans zk22_8
  have zk23_9 : zE23 (N + 9) = eI G 10 (fun _ => nI 0) := (zf23 _ (by omega)).trans zk22_9
  have zk23_10 : zE23 (N + 10) = eI G 10 (fun _ => nI 0) := (zf23 _ (by omega)).trans zk22_10
  have zk23_11 : zE23 i = .inr (5, [.int (nI 0), .ref (zA23 N), .long 0, .ref (zA23 (N + 1)), .ref (zA23 (N + 2)), .int (nI 0), .ref (zA23 (N + 3)), .int (nI 0), .ref (zA23 (N + 4)), .ref (zA23 (N + 5)), .ref (zA23 (N + 6)), .ref (zA23 (N + 7)), .int (nI 0), .ref (zA23 (N + 8)), .ref (zA23 (N + 9)), .ref (zA23 (N + 10)), .null]) := (zf23 _ (by omega)).trans (zh22_0.trans (by rw [za23 (N) (by omega), za23 ((N + 1)) (by omega), za23 ((N + 2)) (by omega), za23 ((N + 3)) (by omega), za23 ((N + 4)) (by omega), za23 ((N + 5)) (by omega), za23 ((N + 6)) (by omega), za23 ((N + 7)) (by omega), za23 ((N + 8)) (by omega), za23 ((N + 9)) (by omega), za23 ((N + 10)) (by omega)]))
  have zh23_0 : zE23 (N + 11) = eI G 10 (fun _ => nI 0) := zg23
  have zfr23 : ∀ j, j < N → j ≠ i → zE23 j = E j := fun j zm0 zm1 => (zf23 j (by omega) ).trans (zfr22 j zm0 zm1)
  have zag23 : ∀ j, j < N → zA23 j = ad j := fun j hj => (za23 j (by omega)).trans (zag21 j hj)
  have hl : lv_has ls 2 [(0, .ref (zA23 i))] := by rw [za23 (i) (by omega)]; exact hl
  refine r_stk (st2 := [.ref (zA23 ((N + 11))), .ref (zA23 i)]) (by rw [za23 (i) (by omega)]) ?_
  refine r_putF C hnam zw23 RX8 TX8 17 5 hinX8 tyX8 tyX8_ok nmX8 (i := i) (by omega) zk23_11 rfl 16 (by decide) (by decide +kernel) rfl rfl rfl (v := .ref (zA23 (N + 11))) rfl rfl (Nat.le_of_ble_eq_true rfl) dX8_init_98 (fun zE24 zH24 zL24 zg24 zf24 zw24 => ?_)
  have zh24_0 : zE24 i = .inr (5, [.int (nI 0), .ref (zA23 N), .long 0, .ref (zA23 (N + 1)), .ref (zA23 (N + 2)), .int (nI 0), .ref (zA23 (N + 3)), .int (nI 0), .ref (zA23 (N + 4)), .ref (zA23 (N + 5)), .ref (zA23 (N + 6)), .ref (zA23 (N + 7)), .int (nI 0), .ref (zA23 (N + 8)), .ref (zA23 (N + 9)), .ref (zA23 (N + 10)), .ref (zA23 (N + 11))]) := zg24
  have zk24_0 : zE24 N = eI G 508 (fun _ => nI 0) := (zf24 _ (by omega)).trans zk23_0
  have zk24_1 : zE24 (N + 1) = eI G 10 (fun _ => nI 0) := (zf24 _ (by omega)).trans zk23_1
  have zk24_2 : zE24 (N + 2) = eI G 10 (fun _ => nI 0) := (zf24 _ (by omega)).trans zk23_2
  have zk24_3 : zE24 (N + 3) = eI G 8128 (fun _ => nI 0) := (zf24 _ (by omega)).trans zk23_3
  have zk24_4 : zE24 (N + 4) = eI G 1016 (fun _ => nI 0) := (zf24 _ (by omega)).trans zk23_4
  have zk24_5 : zE24 (N + 5) = eJ G 2 (fun _ => 0) := (zf24 _ (by omega)).trans zk23_5
  have zk24_6 : zE24 (N + 6) = eZ G 2 (fun _ => nI 0) := (zf24 _ (by omega)).trans zk23_6
  have zk24_7 : zE24 (N + 7) = eI G 80 (fun _ => nI 0) := (zf24 _ (by omega)).trans zk23_7
  have zk24_8 : zE24 (N + 8) = eI G 60 (fun _ => nI 0) := (zf24 _ (by omega)).trans zk23_8
  have zk24_9 : zE24 (N + 9) = eI G 10 (fun _ => nI 0) := (zf24 _ (by omega)).trans zk23_9
  have zk24_10 : zE24 (N + 10) = eI G 10 (fun _ => nI 0) := (zf24 _ (by omega)).trans zk23_10
  have zk24_11 : zE24 (N + 11) = eI G 10 (fun _ => nI 0) := (zf24 _ (by omega)).trans zh23_0
  have zfr24 : ∀ j, j < N → j ≠ i → zE24 j = E j := fun j zm0 zm1 => (zf24 j zm1).trans (zfr23 j zm0 zm1)
  refine lv_iconst (v := nI 0) hx hb dX8_init_101 rfl ?_
  refine lv_istore_n (lv' := [(1, .int (nI 0)), (0, .ref (zA23 i))]) hx hb dX8_init_102 rfl hl (by decide) rfl (fun ls hl => ?_)
  have zlp103 : ∀ (zn : Nat) (b : Nat) (g : Nat → Int32), 4 - b < zn → (b ≤ 4) → (g = fillF (fun _ => nI 0) 4 (4 + b) (-1)) → ∀ (E9 : Nat → va_E) (H9 : Heap) (L9 : List Loc), E9 N = eI G 508 g → E9 (N + 1) = eI G 10 (fun _ => nI 0) → E9 (N + 2) = eI G 10 (fun _ => nI 0) → E9 (N + 3) = eI G 8128 (fun _ => nI 0) → E9 (N + 4) = eI G 1016 (fun _ => nI 0) → E9 (N + 5) = eJ G 2 (fun _ => 0) → E9 (N + 6) = eZ G 2 (fun _ => nI 0) → E9 (N + 7) = eI G 80 (fun _ => nI 0) → E9 (N + 8) = eI G 60 (fun _ => nI 0) → E9 (N + 9) = eI G 10 (fun _ => nI 0) → E9 (N + 10) = eI G 10 (fun _ => nI 0) → E9 (N + 11) = eI G 10 (fun _ => nI 0) → E9 i = .inr (5, [.int (nI 0), .ref (zA23 N), .long 0, .ref (zA23 (N + 1)), .ref (zA23 (N + 2)), .int (nI 0), .ref (zA23 (N + 3)), .int (nI 0), .ref (zA23 (N + 4)), .ref (zA23 (N + 5)), .ref (zA23 (N + 6)), .ref (zA23 (N + 7)), .int (nI 0), .ref (zA23 (N + 8)), .ref (zA23 (N + 9)), .ref (zA23 (N + 10)), .ref (zA23 (N + 11))]) → (∀ j, j < N → j ≠ i → E9 j = E j) → Wd G A ss_.heap H9 L9 zA23 E9 (N + 12) → ∀ (ls : Array Slot), lv_has ls 2 [(0, .ref (zA23 i)), (1, .int (nI b))] → W pp_ l ee_ ({ frames := 1, cells := 12, slots := 9846, locals := 20 } : Room) ss_ mm_ aa_ bb_ me_ cc_ H9 L9 12 9846 (QK bb_ aa_ ss_ G ad N (N + 12) A 12 9846 (fun ad2 E2 => E2 i = .inr (5, [.int (nI 0), .ref (ad2 N), .long 0, .ref (ad2 (N + 1)), .ref (ad2 (N + 2)), .int (nI 0), .ref (ad2 (N + 3)), .int (nI 0), .ref (ad2 (N + 4)), .ref (ad2 (N + 5)), .ref (ad2 (N + 6)), .ref (ad2 (N + 7)), .int (nI 0), .ref (ad2 (N + 8)), .ref (ad2 (N + 9)), .ref (ad2 (N + 10)), .ref (ad2 (N + 11))]) ∧ E2 N = eI G 508 (fillF (fun _ => nI 0) 4 8 (-1)) ∧ E2 (N + 1) = eI G 10 (fun _ => nI 0) ∧ E2 (N + 2) = eI G 10 (fun _ => nI 0) ∧ E2 (N + 3) = eI G 8128 (fun _ => nI 0) ∧ E2 (N + 4) = eI G 1016 (fun _ => nI 0) ∧ E2 (N + 5) = eJ G 2 (fun _ => 0) ∧ E2 (N + 6) = eZ G 2 (fun _ => nI 0) ∧ E2 (N + 7) = eI G 80 (fun _ => nI 0) ∧ E2 (N + 8) = eI G 60 (fun _ => nI 0) ∧ E2 (N + 9) = eI G 10 (fun _ => nI 0) ∧ E2 (N + 10) = eI G 10 (fun _ => nI 0) ∧ E2 (N + 11) = eI G 10 (fun _ => nI 0) ∧ (∀ j, j < N → j ≠ i → E2 j = E j))) (F0 mm_ 103 ls []) := by
    intro zn
    induction zn with
    | zero => intro b g zhm; exact absurd zhm (Nat.not_lt_zero _)
    | succ zn zih103 =>
      intro b g zhm103 hb4 hg zE_103 zH_103 zL_103 zl103_0 zl103_1 zl103_2 zl103_3 zl103_4 zl103_5 zl103_6 zl103_7 zl103_8 zl103_9 zl103_10 zl103_11 zl103_12 zlf103  zlw103 ls hl
      refine lv_iload_n hx hb dX8_init_103 rfl (lv_at hl 1 rfl) ?_
      refine lv_iconst (v := nI 4) hx hb dX8_init_104 rfl ?_
      refine n_icmp_ge (tgt := 123) hx hb dX8_init_105 (by decide) (by omega) (by omega) (fun zc105 => ?_) (fun zc105 => ?_)
      · exact r_kret C zlw103 zag23 dX8_init_123 ⟨zl103_12, (zl103_0.trans (by rw [hg, show b = 4 by omega])), zl103_1, zl103_2, zl103_3, zl103_4, zl103_5, zl103_6, zl103_7, zl103_8, zl103_9, zl103_10, zl103_11, (fun j zm0 zm1 => zlf103 j zm0 zm1)⟩
      · refine lv_aload_n hx hb dX8_init_108 rfl (lv_at hl 0 rfl) ?_
        refine r_get C zlw103 RX8 TX8 17 5 hinX8 (i := i) (by omega) zl103_12 rfl 1 (by decide) (by decide +kernel) rfl (v := .ref (zA23 N)) rfl dX8_init_109 ?_
        refine lv_iconst (v := nI 4) hx hb dX8_init_112 rfl ?_
        refine lv_iload_n hx hb dX8_init_113 rfl (lv_at hl 1 rfl) ?_
        refine lv_iadd hx hb dX8_init_114 ?_
        refine r_nat (4 + b) (nI_add _ _) ?_
        refine lv_iconst (v := -1) hx hb dX8_init_115 (by decide) ?_
        refine r_iasN C zlw103 (i := N) (by omega) zl103_0 (j := 4 + b) (by omega) (by omega) dX8_init_116 (fun zE25 zH25 zL25 zg25 zf25 zw25 => ?_)
        have zh25_0 : zE25 N = eI G 508 (upd g (4 + b) (-1)) := zg25
        have zk25_0 : zE25 (N + 1) = eI G 10 (fun _ => nI 0) := (zf25 _ (by omega)).trans zl103_1
        have zk25_1 : zE25 (N + 2) = eI G 10 (fun _ => nI 0) := (zf25 _ (by omega)).trans zl103_2
        have zk25_2 : zE25 (N + 3) = eI G 8128 (fun _ => nI 0) := (zf25 _ (by omega)).trans zl103_3
        have zk25_3 : zE25 (N + 4) = eI G 1016 (fun _ => nI 0) := (zf25 _ (by omega)).trans zl103_4
        have zk25_4 : zE25 (N + 5) = eJ G 2 (fun _ => 0) := (zf25 _ (by omega)).trans zl103_5
        have zk25_5 : zE25 (N + 6) = eZ G 2 (fun _ => nI 0) := (zf25 _ (by omega)).trans zl103_6
        have zk25_6 : zE25 (N + 7) = eI G 80 (fun _ => nI 0) := (zf25 _ (by omega)).trans zl103_7
        have zk25_7 : zE25 (N + 8) = eI G 60 (fun _ => nI 0) := (zf25 _ (by omega)).trans zl103_8
        have zk25_8 : zE25 (N + 9) = eI G 10 (fun _ => nI 0) := (zf25 _ (by omega)).trans zl103_9
        have zk25_9 : zE25 (N + 10) = eI G 10 (fun _ => nI 0) := (zf25 _ (by omega)).trans zl103_10
        have zk25_10 : zE25 (N + 11) = eI G 10 (fun _ => nI 0) := (zf25 _ (by omega)).trans zl103_11
        have zk25_11 : zE25 i = .inr (5, [.int (nI 0), .ref (zA23 N), .long 0, .ref (zA23 (N + 1)), .ref (zA23 (N + 2)), .int (nI 0), .ref (zA23 (N + 3)), .int (nI 0), .ref (zA23 (N + 4)), .ref (zA23 (N + 5)), .ref (zA23 (N + 6)), .ref (zA23 (N + 7)), .int (nI 0), .ref (zA23 (N + 8)), .ref (zA23 (N + 9)), .ref (zA23 (N + 10)), .ref (zA23 (N + 11))]) := (zf25 _ (by omega)).trans zl103_12
        have zfr25 : ∀ j, j < N → j ≠ i → zE25 j = E j := fun j zm0 zm1 => (zf25 j (by omega)).trans (zlf103 j zm0 zm1)
        refine lv_iinc (v := nI (b + 1)) (lv' := [(1, .int (nI (b + 1))), (0, .ref (zA23 i))]) hx hb dX8_init_117 hl (k := 1) rfl (by rw [show Int32.ofInt 1 = nI 1 from rfl, nI_add]) (by decide) rfl (fun ls hl => ?_)
        refine lv_goto (tgt := 103) hx hb dX8_init_120 (by decide) ?_
        exact zih103 (b + 1) (upd g (4 + b) (-1)) (by omega) (by omega) (by rw [hg]; exact fillF_s _ _ (by omega)) _ _ _ zh25_0 zk25_0 zk25_1 zk25_2 zk25_3 zk25_4 zk25_5 zk25_6 zk25_7 zk25_8 zk25_9 zk25_10 zk25_11 (fun j zm0 zm1 => zfr25 j zm0 zm1) zw25 _ (lv_sub hl [1, 0] rfl)
  exact zlp103 _ 0 (fun _ => nI 0) (Nat.lt_succ_self _) (by omega) (by exact (fillF_0 _ _ _).symm) _ _ _ zk24_0 zk24_1 zk24_2 zk24_3 zk24_4 zk24_5 zk24_6 zk24_7 zk24_8 zk24_9 zk24_10 zk24_11 zh24_0 (fun j zm0 zm1 => zfr24 j zm0 zm1) zw24 _ (lv_sub hl [1, 0] rfl)

