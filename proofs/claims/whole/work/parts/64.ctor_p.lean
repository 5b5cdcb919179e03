set_option maxHeartbeats 4000000 in
set_option maxRecDepth 100000 in
theorem c_X5_init {l : Launch} {G : vG} {tC : Nat} {ad : Nat → Nat} {N : Nat} {E : Nat → va_E} {i : Nat} (hN0 : i < N) (hE0 : E i = .inr (2, [.null, .null, .int (nI 0), .int (nI 0), .int (nI 0), .int (nI 0), .int (nI 0), .int (nI 0)])) : MK l yX5_init wsX5_init ({ frames := 1, cells := 2, slots := 504, locals := 23 } : Room) 2 504 G tC ad N (N + 2) E [.ref (ad i)] (fun ad2 E2 => ∃ zc : Nat → Int32, ∃ zo : Nat → Int32, E2 i = .inr (2, [.ref (ad2 N), .ref (ad2 (N + 1)), .int (nI 0), .int (nI 0), .int (nI 0), .int (nI 0), .int (nI 0), .int (nI 0)]) ∧ E2 N = eI G 500 zc ∧ E2 (N + 1) = eI G 4 zo ∧ (∀ j, j < N → j ≠ i → E2 j = E j) ∧ (∀ b, b < 4 → zo b = -1) ∧ ∀ j, j < 500 → zc j = nI 0) := by
  refine MK_of RX5 rfl (by decide) rfl rfl (Nat.le_of_ble_eq_true rfl) ?_
  intro pp_ ee_ ss_ mm_ aa_ bb_ me_ cc_ A ls C hnam hAO hw hl
  have hx := C.1
  have hb := C.2.1
  have hown := C.2.2.2.2.1
  have hts := C.2.2.2.2.2.1
  have hl : lv_has ls 1 [(0, .ref (ad i))] := hl
  have hinX5 : ∀ w ∈ u_ws RX5 TX5 8, w ∈ wsX5_init := by decide +kernel
  have zfr0 : ∀ j, j < N → E j = E j := fun _ _ => rfl
  refine lv_aload_n hx hb dX5_init_0 rfl (lv_at hl 0 rfl) ?_
  refine r_objInit C (by decide +kernel) (by decide +kernel) (by decide +kernel) hl.1 dX5_init_1 (Nat.le_of_ble_eq_true rfl) (Nat.le_of_ble_eq_true rfl) ?_
  refine lv_aload_n hx hb dX5_init_4 rfl (lv_at hl 0 rfl) ?_
  refine lv_sipush (v := nI 500) hx hb dX5_init_5 rfl ?_
  refine r_newI C hw (n := 500) (by decide +kernel) (by decide) (Nat.le_of_ble_eq_true rfl) (Nat.le_of_ble_eq_true rfl) dX5_init_8 (fun zA1 zE1 zH1 za1 zg1 zf1 zw1 => ?_)
  have zk1_0 : zE1 i = .inr (2, [.null, .null, .int (nI 0), .int (nI 0), .int (nI 0), .int (nI 0), .int (nI 0), .int (nI 0)]) := (zf1 _ (by omega)).trans hE0
  have zh1_0 : zE1 N = eI G 500 (fun _ => nI 0) := zg1
  have zfr1 : ∀ j, j < N → zE1 j = E j := fun j zm0 => (zf1 j (by omega) ).trans (zfr0 j zm0)
  have zag1 : ∀ j, j < N → zA1 j = ad j := fun j hj => (za1 j (by omega)).trans ((fun _ _ => rfl) j hj)
  have hl : lv_has ls 1 [(0, .ref (zA1 i))] := by rw [za1 (i) (by omega)]; exact hl
  refine r_stk (st2 := [.ref (zA1 (N)), .ref (zA1 i)]) (by rw [za1 (i) (by omega)]) ?_
  refine r_putF C hnam zw1 RX5 TX5 8 2 hinX5 tyX5 tyX5_ok nmX5 (i := i) (by omega) zk1_0 rfl 0 (by decide) (by decide +kernel) rfl rfl rfl (v := .ref (zA1 N)) rfl rfl (Nat.le_of_ble_eq_true rfl) dX5_init_10 (fun zE2 zH2 zL2 zg2 zf2 zw2 => ?_)
  have zh2_0 : zE2 i = .inr (2, [.ref (zA1 N), .null, .int (nI 0), .int (nI 0), .int (nI 0), .int (nI 0), .int (nI 0), .int (nI 0)]) := zg2
  have zk2_0 : zE2 N = eI G 500 (fun _ => nI 0) := (zf2 _ (by omega)).trans zh1_0
  have zfr2 : ∀ j, j < N → j ≠ i → zE2 j = E j := fun j zm0 zm1 => (zf2 j zm1).trans (zfr1 j zm0)
  refine lv_aload_n hx hb dX5_init_13 rfl (lv_at hl 0 rfl) ?_
  refine lv_iconst (v := nI 4) hx hb dX5_init_14 rfl ?_
  refine r_newI C zw2 (n := 4) (by decide +kernel) (by decide) (Nat.le_of_ble_eq_true rfl) (Nat.le_of_ble_eq_true rfl) dX5_init_15 (fun zA3 zE3 zH3 za3 zg3 zf3 zw3 => ?_)
  have zk3_0 : zE3 N = eI G 500 (fun _ => nI 0) := (zf3 _ (by omega)).trans zk2_0
  have zk3_1 : zE3 i = .inr (2, [.ref (zA3 N), .null, .int (nI 0), .int (nI 0), .int (nI 0), .int (nI 0), .int (nI 0), .int (nI 0)]) := (zf3 _ (by omega)).trans (zh2_0.trans (by rw [za3 (N) (by omega)]))
  have zh3_0 : zE3 (N + 1) = eI G 4 (fun _ => nI 0) := zg3
  have zfr3 : ∀ j, j < N → j ≠ i → zE3 j = E j := fun j zm0 zm1 => (zf3 j (by omega) ).trans (zfr2 j zm0 zm1)
  have zag3 : ∀ j, j < N → zA3 j = ad j := fun j hj => (za3 j (by omega)).trans (zag1 j hj)
  have hl : lv_has ls 1 [(0, .ref (zA3 i))] := by rw [za3 (i) (by omega)]; exact hl
  refine r_stk (st2 := [.ref (zA3 ((N + 1))), .ref (zA3 i)]) (by rw [za3 (i) (by omega)]) ?_
  refine r_putF C hnam zw3 RX5 TX5 8 2 hinX5 tyX5 tyX5_ok nmX5 (i := i) (by omega) zk3_1 rfl 1 (by decide) (by decide +kernel) rfl rfl rfl (v := .ref (zA3 (N + 1))) rfl rfl (Nat.le_of_ble_eq_true rfl) dX5_init_17 (fun zE4 zH4 zL4 zg4 zf4 zw4 => ?_)
  have zh4_0 : zE4 i = .inr (2, [.ref (zA3 N), .ref (zA3 (N + 1)), .int (nI 0), .int (nI 0), .int (nI 0), .int (nI 0), .int (nI 0), .int (nI 0)]) := zg4
  have zk4_0 : zE4 N = eI G 500 (fun _ => nI 0) := (zf4 _ (by omega)).trans zk3_0
  have zk4_1 : zE4 (N + 1) = eI G 4 (fun _ => nI 0) := (zf4 _ (by omega)).trans zh3_0
  have zfr4 : ∀ j, j < N → j ≠ i → zE4 j = E j := fun j zm0 zm1 => (zf4 j zm1).trans (zfr3 j zm0 zm1)
  refine lv_aload_n hx hb dX5_init_20 rfl (lv_at hl 0 rfl) ?_
  refine r_get C zw4 RX5 TX5 8 2 hinX5 (i := i) (by omega) zh4_0 rfl 1 (by decide) (by decide +kernel) rfl (v := .ref (zA3 (N + 1))) rfl dX5_init_21 ?_
  refine lv_iconst (v := -1) hx hb dX5_init_24 (by decide) ?_
  refine r_sV C zw4 hl.1 [.ref (zA3 (N + 1)), .int (-1)] 2 rfl (c_J7_fill_53178 (l := l) (G := G) (tC := tC) (ad := zA3) (N := (N + 2)) (E := zE4) (q := (N + 1)) (n := 4) (f := fun _ => nI 0) (v := -1) (by omega) zk4_1 (by first | assumption | omega)) gX5_init_J7_fill_53178 rfl ⟨rfl, rfl⟩ (by decide +kernel) ⟨Nat.le_of_ble_eq_true rfl, Nat.le_of_ble_eq_true rfl⟩ (rest := []) rfl (Nat.le_of_ble_eq_true rfl) dX5_init_25 ⟨Nat.le_of_ble_eq_true rfl, Nat.le_of_ble_eq_true rfl⟩ (fun zE5 zH5 zL5 zp5 zw5 => ?_)
  obtain ⟨zg5_0, zf5⟩ := zp5
  have zh5_0 : zE5 (N + 1) = eI G 4 (fillF (fun _ => nI 0) 0 4 (-1)) := zg5_0
  have zk5_0 : zE5 N = eI G 500 (fun _ => nI 0) := (zf5 _ (by omega)).trans zk4_0
  have zk5_1 : zE5 i = .inr (2, [.ref (zA3 N), .ref (zA3 (N + 1)), .int (nI 0), .int (nI 0), .int (nI 0), .int (nI 0), .int (nI 0), .int (nI 0)]) := (zf5 _ (by omega)).trans zh4_0
  have zfr5 : ∀ j, j < N → j ≠ i → zE5 j = E j := fun j zm0 zm1 => (zf5 j (by omega)).trans (zfr4 j zm0 zm1)
  exact r_kret C zw5 zag3 dX5_init_28 ⟨fun _ => nI 0, fillF (fun _ => nI 0) 0 4 (-1), zk5_1, zk5_0, zh5_0, (fun j zm0 zm1 => zfr5 j zm0 zm1), (by exact ⟨fun b hb9 => by simp only [fillF]; rw [if_pos ⟨Nat.zero_le _, hb9⟩], fun _ _ => rfl⟩)⟩

set_option maxHeartbeats 4000000 in
set_option maxRecDepth 100000 in
theorem c_X2_init {l : Launch} {G : vG} {tC : Nat} {ad : Nat → Nat} {N : Nat} {E : Nat → va_E} {i : Nat} (hN0 : i < N) (hE0 : E i = .inr (0, [.null, .null, .null, .null, .int (nI 0)])) : MK l yX2_init wsX2_init ({ frames := 1, cells := 4, slots := 80, locals := 20 } : Room) 4 80 G tC ad N (N + 4) E [.ref (ad i)] (fun ad2 E2 => E2 i = .inr (0, [.ref (ad2 N), .ref (ad2 (N + 1)), .ref (ad2 (N + 2)), .ref (ad2 (N + 3)), .int (nI 0)]) ∧ E2 N = eI G 20 (fun _ => nI 0) ∧ E2 (N + 1) = eI G 20 (fun _ => nI 0) ∧ E2 (N + 2) = eI G 20 (fun _ => nI 0) ∧ E2 (N + 3) = eI G 20 (fun _ => nI 0) ∧ (∀ j, j < N → j ≠ i → E2 j = E j)) := by
  refine MK_of RX2 rfl (by decide) rfl rfl (Nat.le_of_ble_eq_true rfl) ?_
  intro pp_ ee_ ss_ mm_ aa_ bb_ me_ cc_ A ls C hnam hAO hw hl
  have hx := C.1
  have hb := C.2.1
  have hown := C.2.2.2.2.1
  have hts := C.2.2.2.2.2.1
  have hl : lv_has ls 1 [(0, .ref (ad i))] := hl
  have hinX2 : ∀ w ∈ u_ws RX2 TX2 5, w ∈ wsX2_init := by decide +kernel
  have zfr0 : ∀ j, j < N → E j = E j := fun _ _ => rfl
  refine lv_aload_n hx hb dX2_init_0 rfl (lv_at hl 0 rfl) ?_
  refine r_objInit C (by decide +kernel) (by decide +kernel) (by decide +kernel) hl.1 dX2_init_1 (Nat.le_of_ble_eq_true rfl) (Nat.le_of_ble_eq_true rfl) ?_
  refine lv_aload_n hx hb dX2_init_4 rfl (lv_at hl 0 rfl) ?_
  refine lv_bipush (v := nI 20) hx hb dX2_init_5 rfl ?_
  refine r_newI C hw (n := 20) (by decide +kernel) (by decide) (Nat.le_of_ble_eq_true rfl) (Nat.le_of_ble_eq_true rfl) dX2_init_7 (fun zA1 zE1 zH1 za1 zg1 zf1 zw1 => ?_)
  have zk1_0 : zE1 i = .inr (0, [.null, .null, .null, .null, .int (nI 0)]) := (zf1 _ (by omega)).trans hE0
  have zh1_0 : zE1 N = eI G 20 (fun _ => nI 0) := zg1
  have zfr1 : ∀ j, j < N → zE1 j = E j := fun j zm0 => (zf1 j (by omega) ).trans (zfr0 j zm0)
  have zag1 : ∀ j, j < N → zA1 j = ad j := fun j hj => (za1 j (by omega)).trans ((fun _ _ => rfl) j hj)
  have hl : lv_has ls 1 [(0, .ref (zA1 i))] := by rw [za1 (i) (by omega)]; exact hl
  refine r_stk (st2 := [.ref (zA1 (N)), .ref (zA1 i)]) (by rw [za1 (i) (by omega)]) ?_
  refine r_putF C hnam zw1 RX2 TX2 5 0 hinX2 tyX2 tyX2_ok nmX2 (i := i) (by omega) zk1_0 rfl 0 (by decide) (by decide +kernel) rfl rfl rfl (v := .ref (zA1 N)) rfl rfl (Nat.le_of_ble_eq_true rfl) dX2_init_9 (fun zE2 zH2 zL2 zg2 zf2 zw2 => ?_)
  have zh2_0 : zE2 i = .inr (0, [.ref (zA1 N), .null, .null, .null, .int (nI 0)]) := zg2
  have zk2_0 : zE2 N = eI G 20 (fun _ => nI 0) := (zf2 _ (by omega)).trans zh1_0
  have zfr2 : ∀ j, j < N → j ≠ i → zE2 j = E j := fun j zm0 zm1 => (zf2 j zm1).trans (zfr1 j zm0)
  refine lv_aload_n hx hb dX2_init_12 rfl (lv_at hl 0 rfl) ?_
  refine lv_bipush (v := nI 20) hx hb dX2_init_13 rfl ?_
  refine r_newI C zw2 (n := 20) (by decide +kernel) (by decide) (Nat.le_of_ble_eq_true rfl) (Nat.le_of_ble_eq_true rfl) dX2_init_15 (fun zA3 zE3 zH3 za3 zg3 zf3 zw3 => ?_)
  have zk3_0 : zE3 N = eI G 20 (fun _ => nI 0) := (zf3 _ (by omega)).trans zk2_0
  have zk3_1 : zE3 i = .inr (0, [.ref (zA3 N), .null, .null, .null, .int (nI 0)]) := (zf3 _ (by omega)).trans (zh2_0.trans (by rw [za3 (N) (by omega)]))
  have zh3_0 : zE3 (N + 1) = eI G 20 (fun _ => nI 0) := zg3
  have zfr3 : ∀ j, j < N → j ≠ i → zE3 j = E j := fun j zm0 zm1 => (zf3 j (by omega) ).trans (zfr2 j zm0 zm1)
  have zag3 : ∀ j, j < N → zA3 j = ad j := fun j hj => (za3 j (by omega)).trans (zag1 j hj)
  have hl : lv_has ls 1 [(0, .ref (zA3 i))] := by rw [za3 (i) (by omega)]; exact hl
  refine r_stk (st2 := [.ref (zA3 ((N + 1))), .ref (zA3 i)]) (by rw [za3 (i) (by omega)]) ?_
  refine r_putF C hnam zw3 RX2 TX2 5 0 hinX2 tyX2 tyX2_ok nmX2 (i := i) (by omega) zk3_1 rfl 1 (by decide) (by decide +kernel) rfl rfl rfl (v := .ref (zA3 (N + 1))) rfl rfl (Nat.le_of_ble_eq_true rfl) dX2_init_17 (fun zE4 zH4 zL4 zg4 zf4 zw4 => ?_)
  have zh4_0 : zE4 i = .inr (0, [.ref (zA3 N), .ref (zA3 (N + 1)), .null, .null, .int (nI 0)]) := zg4
  have zk4_0 : zE4 N = eI G 20 (fun _ => nI 0) := (zf4 _ (by omega)).trans zk3_0
  have zk4_1 : zE4 (N + 1) = eI G 20 (fun _ => nI 0) := (zf4 _ (by omega)).trans zh3_0
  have zfr4 : ∀ j, j < N → j ≠ i → zE4 j = E j := fun j zm0 zm1 => (zf4 j zm1).trans (zfr3 j zm0 zm1)
  refine lv_aload_n hx hb dX2_init_20 rfl (lv_at hl 0 rfl) ?_
  refine lv_bipush (v := nI 20) hx hb dX2_init_21 rfl ?_
  refine r_newI C zw4 (n := 20) (by decide +kernel) (by decide) (Nat.le_of_ble_eq_true rfl) (Nat.le_of_ble_eq_true rfl) dX2_init_23 (fun zA5 zE5 zH5 za5 zg5 zf5 zw5 => ?_)
  have zk5_0 : zE5 N = eI G 20 (fun _ => nI 0) := (zf5 _ (by omega)).trans zk4_0
  have zk5_1 : zE5 (N + 1) = eI G 20 (fun _ => nI 0) := (zf5 _ (by omega)).trans zk4_1
  have zk5_2 : zE5 i = .inr (0, [.ref (zA5 N), .ref (zA5 (N + 1)), .null, .null, .int (nI 0)]) := (zf5 _ (by omega)).trans (zh4_0.trans (by rw [za5 (N) (by omega), za5 ((N + 1)) (by omega)]))
  have zh5_0 : zE5 (N + 2) = eI G 20 (fun _ => nI 0) := zg5
  have zfr5 : ∀ j, j < N → j ≠ i → zE5 j = E j := fun j zm0 zm1 => (zf5 j (by omega) ).trans (zfr4 j zm0 zm1)
  have zag5 : ∀ j, j < N → zA5 j = ad j := fun j hj => (za5 j (by omega)).trans (zag3 j hj)
  have hl : lv_has ls 1 [(0, .ref (zA5 i))] := by rw [za5 (i) (by omega)]; exact hl
  refine r_stk (st2 := [.ref (zA5 ((N + 2))), .ref (zA5 i)]) (by rw [za5 (i) (by omega)]) ?_
  refine r_putF C hnam zw5 RX2 TX2 5 0 hinX2 tyX2 tyX2_ok nmX2 (i := i) (by omega) zk5_2 rfl 2 (by decide) (by decide +kernel) rfl rfl rfl (v := .ref (zA5 (N + 2))) rfl rfl (Nat.le_of_ble_eq_true rfl) dX2_init_25 (fun zE6 zH6 zL6 zg6 zf6 zw6 => ?_)
  have zh6_0 : zE6 i = .inr (0, [.ref (zA5 N), .ref (zA5 (N + 1)), .ref (zA5 (N + 2)), .null, .int (nI 0)]) := zg6
  have zk6_0 : zE6 N = eI G 20 (fun _ => nI 0) := (zf6 _ (by omega)).trans zk5_0
  have zk6_1 : zE6 (N + 1) = eI G 20 (fun _ => nI 0) := (zf6 _ (by omega)).trans zk5_1
  have zk6_2 : zE6 (N + 2) = eI G 20 (fun _ => nI 0) := (zf6 _ (by omega)).trans zh5_0
  have zfr6 : ∀ j, j < N → j ≠ i → zE6 j = E j := fun j zm0 zm1 => (zf6 j zm1).trans (zfr5 j zm0 zm1)
  refine lv_aload_n hx hb dX2_init_28 rfl (lv_at hl 0 rfl) ?_
  refine lv_bipush (v := nI 20) hx hb dX2_init_29 rfl ?_
  refine r_newI C zw6 (n := 20) (by decide +kernel) (by decide) (Nat.le_of_ble_eq_true rfl) (Nat.le_of_ble_eq_true rfl) dX2_init_31 (fun zA7 zE7 zH7 za7 zg7 zf7 zw7 => ?_)
  have zk7_0 : zE7 N = eI G 20 (fun _ => nI 0) := (zf7 _ (by omega)).trans zk6_0
  have zk7_1 : zE7 (N + 1) = eI G 20 (fun _ => nI 0) := (zf7 _ (by omega)).trans zk6_1
  have zk7_2 : zE7 (N + 2) = eI G 20 (fun _ => nI 0) := (zf7 _ (by omega)).trans zk6_2
  have zk7_3 : zE7 i = .inr (0, [.ref (zA7 N), .ref (zA7 (N + 1)), .ref (zA7 (N + 2)), .null, .int (nI 0)]) := (zf7 _ (by omega)).trans (zh6_0.trans (by rw [za7 (N) (by omega), za7 ((N + 1)) (by omega), za7 ((N + 2)) (by omega)]))
  have zh7_0 : zE7 (N + 3) = eI G 20 (fun _ => nI 0) := zg7
  have zfr7 : ∀ j, j < N → j ≠ i → zE7 j = E j := fun j zm0 zm1 => (zf7 j (by omega) ).trans (zfr6 j zm0 zm1)
  have zag7 : ∀ j, j < N → zA7 j = ad j := fun j hj => (za7 j (by omega)).trans (zag5 j hj)
  have hl : lv_has ls 1 [(0, .ref (zA7 i))] := by rw [za7 (i) (by omega)]; exact hl
  refine r_stk (st2 := [.ref (zA7 ((N + 3))), .ref (zA7 i)]) (by rw [za7 (i) (by omega)]) ?_
  refine r_putF C hnam zw7 RX2 TX2 5 0 hinX2 tyX2 tyX2_ok nmX2 (i := i) (by omega) zk7_3 rfl 3 (by decide) (by decide +kernel) rfl rfl rfl (v := .ref (zA7 (N + 3))) rfl rfl (Nat.le_of_ble_eq_true rfl) dX2_init_33 (fun zE8 zH8 zL8 zg8 zf8 zw8 => ?_)
  have zh8_0 : zE8 i = .inr (0, [.ref (zA7 N), .ref (zA7 (N + 1)), .ref (zA7 (N + 2)), .ref (zA7 (N + 3)), .int (nI 0)]) := zg8
  have zk8_0 : zE8 N = eI G 20 (fun _ => nI 0) := (zf8 _ (by omega)).trans zk7_0
  have zk8_1 : zE8 (N + 1) = eI G 20 (fun _ => nI 0) := (zf8 _ (by omega)).trans zk7_1
  have zk8_2 : zE8 (N + 2) = eI G 20 (fun _ => nI 0) := (zf8 _ (by omega)).trans zk7_2
  have zk8_3 : zE8 (N + 3) = eI G 20 (fun _ => nI 0) := (zf8 _ (by omega)).trans zh7_0
  have zfr8 : ∀ j, j < N → j ≠ i → zE8 j = E j := fun j zm0 zm1 => (zf8 j zm1).trans (zfr7 j zm0 zm1)
  exact r_kret C zw8 zag7 dX2_init_36 ⟨zh8_0, zk8_0, zk8_1, zk8_2, zk8_3, (fun j zm0 zm1 => zfr8 j zm0 zm1)⟩

set_option maxHeartbeats 4000000 in
set_option maxRecDepth 100000 in
theorem c_X4_init {l : Launch} {G : vG} {tC : Nat} {ad : Nat → Nat} {N : Nat} {E : Nat → va_E} {i : Nat} (hN0 : i < N) (hE0 : E i = .inr (1, [.null, .null, .null, .null, .null, .int (nI 0), .int (nI 0)])) : MK l yX4_init wsX4_init ({ frames := 1, cells := 5, slots := 50, locals := 20 } : Room) 5 50 G tC ad N (N + 5) E [.ref (ad i)] (fun ad2 E2 => E2 i = .inr (1, [.ref (ad2 N), .ref (ad2 (N + 1)), .ref (ad2 (N + 2)), .ref (ad2 (N + 3)), .ref (ad2 (N + 4)), .int (nI 0), .int (nI 0)]) ∧ E2 N = eI G 10 (fun _ => nI 0) ∧ E2 (N + 1) = eI G 10 (fun _ => nI 0) ∧ E2 (N + 2) = eI G 10 (fun _ => nI 0) ∧ E2 (N + 3) = eI G 10 (fun _ => nI 0) ∧ E2 (N + 4) = eI G 10 (fun _ => nI 0) ∧ (∀ j, j < N → j ≠ i → E2 j = E j)) := by
  refine MK_of RX4 rfl (by decide) rfl rfl (Nat.le_of_ble_eq_true rfl) ?_
  intro pp_ ee_ ss_ mm_ aa_ bb_ me_ cc_ A ls C hnam hAO hw hl
  have hx := C.1
  have hb := C.2.1
  have hown := C.2.2.2.2.1
  have hts := C.2.2.2.2.2.1
  have hl : lv_has ls 1 [(0, .ref (ad i))] := hl
  have hinX4 : ∀ w ∈ u_ws RX4 TX4 7, w ∈ wsX4_init := by decide +kernel
  have zfr0 : ∀ j, j < N → E j = E j := fun _ _ => rfl
  refine lv_aload_n hx hb dX4_init_0 rfl (lv_at hl 0 rfl) ?_
  refine r_objInit C (by decide +kernel) (by decide +kernel) (by decide +kernel) hl.1 dX4_init_1 (Nat.le_of_ble_eq_true rfl) (Nat.le_of_ble_eq_true rfl) ?_
  refine lv_aload_n hx hb dX4_init_4 rfl (lv_at hl 0 rfl) ?_
  refine lv_bipush (v := nI 10) hx hb dX4_init_5 rfl ?_
  refine r_newI C hw (n := 10) (by decide +kernel) (by decide) (Nat.le_of_ble_eq_true rfl) (Nat.le_of_ble_eq_true rfl) dX4_init_7 (fun zA1 zE1 zH1 za1 zg1 zf1 zw1 => ?_)
  have zk1_0 : zE1 i = .inr (1, [.null, .null, .null, .null, .null, .int (nI 0), .int (nI 0)]) := (zf1 _ (by omega)).trans hE0
  have zh1_0 : zE1 N = eI G 10 (fun _ => nI 0) := zg1
  have zfr1 : ∀ j, j < N → zE1 j = E j := fun j zm0 => (zf1 j (by omega) ).trans (zfr0 j zm0)
  have zag1 : ∀ j, j < N → zA1 j = ad j := fun j hj => (za1 j (by omega)).trans ((fun _ _ => rfl) j hj)
  have hl : lv_has ls 1 [(0, .ref (zA1 i))] := by rw [za1 (i) (by omega)]; exact hl
  refine r_stk (st2 := [.ref (zA1 (N)), .ref (zA1 i)]) (by rw [za1 (i) (by omega)]) ?_
  refine r_putF C hnam zw1 RX4 TX4 7 1 hinX4 tyX4 tyX4_ok nmX4 (i := i) (by omega) zk1_0 rfl 0 (by decide) (by decide +kernel) rfl rfl rfl (v := .ref (zA1 N)) rfl rfl (Nat.le_of_ble_eq_true rfl) dX4_init_9 (fun zE2 zH2 zL2 zg2 zf2 zw2 => ?_)
  have zh2_0 : zE2 i = .inr (1, [.ref (zA1 N), .null, .null, .null, .null, .int (nI 0), .int (nI 0)]) := zg2
  have zk2_0 : zE2 N = eI G 10 (fun _ => nI 0) := (zf2 _ (by omega)).trans zh1_0
  have zfr2 : ∀ j, j < N → j ≠ i → zE2 j = E j := fun j zm0 zm1 => (zf2 j zm1).trans (zfr1 j zm0)
  refine lv_aload_n hx hb dX4_init_12 rfl (lv_at hl 0 rfl) ?_
  refine lv_bipush (v := nI 10) hx hb dX4_init_13 rfl ?_
  refine r_newI C zw2 (n := 10) (by decide +kernel) (by decide) (Nat.le_of_ble_eq_true rfl) (Nat.le_of_ble_eq_true rfl) dX4_init_15 (fun zA3 zE3 zH3 za3 zg3 zf3 zw3 => ?_)
  have zk3_0 : zE3 N = eI G 10 (fun _ => nI 0) := (zf3 _ (by omega)).trans zk2_0
  have zk3_1 : zE3 i = .inr (1, [.ref (zA3 N), .null, .null, .null, .null, .int (nI 0), .int (nI 0)]) := (zf3 _ (by omega)).trans (zh2_0.trans (by rw [za3 (N) (by omega)]))
  have zh3_0 : zE3 (N + 1) = eI G 10 (fun _ => nI 0) := zg3
  have zfr3 : ∀ j, j < N → j ≠ i → zE3 j = E j := fun j zm0 zm1 => (zf3 j (by omega) ).trans (zfr2 j zm0 zm1)
  have zag3 : ∀ j, j < N → zA3 j = ad j := fun j hj => (za3 j (by omega)).trans (zag1 j hj)
  have hl : lv_has ls 1 [(0, .ref (zA3 i))] := by rw [za3 (i) (by omega)]; exact hl
  refine r_stk (st2 := [.ref (zA3 ((N + 1))), .ref (zA3 i)]) (by rw [za3 (i) (by omega)]) ?_
  refine r_putF C hnam zw3 RX4 TX4 7 1 hinX4 tyX4 tyX4_ok nmX4 (i := i) (by omega) zk3_1 rfl 1 (by decide) (by decide +kernel) rfl rfl rfl (v := .ref (zA3 (N + 1))) rfl rfl (Nat.le_of_ble_eq_true rfl) dX4_init_17 (fun zE4 zH4 zL4 zg4 zf4 zw4 => ?_)
  have zh4_0 : zE4 i = .inr (1, [.ref (zA3 N), .ref (zA3 (N + 1)), .null, .null, .null, .int (nI 0), .int (nI 0)]) := zg4
  have zk4_0 : zE4 N = eI G 10 (fun _ => nI 0) := (zf4 _ (by omega)).trans zk3_0
  have zk4_1 : zE4 (N + 1) = eI G 10 (fun _ => nI 0) := (zf4 _ (by omega)).trans zh3_0
  have zfr4 : ∀ j, j < N → j ≠ i → zE4 j = E j := fun j zm0 zm1 => (zf4 j zm1).trans (zfr3 j zm0 zm1)
  refine lv_aload_n hx hb dX4_init_20 rfl (lv_at hl 0 rfl) ?_
  refine lv_bipush (v := nI 10) hx hb dX4_init_21 rfl ?_
  refine r_newI C zw4 (n := 10) (by decide +kernel) (by decide) (Nat.le_of_ble_eq_true rfl) (Nat.le_of_ble_eq_true rfl) dX4_init_23 (fun zA5 zE5 zH5 za5 zg5 zf5 zw5 => ?_)
  have zk5_0 : zE5 N = eI G 10 (fun _ => nI 0) := (zf5 _ (by omega)).trans zk4_0
  have zk5_1 : zE5 (N + 1) = eI G 10 (fun _ => nI 0) := (zf5 _ (by omega)).trans zk4_1
  have zk5_2 : zE5 i = .inr (1, [.ref (zA5 N), .ref (zA5 (N + 1)), .null, .null, .null, .int (nI 0), .int (nI 0)]) := (zf5 _ (by omega)).trans (zh4_0.trans (by rw [za5 (N) (by omega), za5 ((N + 1)) (by omega)]))
  have zh5_0 : zE5 (N + 2) = eI G 10 (fun _ => nI 0) := zg5
  have zfr5 : ∀ j, j < N → j ≠ i → zE5 j = E j := fun j zm0 zm1 => (zf5 j (by omega) ).trans (zfr4 j zm0 zm1)
  have zag5 : ∀ j, j < N → zA5 j = ad j := fun j hj => (za5 j (by omega)).trans (zag3 j hj)
  have hl : lv_has ls 1 [(0, .ref (zA5 i))] := by rw [za5 (i) (by omega)]; exact hl
  refine r_stk (st2 := [.ref (zA5 ((N + 2))), .ref (zA5 i)]) (by rw [za5 (i) (by omega)]) ?_
  refine r_putF C hnam zw5 RX4 TX4 7 1 hinX4 tyX4 tyX4_ok nmX4 (i := i) (by omega) zk5_2 rfl 2 (by decide) (by decide +kernel) rfl rfl rfl (v := .ref (zA5 (N + 2))) rfl rfl (Nat.le_of_ble_eq_true rfl) dX4_init_25 (fun zE6 zH6 zL6 zg6 zf6 zw6 => ?_)
  have zh6_0 : zE6 i = .inr (1, [.ref (zA5 N), .ref (zA5 (N + 1)), .ref (zA5 (N + 2)), .null, .null, .int (nI 0), .int (nI 0)]) := zg6
  have zk6_0 : zE6 N = eI G 10 (fun _ => nI 0) := (zf6 _ (by omega)).trans zk5_0
  have zk6_1 : zE6 (N + 1) = eI G 10 (fun _ => nI 0) := (zf6 _ (by omega)).trans zk5_1
  have zk6_2 : zE6 (N + 2) = eI G 10 (fun _ => nI 0) := (zf6 _ (by omega)).trans zh5_0
  have zfr6 : ∀ j, j < N → j ≠ i → zE6 j = E j := fun j zm0 zm1 => (zf6 j zm1).trans (zfr5 j zm0 zm1)
  refine lv_aload_n hx hb dX4_init_28 rfl (lv_at hl 0 rfl) ?_
  refine lv_bipush (v := nI 10) hx hb dX4_init_29 rfl ?_
  refine r_newI C zw6 (n := 10) (by decide +kernel) (by decide) (Nat.le_of_ble_eq_true rfl) (Nat.le_of_ble_eq_true rfl) dX4_init_31 (fun zA7 zE7 zH7 za7 zg7 zf7 zw7 => ?_)
  have zk7_0 : zE7 N = eI G 10 (fun _ => nI 0) := (zf7 _ (by omega)).trans zk6_0
  have zk7_1 : zE7 (N + 1) = eI G 10 (fun _ => nI 0) := (zf7 _ (by omega)).trans zk6_1
  have zk7_2 : zE7 (N + 2) = eI G 10 (fun _ => nI 0) := (zf7 _ (by omega)).trans zk6_2
  have zk7_3 : zE7 i = .inr (1, [.ref (zA7 N), .ref (zA7 (N + 1)), .ref (zA7 (N + 2)), .null, .null, .int (nI 0), .int (nI 0)]) := (zf7 _ (by omega)).trans (zh6_0.trans (by rw [za7 (N) (by omega), za7 ((N + 1)) (by omega), za7 ((N + 2)) (by omega)]))
  have zh7_0 : zE7 (N + 3) = eI G 10 (fun _ => nI 0) := zg7
  have zfr7 : ∀ j, j < N → j ≠ i → zE7 j = E j := fun j zm0 zm1 => (zf7 j (by omega) ).trans (zfr6 j zm0 zm1)
  have zag7 : ∀ j, j < N → zA7 j = ad j := fun j hj => (za7 j (by omega)).trans (zag5 j hj)
  have hl : lv_has ls 1 [(0, .ref (zA7 i))] := by rw [za7 (i) (by omega)]; exact hl
  refine r_stk (st2 := [.ref (zA7 ((N + 3))), .ref (zA7 i)]) (by rw [za7 (i) (by omega)]) ?_
  refine r_putF C hnam zw7 RX4 TX4 7 1 hinX4 tyX4 tyX4_ok nmX4 (i := i) (by omega) zk7_3 rfl 3 (by decide) (by decide +kernel) rfl rfl rfl (v := .ref (zA7 (N + 3))) rfl rfl (Nat.le_of_ble_eq_true rfl) dX4_init_33 (fun zE8 zH8 zL8 zg8 zf8 zw8 => ?_)
  have zh8_0 : zE8 i = .inr (1, [.ref (zA7 N), .ref (zA7 (N + 1)), .ref (zA7 (N + 2)), .ref (zA7 (N + 3)), .null, .int (nI 0), .int (nI 0)]) := zg8
  have zk8_0 : zE8 N = eI G 10 (fun _ => nI 0) := (zf8 _ (by omega)).trans zk7_0
  have zk8_1 : zE8 (N + 1) = eI G 10 (fun _ => nI 0) := (zf8 _ (by omega)).trans zk7_1
  have zk8_2 : zE8 (N + 2) = eI G 10 (fun _ => nI 0) := (zf8 _ (by omega)).trans zk7_2
  have zk8_3 : zE8 (N + 3) = eI G 10 (fun _ => nI 0) := (zf8 _ (by omega)).trans zh7_0
  have zfr8 : ∀ j, j < N → j ≠ i → zE8 j = E j := fun j zm0 zm1 => (zf8 j zm1).trans (zfr7 j zm0 zm1)
  refine lv_aload_n hx hb dX4_init_36 rfl (lv_at hl 0 rfl) ?_
  refine lv_bipush (v := nI 10) hx hb dX4_init_37 rfl ?_
  refine r_newI C zw8 (n := 10) (by decide +kernel) (by decide) (Nat.le_of_ble_eq_true rfl) (Nat.le_of_ble_eq_true rfl) dX4_init_39 (fun zA9 zE9 zH9 za9 zg9 zf9 zw9 => ?_)
  have zk9_0 : zE9 N = eI G 10 (fun _ => nI 0) := (zf9 _ (by omega)).trans zk8_0
  have zk9_1 : zE9 (N + 1) = eI G 10 (fun _ => nI 0) := (zf9 _ (by omega)).trans zk8_1
  have zk9_2 : zE9 (N + 2) = eI G 10 (fun _ => nI 0) := (zf9 _ (by omega)).trans zk8_2
  have zk9_3 : zE9 (N + 3) = eI G 10 (fun _ => nI 0) := (zf9 _ (by omega)).trans zk8_3
  have zk9_4 : zE9 i = .inr (1, [.ref (zA9 N), .ref (zA9 (N + 1)), .ref (zA9 (N + 2)), .ref (zA9 (N + 3)), .null, .int (nI 0), .int (nI 0)]) := (zf9 _ (by omega)).trans (zh8_0.trans (by rw [za9 (N) (by omega), za9 ((N + 1)) (by omega), za9 ((N + 2)) (by omega), za9 ((N + 3)) (by omega)]))
  have zh9_0 : zE9 (N + 4) = eI G 10 (fun _ => nI 0) := zg9
  have zfr9 : ∀ j, j < N → j ≠ i → zE9 j = E j := fun j zm0 zm1 => (zf9 j (by omega) ).trans (zfr8 j zm0 zm1)
  have zag9 : ∀ j, j < N → zA9 j = ad j := fun j hj => (za9 j (by omega)).trans (zag7 j hj)
  have hl : lv_has ls 1 [(0, .ref (zA9 i))] := by rw [za9 (i) (by omega)]; exact hl
  refine r_stk (st2 := [.ref (zA9 ((N + 4))), .ref (zA9 i)]) (by rw [za9 (i) (by omega)]) ?_
  refine r_putF C hnam zw9 RX4 TX4 7 1 hinX4 tyX4 tyX4_ok nmX4 (i := i) (by omega) zk9_4 rfl 4 (by decide) (by decide +kernel) rfl rfl rfl (v := .ref (zA9 (N + 4))) rfl rfl (Nat.le_of_ble_eq_true rfl) dX4_init_41 (fun zE10 zH10 zL10 zg10 zf10 zw10 => ?_)
  have zh10_0 : zE10 i = .inr (1, [.ref (zA9 N), .ref (zA9 (N + 1)), .ref (zA9 (N + 2)), .ref (zA9 (N + 3)), .ref (zA9 (N + 4)), .int (nI 0), .int (nI 0)]) := zg10
  have zk10_0 : zE10 N = eI G 10 (fun _ => nI 0) := (zf10 _ (by omega)).trans zk9_0
  have zk10_1 : zE10 (N + 1) = eI G 10 (fun _ => nI 0) := (zf10 _ (by omega)).trans zk9_1
  have zk10_2 : zE10 (N + 2) = eI G 10 (fun _ => nI 0) := (zf10 _ (by omega)).trans zk9_2
  have zk10_3 : zE10 (N + 3) = eI G 10 (fun _ => nI 0) := (zf10 _ (by omega)).trans zk9_3
  have zk10_4 : zE10 (N + 4) = eI G 10 (fun _ => nI 0) := (zf10 _ (by omega)).trans zh9_0
  have zfr10 : ∀ j, j < N → j ≠ i → zE10 j = E j := fun j zm0 zm1 => (zf10 j zm1).trans (zfr9 j zm0 zm1)
  exact r_kret C zw10 zag9 dX4_init_44 ⟨zh10_0, zk10_0, zk10_1, zk10_2, zk10_3, zk10_4, (fun j zm0 zm1 => zfr10 j zm0 zm1)⟩

