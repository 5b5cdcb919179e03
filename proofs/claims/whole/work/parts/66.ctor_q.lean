set_option maxHeartbeats 4000000 in
set_option maxRecDepth 100000 in
theorem c_X6_init {l : Launch} {G : vG} {tC : Nat} {ad : Nat → Nat} {N : Nat} {E : Nat → va_E} {i : Nat} {pb : Nat → Int32} (hN0 : i < N) (hE0 : E i = .inr (3, [.null, .int (nI 0), .int (nI 0)])) (hiN : N = i + 1) : MK l yX6_init wsX6_init ({ frames := 2, cells := 49, slots := 8208, locals := 43 } : Room) 49 8208 G tC ad N (N + 49) E [.ref (ad i)] (fun ad2 E2 => E2 i = .inr (3, [.ref (ad2 N), .int (nI 0), .int (nI 0)]) ∧ (∀ j, j < N → j ≠ i → E2 j = E j) ∧ Ring G ad2 E2 i pb 0) := by
  refine MK_of RX6 rfl (by decide) rfl rfl (Nat.le_of_ble_eq_true rfl) ?_
  intro pp_ ee_ ss_ mm_ aa_ bb_ me_ cc_ A ls C hnam hAO hw hl
  have hx := C.1
  have hb := C.2.1
  have hown := C.2.2.2.2.1
  have hts := C.2.2.2.2.2.1
  have hl : lv_has ls 2 [(0, .ref (ad i))] := hl
  have hinX6 : ∀ w ∈ u_ws RX6 TX6 3, w ∈ wsX6_init := by decide +kernel
  have zfr0 : ∀ j, j < N → E j = E j := fun _ _ => rfl
  refine lv_aload_n hx hb dX6_init_0 rfl (lv_at hl 0 rfl) ?_
  refine r_objInit C (by decide +kernel) (by decide +kernel) (by decide +kernel) hl.1 dX6_init_1 (Nat.le_of_ble_eq_true rfl) (Nat.le_of_ble_eq_true rfl) ?_
  refine lv_aload_n hx hb dX6_init_4 rfl (lv_at hl 0 rfl) ?_
  refine lv_bipush (v := nI 16) hx hb dX6_init_5 rfl ?_
  refine r_newR C hAO hw (n := 16) (by decide +kernel) (by decide) (Nat.le_of_ble_eq_true rfl) (Nat.le_of_ble_eq_true rfl) dX6_init_7 (fun zA1 zE1 zH1 za1 zg1 zf1 zw1 => ?_)
  have zk1_0 : zE1 i = .inr (3, [.null, .int (nI 0), .int (nI 0)]) := (zf1 _ (by omega)).trans hE0
  have zh1_0 : zE1 N = eR G 16 (fun _ => none) := zg1
  have zfr1 : ∀ j, j < N → zE1 j = E j := fun j zm0 => (zf1 j (by omega) ).trans (zfr0 j zm0)
  have zag1 : ∀ j, j < N → zA1 j = ad j := fun j hj => (za1 j (by omega)).trans ((fun _ _ => rfl) j hj)
  have hl : lv_has ls 2 [(0, .ref (zA1 i))] := by rw [za1 (i) (by omega)]; exact hl
  refine r_stk (st2 := [.ref (zA1 (N)), .ref (zA1 i)]) (by rw [za1 (i) (by omega)]) ?_
  refine r_putF C hnam zw1 RX6 TX6 3 3 hinX6 tyX6 tyX6_ok nmX6 (i := i) (by omega) zk1_0 rfl 0 (by decide) (by decide +kernel) rfl rfl rfl (v := .ref (zA1 N)) rfl rfl (Nat.le_of_ble_eq_true rfl) dX6_init_10 (fun zE2 zH2 zL2 zg2 zf2 zw2 => ?_)
  have zh2_0 : zE2 i = .inr (3, [.ref (zA1 N), .int (nI 0), .int (nI 0)]) := zg2
  have zk2_0 : zE2 N = eR G 16 (fun _ => none) := (zf2 _ (by omega)).trans zh1_0
  have zfr2 : ∀ j, j < N → j ≠ i → zE2 j = E j := fun j zm0 zm1 => (zf2 j zm1).trans (zfr1 j zm0)
  refine lv_iconst (v := nI 0) hx hb dX6_init_13 rfl ?_
  refine lv_istore_n (lv' := [(1, .int (nI 0)), (0, .ref (zA1 i))]) hx hb dX6_init_14 rfl hl (by decide) rfl (fun ls hl => ?_)
  have zlp : ∀ (zn j : Nat) (f : Nat → Option Nat), 16 - j < zn → j ≤ 16 → ∀ (A9 : Nat → Nat) (E9 : Nat → va_E) (H9 : Heap) (L9 : List Loc) (kc ks : Nat), kc = 1 + 3 * j → ks = 16 + 512 * j → (∀ x, x < N → A9 x = ad x) → E9 i = .inr (3, [.ref (A9 N), .int (nI 0), .int (nI 0)]) → E9 N = eR G 16 f → (∀ x, x < j → f x = some (A9 (N + 1 + 3 * x))) → (∀ x, x < j → SlotX G A9 E9 (N + 1 + 3 * x)) → (∀ x, x < N → x ≠ i → E9 x = E x) → Wd G A ss_.heap H9 L9 A9 E9 (N + 1 + 3 * j) → ∀ ls : Array Slot, lv_has ls 2 [(1, .int (nI j)), (0, .ref (A9 i))] → W pp_ l ee_ ({ frames := 2, cells := 49, slots := 8208, locals := 43 } : Room) ss_ mm_ aa_ bb_ me_ cc_ H9 L9 kc ks (QK bb_ aa_ ss_ G ad N (N + 49) A 49 8208 (fun ad2 E2 => E2 i = .inr (3, [.ref (ad2 N), .int (nI 0), .int (nI 0)]) ∧ (∀ j, j < N → j ≠ i → E2 j = E j) ∧ Ring G ad2 E2 i pb 0)) (F0 mm_ 15 ls []) := by
    intro zn
    induction zn with
    | zero => intro j f zhm; exact absurd zhm (Nat.not_lt_zero _)
    | succ zn zih =>
      intro j f zhm hj A9 E9 H9 L9 kc ks hkc hks zla zx0 zx1 hf hs zlf zlw ls hl
      obtain ⟨z, hz⟩ : ∃ z, z = N + 1 + 3 * j := ⟨_, rfl⟩
      rw [← hz] at zlw
      refine lv_iload_n hx hb dX6_init_15 rfl (lv_at hl 0 rfl) ?_
      refine lv_bipush (v := nI 16) hx hb dX6_init_16 rfl ?_
      refine n_icmp_ge (tgt := 40) hx hb dX6_init_18 (by decide) (by omega) (by omega) (fun zc18 => ?_) (fun zc18 => ?_)
      · obtain rfl : kc = 49 := by omega
        obtain rfl : ks = 8208 := by omega
        rw [show z = N + 49 by omega] at zlw
        exact r_kret C zlw zla dX6_init_40 ⟨zx0, (fun j zm0 zm1 => zlf j zm0 zm1), (by exact ring_new hiN zx0 zx1 (fun x hx => hf x (by omega)) (fun x hx => hs x (by omega)) pb)⟩
      · refine lv_aload_n hx hb dX6_init_21 rfl (lv_at hl 1 rfl) ?_
        refine r_get C zlw RX6 TX6 3 3 hinX6 (i := i) (by omega) zx0 rfl 0 (by decide) (by decide +kernel) rfl (v := .ref (A9 N)) rfl dX6_init_22 ?_
        refine lv_iload_n hx hb dX6_init_25 rfl (lv_at hl 0 rfl) ?_
        refine r_new C zlw (C0 := RX5) (T := TX5) (n := 8) (ci := 2) (by decide +kernel) tyX5 tyX5_ok (by decide +kernel) (by decide +kernel) (by decide +kernel) rfl (fs := [.null, .null, .int (nI 0), .int (nI 0), .int (nI 0), .int (nI 0), .int (nI 0), .int (nI 0)]) (fun j hj => by rcases (show j = 0 ∨ j = 1 ∨ j = 2 ∨ j = 3 ∨ j = 4 ∨ j = 5 ∨ j = 6 ∨ j = 7 by omega) with rfl | rfl | rfl | rfl | rfl | rfl | rfl | rfl <;> rfl) (by show _ ≤ 49; omega) (by show _ ≤ 8208; omega) dX6_init_26 (fun zA3 zE3 zH3 za3 zg3 zf3 zw3 => ?_)
        have zk3_0 : zE3 i = .inr (3, [.ref (zA3 N), .int (nI 0), .int (nI 0)]) := (zf3 _ (by omega)).trans (zx0.trans (by rw [za3 (N) (by omega)]))
        have zk3_1 : zE3 N = eR G 16 f := (zf3 _ (by omega)).trans zx1
        have zh3_0 : zE3 z = .inr (2, [.null, .null, .int (nI 0), .int (nI 0), .int (nI 0), .int (nI 0), .int (nI 0), .int (nI 0)]) := zg3
        have zfr3 : ∀ j, j < N → j ≠ i → zE3 j = E j := fun j zm0 zm1 => (zf3 j (by omega) ).trans (zlf j zm0 zm1)
        have zag3 : ∀ j, j < N → zA3 j = ad j := fun j hj => (za3 j (by omega)).trans (zla j hj)
        have hl : lv_has ls 2 [(1, .int (nI j)), (0, .ref (zA3 i))] := by rw [za3 (i) (by omega)]; exact hl
        refine r_stk (st2 := [.ref (zA3 (z)), .int (nI j), .ref (zA3 N)]) (by rw [za3 (N) (by omega)]) ?_
        refine lv_dup hx hb dX6_init_29 rfl ?_
        refine r_ctor C hAO zw3 hl.1 (c_X5_init (l := l) (G := G) (tC := tC) (ad := zA3) (N := (z + 1)) (E := zE3) (i := z) (by omega) zh3_0 ) gX6_init_X5_init rfl ⟨rfl, rfl⟩ (by decide +kernel) (by decide +kernel) (by decide +kernel) rfl (by decide +kernel) ⟨Nat.le_of_ble_eq_true rfl, Nat.le_of_ble_eq_true rfl⟩ (Nat.le_of_ble_eq_true rfl) dX6_init_30 ⟨(by show _ ≤ 49; omega), (by show _ ≤ 8208; omega)⟩ (fun zA4 zE4 zH4 zL4 za4 zp4 zw4 => ?_)
        obtain ⟨zzc4, zzo4, zg4_0, zg4_1, zg4_2, zf4, zq4⟩ := zp4
        have zk4_0 : zE4 i = .inr (3, [.ref (zA4 N), .int (nI 0), .int (nI 0)]) := (zf4 _ (by omega) (by omega)).trans (zk3_0.trans (by rw [za4 (N) (by omega)]))
        have zk4_1 : zE4 N = eR G 16 f := (zf4 _ (by omega) (by omega)).trans zk3_1
        have zh4_0 : zE4 z = .inr (2, [.ref (zA4 (z + 1)), .ref (zA4 (z + 2)), .int (nI 0), .int (nI 0), .int (nI 0), .int (nI 0), .int (nI 0), .int (nI 0)]) := zg4_0
        have zh4_1 : zE4 (z + 1) = eI G 500 zzc4 := zg4_1
        have zh4_2 : zE4 (z + 2) = eI G 4 zzo4 := zg4_2
        have zfr4 : ∀ j, j < N → j ≠ i → zE4 j = E j := fun j zm0 zm1 => (zf4 j (by omega) (by omega)).trans (zfr3 j zm0 zm1)
        have zag4 : ∀ j, j < N → zA4 j = ad j := fun j hj => (za4 j (by omega)).trans (zag3 j hj)
        have hl : lv_has ls 2 [(1, .int (nI j)), (0, .ref (zA4 i))] := by rw [za4 (i) (by omega)]; exact hl
        refine r_stk (st2 := [.ref (zA4 z), .int (nI j), .ref (zA4 N)]) (by rw [za4 (z) (by omega), za4 (N) (by omega)]) ?_
        refine r_aast C zw4 (i := N) (k := z) (by omega) (by omega) zk4_1 zh4_0 (j := j) (by omega) (by omega) dX6_init_33 (fun zE5 zH5 zL5 zg5 zf5 zw5 => ?_)
        have zh5_0 : zE5 N = eR G 16 (va_up (f) (j) (some (zA4 z))) := zg5
        have zk5_0 : zE5 i = .inr (3, [.ref (zA4 N), .int (nI 0), .int (nI 0)]) := (zf5 _ (by omega)).trans zk4_0
        have zk5_1 : zE5 z = .inr (2, [.ref (zA4 (z + 1)), .ref (zA4 (z + 2)), .int (nI 0), .int (nI 0), .int (nI 0), .int (nI 0), .int (nI 0), .int (nI 0)]) := (zf5 _ (by omega)).trans zh4_0
        have zk5_2 : zE5 (z + 1) = eI G 500 zzc4 := (zf5 _ (by omega)).trans zh4_1
        have zk5_3 : zE5 (z + 2) = eI G 4 zzo4 := (zf5 _ (by omega)).trans zh4_2
        have zfr5 : ∀ j, j < N → j ≠ i → zE5 j = E j := fun j zm0 zm1 => (zf5 j (by omega)).trans (zfr4 j zm0 zm1)
        refine lv_iinc (v := nI (j + 1)) (lv' := [(1, .int (nI (j + 1))), (0, .ref (zA4 i))]) hx hb dX6_init_34 hl (k := 0) rfl (by rw [show Int32.ofInt 1 = nI 1 from rfl, nI_add]) (by decide) rfl (fun ls hl => ?_)
        refine lv_goto (tgt := 15) hx hb dX6_init_37 (by decide) ?_
        exact zih _ _ (by omega) (by omega) _ _ _ _ _ _ (by omega) (by omega) zag4 zk5_0 zh5_0 (ring_f hf hz (fun x hx => (za4 x (by omega)).trans (za3 x hx))) (ring_s hs hz (fun x hx => (za4 x (by omega)).trans (za3 x hx)) (fun x hx hn hk => (zf5 x hn).trans ((zf4 x (by omega) (by omega)).trans (zf3 x hx))) ⟨_, _, _, _, _, _, _, _, zk5_1, zk5_2, zk5_3⟩) (fun x h1 h2 => zfr5 x h1 h2) (by rw [show N + 1 + 3 * (j + 1) = z + 3 by omega]; exact zw5) _ (lv_sub hl [0, 1] rfl)
  exact zlp _ 0 _ (Nat.lt_succ_self _) (by omega) _ _ _ _ _ _ rfl rfl zag1 zh2_0 zk2_0 (fun x hx => absurd hx (Nat.not_lt_zero x)) (fun x hx => absurd hx (Nat.not_lt_zero x)) (fun x h1 h2 => zfr2 x h1 h2) zw2 _ (lv_sub hl [0, 1] rfl)

