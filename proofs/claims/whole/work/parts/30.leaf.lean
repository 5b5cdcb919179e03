set_option maxHeartbeats 4000000 in
set_option maxRecDepth 100000 in
theorem c_J6_bitCount_0f7a4 {l : Launch} {G : vG} {tC : Nat} {ad : Nat → Nat} {N : Nat} {E : Nat → va_E} {n : Nat} (hn : n < 256) : MI l yJ6_bitCount_0f7a4 wsJ6_bitCount_0f7a4 ({ frames := 0, cells := 0, slots := 0, locals := 0 } : Room) G tC ad N E [.int (nI n)] (fun r E2 => E2 = E ∧ r = nI (pc8 n)) := by
  refine MI_of RJ6 rfl (by decide) rfl (Nat.le_of_ble_eq_true rfl) ?_
  intro pp_ ee_ ss_ mm_ aa_ bb_ me_ cc_ A ls C hw hl
  have hx := C.1
  have hb := C.2.1
  have hown := C.2.2.2.2.1
  have hts := C.2.2.2.2.2.1
  have hl : lv_has ls 1 [(0, .int (nI n))] := hl
  refine lv_iload_n hx hb dJ6_bitCount_0f7a4_0 rfl (lv_at hl 0 rfl) ?_
  refine lv_iload_n hx hb dJ6_bitCount_0f7a4_1 rfl (lv_at hl 0 rfl) ?_
  refine lv_iconst (v := nI 1) hx hb dJ6_bitCount_0f7a4_2 rfl ?_
  refine lv_iushr (v := ((nI n).toUInt32 >>> ((nI 1).toUInt32 &&& Int32.toUInt32 31)).toInt32) hx hb dJ6_bitCount_0f7a4_3 rfl ?_
  refine lv_ldcw (v := 1431655765) hx hb hown (hts (.constant RJ6 265 (1431655765)) (by decide +kernel)) dJ6_bitCount_0f7a4_4 ?_
  refine r_nat 1431655765 rfl ?_
  refine lv_iand hx hb dJ6_bitCount_0f7a4_7 ?_
  refine lv_isub hx hb dJ6_bitCount_0f7a4_8 ?_
  refine lv_topi (fun x1 h_x1 => ?_)
  refine lv_istore_n (lv' := [(0, .int x1)]) hx hb dJ6_bitCount_0f7a4_9 rfl hl (by decide) rfl (fun ls hl => ?_)
  refine lv_iload_n hx hb dJ6_bitCount_0f7a4_10 rfl (lv_at hl 0 rfl) ?_
  refine lv_ldcw (v := 858993459) hx hb hown (hts (.constant RJ6 266 (858993459)) (by decide +kernel)) dJ6_bitCount_0f7a4_11 ?_
  refine r_nat 858993459 rfl ?_
  refine lv_iand hx hb dJ6_bitCount_0f7a4_14 ?_
  refine lv_iload_n hx hb dJ6_bitCount_0f7a4_15 rfl (lv_at hl 0 rfl) ?_
  refine lv_iconst (v := nI 2) hx hb dJ6_bitCount_0f7a4_16 rfl ?_
  refine lv_iushr (v := (x1.toUInt32 >>> ((nI 2).toUInt32 &&& Int32.toUInt32 31)).toInt32) hx hb dJ6_bitCount_0f7a4_17 rfl ?_
  refine lv_ldcw (v := 858993459) hx hb hown (hts (.constant RJ6 266 (858993459)) (by decide +kernel)) dJ6_bitCount_0f7a4_18 ?_
  refine r_nat 858993459 rfl ?_
  refine lv_iand hx hb dJ6_bitCount_0f7a4_21 ?_
  refine lv_iadd hx hb dJ6_bitCount_0f7a4_22 ?_
  refine lv_topi (fun x2 h_x2 => ?_)
  refine lv_istore_n (lv' := [(0, .int x2)]) hx hb dJ6_bitCount_0f7a4_23 rfl hl (by decide) rfl (fun ls hl => ?_)
  refine lv_iload_n hx hb dJ6_bitCount_0f7a4_24 rfl (lv_at hl 0 rfl) ?_
  refine lv_iload_n hx hb dJ6_bitCount_0f7a4_25 rfl (lv_at hl 0 rfl) ?_
  refine lv_iconst (v := nI 4) hx hb dJ6_bitCount_0f7a4_26 rfl ?_
  refine lv_iushr (v := (x2.toUInt32 >>> ((nI 4).toUInt32 &&& Int32.toUInt32 31)).toInt32) hx hb dJ6_bitCount_0f7a4_27 rfl ?_
  refine lv_iadd hx hb dJ6_bitCount_0f7a4_28 ?_
  refine lv_ldcw (v := 252645135) hx hb hown (hts (.constant RJ6 267 (252645135)) (by decide +kernel)) dJ6_bitCount_0f7a4_29 ?_
  refine r_nat 252645135 rfl ?_
  refine lv_iand hx hb dJ6_bitCount_0f7a4_32 ?_
  refine lv_topi (fun x3 h_x3 => ?_)
  refine lv_istore_n (lv' := [(0, .int x3)]) hx hb dJ6_bitCount_0f7a4_33 rfl hl (by decide) rfl (fun ls hl => ?_)
  refine lv_iload_n hx hb dJ6_bitCount_0f7a4_34 rfl (lv_at hl 0 rfl) ?_
  refine lv_iload_n hx hb dJ6_bitCount_0f7a4_35 rfl (lv_at hl 0 rfl) ?_
  refine lv_bipush (v := nI 8) hx hb dJ6_bitCount_0f7a4_36 rfl ?_
  refine lv_iushr (v := (x3.toUInt32 >>> ((nI 8).toUInt32 &&& Int32.toUInt32 31)).toInt32) hx hb dJ6_bitCount_0f7a4_38 rfl ?_
  refine lv_iadd hx hb dJ6_bitCount_0f7a4_39 ?_
  refine lv_topi (fun x4 h_x4 => ?_)
  refine lv_istore_n (lv' := [(0, .int x4)]) hx hb dJ6_bitCount_0f7a4_40 rfl hl (by decide) rfl (fun ls hl => ?_)
  refine lv_iload_n hx hb dJ6_bitCount_0f7a4_41 rfl (lv_at hl 0 rfl) ?_
  refine lv_iload_n hx hb dJ6_bitCount_0f7a4_42 rfl (lv_at hl 0 rfl) ?_
  refine lv_bipush (v := nI 16) hx hb dJ6_bitCount_0f7a4_43 rfl ?_
  refine lv_iushr (v := (x4.toUInt32 >>> ((nI 16).toUInt32 &&& Int32.toUInt32 31)).toInt32) hx hb dJ6_bitCount_0f7a4_45 rfl ?_
  refine lv_iadd hx hb dJ6_bitCount_0f7a4_46 ?_
  refine lv_topi (fun x5 h_x5 => ?_)
  refine lv_istore_n (lv' := [(0, .int x5)]) hx hb dJ6_bitCount_0f7a4_47 rfl hl (by decide) rfl (fun ls hl => ?_)
  refine lv_iload_n hx hb dJ6_bitCount_0f7a4_48 rfl (lv_at hl 0 rfl) ?_
  refine lv_bipush (v := nI 63) hx hb dJ6_bitCount_0f7a4_49 rfl ?_
  refine lv_iand hx hb dJ6_bitCount_0f7a4_51 ?_
  exact r_iret C hw dJ6_bitCount_0f7a4_52 ⟨rfl, (by rw [h_x5, h_x4, h_x3, h_x2, h_x1]; exact bc_ok n hn)⟩

set_option maxHeartbeats 4000000 in
set_option maxRecDepth 100000 in
theorem c_J7_fill_53178 {l : Launch} {G : vG} {tC : Nat} {ad : Nat → Nat} {N : Nat} {E : Nat → va_E} {q n : Nat} {f : Nat → Int32} {v : Int32} (hN0 : q + 1 ≤ N) (hE0 : E q = eI G n f) (hn : n < 2147483648) : MV l yJ7_fill_53178 wsJ7_fill_53178 ({ frames := 0, cells := 0, slots := 0, locals := 0 } : Room) G tC ad N E [.ref (ad q), .int v] (fun E2 => E2 q = eI G n (fillF f 0 n v) ∧ (∀ j, j ≠ q → E2 j = E j)) := by
  refine MV_of RJ7 rfl (by decide) rfl (Nat.le_of_ble_eq_true rfl) ?_
  intro pp_ ee_ ss_ mm_ aa_ bb_ me_ cc_ A ls C hw hl
  have hx := C.1
  have hb := C.2.1
  have hown := C.2.2.2.2.1
  have hts := C.2.2.2.2.2.1
  have hl : lv_has ls 4 [(0, .ref (ad q)), (1, .int v)] := hl
  refine lv_iconst (v := nI 0) hx hb dJ7_fill_53178_0 rfl ?_
  refine lv_istore_n (lv' := [(2, .int (nI 0)), (0, .ref (ad q)), (1, .int v)]) hx hb dJ7_fill_53178_1 rfl hl (by decide) rfl (fun ls hl => ?_)
  refine lv_aload_n hx hb dJ7_fill_53178_2 rfl (lv_at hl 1 rfl) ?_
  refine r_alenI C hw (i := q) (by omega) hE0 dJ7_fill_53178_3 ?_
  refine lv_istore_n (lv' := [(3, .int (nI n)), (2, .int (nI 0)), (0, .ref (ad q)), (1, .int v)]) hx hb dJ7_fill_53178_4 rfl hl (by decide) rfl (fun ls hl => ?_)
  have zlp5 : ∀ (zn : Nat) (i : Nat) (g : Nat → Int32), n - i < zn → (i ≤ n) → (g = fillF f 0 i v) → ∀ (E9 : Nat → va_E) (H9 : Heap) (L9 : List Loc), E9 q = eI G n g → (∀ j, j ≠ q → E9 j = E j) → Wd G A ss_.heap H9 L9 ad E9 N → ∀ (ls : Array Slot), lv_has ls 4 [(0, .ref (ad q)), (1, .int v), (2, .int (nI i)), (3, .int (nI n))] → W pp_ l ee_ ({ frames := 0, cells := 0, slots := 0, locals := 0 } : Room) ss_ mm_ aa_ bb_ me_ cc_ H9 L9 0 0 (QV bb_ aa_ ss_ G ad N A (fun E2 => E2 q = eI G n (fillF f 0 n v) ∧ (∀ j, j ≠ q → E2 j = E j))) (F0 mm_ 5 ls []) := by
    intro zn
    induction zn with
    | zero => intro i g zhm; exact absurd zhm (Nat.not_lt_zero _)
    | succ zn zih5 =>
      intro i g zhm5 hi hg zE_5 zH_5 zL_5 zl5_0 zlf5  zlw5 ls hl
      refine lv_iload_n hx hb dJ7_fill_53178_5 rfl (lv_at hl 2 rfl) ?_
      refine lv_iload_n hx hb dJ7_fill_53178_6 rfl (lv_at hl 3 rfl) ?_
      refine n_icmp_ge (tgt := 20) hx hb dJ7_fill_53178_7 (by decide) (by omega) (by omega) (fun zc7 => ?_) (fun zc7 => ?_)
      · exact r_vret C zlw5 dJ7_fill_53178_20 ⟨(zl5_0.trans (by rw [hg, show i = n by omega])), (fun j zm0 => zlf5 j zm0)⟩
      · refine lv_aload_n hx hb dJ7_fill_53178_10 rfl (lv_at hl 0 rfl) ?_
        refine lv_iload_n hx hb dJ7_fill_53178_11 rfl (lv_at hl 2 rfl) ?_
        refine lv_iload_n hx hb dJ7_fill_53178_12 rfl (lv_at hl 1 rfl) ?_
        refine r_iasN C zlw5 (i := q) (by omega) zl5_0 (j := i) (by omega) (by omega) dJ7_fill_53178_13 (fun zE1 zH1 zL1 zg1 zf1 zw1 => ?_)
        have zh1_0 : zE1 q = eI G n (upd g i v) := zg1
        have zfr1 : ∀ j, j ≠ q → zE1 j = E j := fun j zm0 => (zf1 j zm0).trans (zlf5 j zm0)
        refine lv_iinc (v := nI (i + 1)) (lv' := [(2, .int (nI (i + 1))), (0, .ref (ad q)), (1, .int v), (3, .int (nI n))]) hx hb dJ7_fill_53178_14 hl (k := 2) rfl (by rw [show Int32.ofInt 1 = nI 1 from rfl, nI_add]) (by decide) rfl (fun ls hl => ?_)
        refine lv_goto (tgt := 5) hx hb dJ7_fill_53178_17 (by decide) ?_
        exact zih5 (i + 1) (upd g i v) (by omega) (by omega) (by rw [hg]; exact fillF_s f v (Nat.zero_le _)) _ _ _ zh1_0 (fun j zm0 => zfr1 j zm0) zw1 _ (lv_sub hl [1, 2, 0, 3] rfl)
  exact zlp5 _ 0 f (Nat.lt_succ_self _) (by omega) (by exact (fillF_0 f 0 v).symm) _ _ _ hE0 (fun j _ => rfl) hw _ (lv_sub hl [2, 3, 1, 0] rfl)

set_option maxHeartbeats 4000000 in
set_option maxRecDepth 100000 in
theorem c_J7_rangeCheck_23922 {l : Launch} {G : vG} {tC : Nat} {ad : Nat → Nat} {N : Nat} {E : Nat → va_E} {a b d : Nat} (h1 : b ≤ d) (h2 : d ≤ a) (h3 : a < 2147483648) : MV l yJ7_rangeCheck_23922 wsJ7_rangeCheck_23922 ({ frames := 0, cells := 0, slots := 0, locals := 0 } : Room) G tC ad N E [.int (nI a), .int (nI b), .int (nI d)] (fun E2 => E2 = E) := by
  refine MV_of RJ7 rfl (by decide) rfl (Nat.le_of_ble_eq_true rfl) ?_
  intro pp_ ee_ ss_ mm_ aa_ bb_ me_ cc_ A ls C hw hl
  have hx := C.1
  have hb := C.2.1
  have hown := C.2.2.2.2.1
  have hts := C.2.2.2.2.2.1
  have hl : lv_has ls 3 [(0, .int (nI a)), (1, .int (nI b)), (2, .int (nI d))] := hl
  refine lv_iload_n hx hb dJ7_rangeCheck_23922_0 rfl (lv_at hl 1 rfl) ?_
  refine lv_iload_n hx hb dJ7_rangeCheck_23922_1 rfl (lv_at hl 2 rfl) ?_
  refine n_icmp_le (tgt := 46) hx hb dJ7_rangeCheck_23922_2 (by decide) (by omega) (by omega) (fun zc2_ => ?_) (fun zc2_ => ?_)
  · refine lv_iload_n hx hb dJ7_rangeCheck_23922_46 rfl (lv_at hl 1 rfl) ?_
    refine n_if_ge (tgt := 59) hx hb dJ7_rangeCheck_23922_47 (by decide) (by omega) (fun zc47 => ?_) (fun zc47 => ?_)
    · refine lv_iload_n hx hb dJ7_rangeCheck_23922_59 rfl (lv_at hl 2 rfl) ?_
      refine lv_iload_n hx hb dJ7_rangeCheck_23922_60 rfl (lv_at hl 0 rfl) ?_
      refine n_icmp_le (tgt := 73) hx hb dJ7_rangeCheck_23922_61 (by decide) (by omega) (by omega) (fun zc61 => ?_) (fun zc61 => ?_)
      · exact r_vret C hw dJ7_rangeCheck_23922_73 rfl
      · exact absurd zc61 (by omega)
    · exact zc47.elim
  · exact absurd zc2_ (by omega)

set_option maxHeartbeats 4000000 in
set_option maxRecDepth 100000 in
theorem c_J7_fill_fda19 {l : Launch} {G : vG} {tC : Nat} {ad : Nat → Nat} {N : Nat} {E : Nat → va_E} {q n a b : Nat} {f : Nat → Int32} {v : Int32} (hN0 : q + 1 ≤ N) (hE0 : E q = eI G n f) (hn : n < 2147483648) (h1 : a ≤ b) (h2 : b ≤ n) : MV l yJ7_fill_fda19 wsJ7_fill_fda19 ({ frames := 1, cells := 0, slots := 0, locals := 22 } : Room) G tC ad N E [.ref (ad q), .int (nI a), .int (nI b), .int v] (fun E2 => E2 q = eI G n (fillF f a b v) ∧ (∀ j, j ≠ q → E2 j = E j)) := by
  refine MV_of RJ7 rfl (by decide) rfl (Nat.le_of_ble_eq_true rfl) ?_
  intro pp_ ee_ ss_ mm_ aa_ bb_ me_ cc_ A ls C hw hl
  have hx := C.1
  have hb := C.2.1
  have hown := C.2.2.2.2.1
  have hts := C.2.2.2.2.2.1
  have hl : lv_has ls 5 [(0, .ref (ad q)), (1, .int (nI a)), (2, .int (nI b)), (3, .int v)] := hl
  refine lv_aload_n hx hb dJ7_fill_fda19_0 rfl (lv_at hl 0 rfl) ?_
  refine r_alenI C hw (i := q) (by omega) hE0 dJ7_fill_fda19_1 ?_
  refine lv_iload_n hx hb dJ7_fill_fda19_2 rfl (lv_at hl 1 rfl) ?_
  refine lv_iload_n hx hb dJ7_fill_fda19_3 rfl (lv_at hl 2 rfl) ?_
  refine r_sV C hw hl.1 [.int (nI n), .int (nI a), .int (nI b)] 3 rfl (c_J7_rangeCheck_23922 (l := l) (G := G) (tC := tC) (ad := ad) (N := N) (E := E) (a := n) (b := a) (d := b)   (by first | assumption | omega) (by first | assumption | omega) (by first | assumption | omega)) gJ7_fill_fda19_J7_rangeCheck_23922 rfl ⟨rfl, rfl⟩ (by decide +kernel) ⟨Nat.le_of_ble_eq_true rfl, Nat.le_of_ble_eq_true rfl⟩ (rest := []) rfl (Nat.le_of_ble_eq_true rfl) dJ7_fill_fda19_4 ⟨Nat.zero_le _, Nat.zero_le _⟩ (fun zE1 zH1 zL1 zp1 zw1 => ?_)
  have ze1 := zp1
  rw [ze1] at zw1
  clear ze1
  refine lv_iload_n hx hb dJ7_fill_fda19_7 rfl (lv_at hl 1 rfl) ?_
  refine lv_istore (lv' := [(4, .int (nI a)), (0, .ref (ad q)), (1, .int (nI a)), (2, .int (nI b)), (3, .int v)]) hx hb dJ7_fill_fda19_8 hl (by decide) rfl (fun ls hl => ?_)
  have zlp10 : ∀ (zn : Nat) (i : Nat) (g : Nat → Int32), b - i < zn → (a ≤ i) → (i ≤ b) → (g = fillF f a i v) → ∀ (E9 : Nat → va_E) (H9 : Heap) (L9 : List Loc), E9 q = eI G n g → (∀ j, j ≠ q → E9 j = E j) → Wd G A ss_.heap H9 L9 ad E9 N → ∀ (ls : Array Slot), lv_has ls 5 [(0, .ref (ad q)), (2, .int (nI b)), (3, .int v), (4, .int (nI i))] → W pp_ l ee_ ({ frames := 1, cells := 0, slots := 0, locals := 22 } : Room) ss_ mm_ aa_ bb_ me_ cc_ H9 L9 0 0 (QV bb_ aa_ ss_ G ad N A (fun E2 => E2 q = eI G n (fillF f a b v) ∧ (∀ j, j ≠ q → E2 j = E j))) (F0 mm_ 10 ls []) := by
    intro zn
    induction zn with
    | zero => intro i g zhm; exact absurd zhm (Nat.not_lt_zero _)
    | succ zn zih10 =>
      intro i g zhm10 hi1 hi hg zE_10 zH_10 zL_10 zl10_0 zlf10  zlw10 ls hl
      refine lv_iload hx hb dJ7_fill_fda19_10 (lv_at hl 3 rfl) ?_
      refine lv_iload_n hx hb dJ7_fill_fda19_12 rfl (lv_at hl 1 rfl) ?_
      refine n_icmp_ge (tgt := 27) hx hb dJ7_fill_fda19_13 (by decide) (by omega) (by omega) (fun zc13 => ?_) (fun zc13 => ?_)
      · exact r_vret C zlw10 dJ7_fill_fda19_27 ⟨(zl10_0.trans (by rw [hg, show i = b by omega])), (fun j zm0 => zlf10 j zm0)⟩
      · refine lv_aload_n hx hb dJ7_fill_fda19_16 rfl (lv_at hl 0 rfl) ?_
        refine lv_iload hx hb dJ7_fill_fda19_17 (lv_at hl 3 rfl) ?_
        refine lv_iload_n hx hb dJ7_fill_fda19_19 rfl (lv_at hl 2 rfl) ?_
        refine r_iasN C zlw10 (i := q) (by omega) zl10_0 (j := i) (by omega) (by omega) dJ7_fill_fda19_20 (fun zE2 zH2 zL2 zg2 zf2 zw2 => ?_)
        have zh2_0 : zE2 q = eI G n (upd g i v) := zg2
        have zfr2 : ∀ j, j ≠ q → zE2 j = E j := fun j zm0 => (zf2 j zm0).trans (zlf10 j zm0)
        refine lv_iinc (v := nI (i + 1)) (lv' := [(4, .int (nI (i + 1))), (0, .ref (ad q)), (2, .int (nI b)), (3, .int v)]) hx hb dJ7_fill_fda19_21 hl (k := 3) rfl (by rw [show Int32.ofInt 1 = nI 1 from rfl, nI_add]) (by decide) rfl (fun ls hl => ?_)
        refine lv_goto (tgt := 10) hx hb dJ7_fill_fda19_24 (by decide) ?_
        exact zih10 (i + 1) (upd g i v) (by omega) (by omega) (by omega) (by rw [hg]; exact fillF_s f v hi1) _ _ _ zh2_0 (fun j zm0 => zfr2 j zm0) zw2 _ (lv_sub hl [1, 2, 3, 0] rfl)
  exact zlp10 _ a f (Nat.lt_succ_self _) (by omega) (by omega) (by exact (fillF_0 f a v).symm) _ _ _ hE0 (fun j _ => rfl) zw1 _ (lv_sub hl [1, 3, 4, 0] rfl)

set_option maxHeartbeats 4000000 in
set_option maxRecDepth 100000 in
theorem c_X7_isWithin {l : Launch} {G : vG} {tC : Nat} {ad : Nat → Nat} {N : Nat} {E : Nat → va_E} {x a b : Int32}  : MI l yX7_isWithin wsX7_isWithin ({ frames := 0, cells := 0, slots := 0, locals := 0 } : Room) G tC ad N E [.int x, .int a, .int b] (fun r E2 => E2 = E ∧ r = if a ≤ x ∧ x ≤ b then 1 else 0) := by
  refine MI_of RX7 rfl (by decide) rfl (Nat.le_of_ble_eq_true rfl) ?_
  intro pp_ ee_ ss_ mm_ aa_ bb_ me_ cc_ A ls C hw hl
  have hx := C.1
  have hb := C.2.1
  have hown := C.2.2.2.2.1
  have hts := C.2.2.2.2.2.1
  have hl : lv_has ls 3 [(0, .int x), (1, .int a), (2, .int b)] := hl
  refine lv_iload_n hx hb dX7_isWithin_0 rfl (lv_at hl 1 rfl) ?_
  refine lv_iload_n hx hb dX7_isWithin_1 rfl (lv_at hl 0 rfl) ?_
  refine lv_icmp_gt (tgt := 14) hx hb dX7_isWithin_2 (by decide) (fun zc2 => ?_) (fun zc2 => ?_)
  · refine lv_iconst (v := nI 0) hx hb dX7_isWithin_14 rfl ?_
    exact r_zret C hw dX7_isWithin_15 (Or.inl rfl) ⟨rfl, (by first | (rw [if_pos ⟨Int32.not_lt.mp zc2, Int32.not_lt.mp zc7⟩]; rfl) | (rw [if_neg (fun q => Int32.not_lt.mpr q.1 zc2)]; rfl) | (rw [if_neg (fun q => Int32.not_lt.mpr q.2 zc7)]; rfl))⟩
  · refine lv_iload_n hx hb dX7_isWithin_5 rfl (lv_at hl 0 rfl) ?_
    refine lv_iload_n hx hb dX7_isWithin_6 rfl (lv_at hl 2 rfl) ?_
    refine lv_icmp_gt (tgt := 14) hx hb dX7_isWithin_7 (by decide) (fun zc7 => ?_) (fun zc7 => ?_)
    · refine lv_iconst (v := nI 0) hx hb dX7_isWithin_14 rfl ?_
      exact r_zret C hw dX7_isWithin_15 (Or.inl rfl) ⟨rfl, (by first | (rw [if_pos ⟨Int32.not_lt.mp zc2, Int32.not_lt.mp zc7⟩]; rfl) | (rw [if_neg (fun q => Int32.not_lt.mpr q.1 zc2)]; rfl) | (rw [if_neg (fun q => Int32.not_lt.mpr q.2 zc7)]; rfl))⟩
    · refine lv_iconst (v := nI 1) hx hb dX7_isWithin_10 rfl ?_
      refine lv_goto (tgt := 15) hx hb dX7_isWithin_11 (by decide) ?_
      exact r_zret C hw dX7_isWithin_15 (Or.inr rfl) ⟨rfl, (by first | (rw [if_pos ⟨Int32.not_lt.mp zc2, Int32.not_lt.mp zc7⟩]; rfl) | (rw [if_neg (fun q => Int32.not_lt.mpr q.1 zc2)]; rfl) | (rw [if_neg (fun q => Int32.not_lt.mpr q.2 zc7)]; rfl))⟩

set_option maxHeartbeats 4000000 in
set_option maxRecDepth 100000 in
theorem c_X1_encode {l : Launch} {G : vG} {tC : Nat} {ad : Nat → Nat} {N : Nat} {E : Nat → va_E} {v : Nat} (hv : v < 16) : MI l yX1_encode wsX1_encode ({ frames := 0, cells := 0, slots := 0, locals := 0 } : Room) G tC ad N E [.int (nI v)] (fun r E2 => E2 = E ∧ r = codeT v) := by
  refine MI_of RX1 rfl (by decide) rfl (Nat.le_of_ble_eq_true rfl) ?_
  intro pp_ ee_ ss_ mm_ aa_ bb_ me_ cc_ A ls C hw hl
  have hx := C.1
  have hb := C.2.1
  have hown := C.2.2.2.2.1
  have hts := C.2.2.2.2.2.1
  have hl : lv_has ls 1 [(0, .int (nI v))] := hl
  refine r_codes C hw (by decide +kernel) dX1_encode_0 ?_
  refine lv_iload_n hx hb dX1_encode_3 rfl (lv_at hl 0 rfl) ?_
  refine lv_bipush (v := nI 15) hx hb dX1_encode_4 rfl ?_
  refine lv_iand hx hb dX1_encode_6 ?_
  refine r_nat v (and15 hv) ?_
  refine r_codeN C hw (j := v) (by omega) dX1_encode_7 ?_
  exact r_iret C hw dX1_encode_8 ⟨rfl, (by rfl)⟩

set_option maxHeartbeats 4000000 in
set_option maxRecDepth 100000 in
theorem c_X1_decode {l : Launch} {G : vG} {tC : Nat} {ad : Nat → Nat} {N : Nat} {E : Nat → va_E} {o : Nat} (ho : o < 256) : MI l yX1_decode wsX1_decode ({ frames := 1, cells := 0, slots := 0, locals := 20 } : Room) G tC ad N E [.int (nI o)] (fun r E2 => E2 = E ∧ r = dec o) := by
  refine MI_of RX1 rfl (by decide) rfl (Nat.le_of_ble_eq_true rfl) ?_
  intro pp_ ee_ ss_ mm_ aa_ bb_ me_ cc_ A ls C hw hl
  have hx := C.1
  have hb := C.2.1
  have hown := C.2.2.2.2.1
  have hts := C.2.2.2.2.2.1
  have hl : lv_has ls 2 [(0, .int (nI o))] := hl
  refine lv_iconst (v := nI 0) hx hb dX1_decode_0 rfl ?_
  refine lv_istore_n (lv' := [(1, .int (nI 0)), (0, .int (nI o))]) hx hb dX1_decode_1 rfl hl (by decide) rfl (fun ls hl => ?_)
  have zlp2 : ∀ (zn : Nat) (v : Nat), 16 - v < zn → (v ≤ 16) → (decS o (16 - v) v = decN o) → ∀ (H9 : Heap) (L9 : List Loc), Wd G A ss_.heap H9 L9 ad E N → ∀ (ls : Array Slot), lv_has ls 2 [(0, .int (nI o)), (1, .int (nI v))] → W pp_ l ee_ ({ frames := 1, cells := 0, slots := 0, locals := 20 } : Room) ss_ mm_ aa_ bb_ me_ cc_ H9 L9 0 0 (QI bb_ aa_ ss_ G ad N A (fun r E2 => E2 = E ∧ r = dec o)) (F0 mm_ 2 ls []) := by
    intro zn
    induction zn with
    | zero => intro v zhm; exact absurd zhm (Nat.not_lt_zero _)
    | succ zn zih2 =>
      intro v zhm2 hv hd zH_2 zL_2 zlw2 ls hl
      refine lv_iload_n hx hb dX1_decode_2 rfl (lv_at hl 1 rfl) ?_
      refine r_codes C zlw2 (by decide +kernel) dX1_decode_3 ?_
      refine r_codeL C zlw2 dX1_decode_6 ?_
      refine n_icmp_ge (tgt := 32) hx hb dX1_decode_7 (by decide) (by omega) (by omega) (fun zc7 => ?_) (fun zc7 => ?_)
      · refine lv_iconst (v := -1) hx hb dX1_decode_32 (by decide) ?_
        exact r_iret C zlw2 dX1_decode_33 ⟨rfl, (by have ze9 : decN o = 16 := (by rw [← hd, show v = 16 by omega]; rfl); rw [dec, ze9, if_neg (by omega)])⟩
      · refine lv_iload_n hx hb dX1_decode_10 rfl (lv_at hl 0 rfl) ?_
        refine r_codes C zlw2 (by decide +kernel) dX1_decode_11 ?_
        refine lv_iload_n hx hb dX1_decode_14 rfl (lv_at hl 1 rfl) ?_
        refine r_codeN C zlw2 (j := v) (by omega) dX1_decode_15 ?_
        refine r_nat (codeN v) (codeT_nI v (by omega)) ?_
        refine lv_ixor hx hb dX1_decode_16 ?_
        refine r_nat (o ^^^ codeN v) (xor_nI _ _) ?_
        refine r_sI C zlw2 hl.1 [.int (nI (o ^^^ codeN v))] 1 rfl (c_J6_bitCount_0f7a4 (l := l) (G := G) (tC := tC) (ad := ad) (N := N) (E := E) (n := o ^^^ codeN v)   (xor_lt ho (codeN_lt v (by omega)))) gX1_decode_J6_bitCount_0f7a4 rfl ⟨rfl, rfl⟩ (by decide +kernel) ⟨Nat.le_of_ble_eq_true rfl, Nat.le_of_ble_eq_true rfl⟩ (rest := []) rfl (Nat.le_of_ble_eq_true rfl) dX1_decode_17 ⟨Nat.zero_le _, Nat.zero_le _⟩ (fun zr1 zE1 zH1 zL1 zp1 zw1 => ?_)
        obtain ⟨ze1, zq1⟩ := zp1
        rw [ze1] at zw1
        clear ze1
        rw [zq1]
        refine lv_iconst (v := nI 1) hx hb dX1_decode_20 rfl ?_
        have b8 := pc8_le (o ^^^ codeN v)
        refine n_icmp_gt (tgt := 26) hx hb dX1_decode_21 (by decide) (by omega) (by omega) (fun zc21 => ?_) (fun zc21 => ?_)
        · refine lv_iinc (v := nI (v + 1)) (lv' := [(1, .int (nI (v + 1))), (0, .int (nI o))]) hx hb dX1_decode_26 hl (k := 1) rfl (by rw [show Int32.ofInt 1 = nI 1 from rfl, nI_add]) (by decide) rfl (fun ls hl => ?_)
          refine lv_goto (tgt := 2) hx hb dX1_decode_29 (by decide) ?_
          exact zih2 (v + 1) (by omega) (by omega) (by rw [← hd, show 16 - v = (16 - (v + 1)) + 1 by omega, decS, if_neg (by omega)]) _ _ zw1 _ (lv_sub hl [1, 0] rfl)
        · refine lv_iload_n hx hb dX1_decode_24 rfl (lv_at hl 1 rfl) ?_
          exact r_iret C zw1 dX1_decode_25 ⟨rfl, (by have ze9 : decN o = v := (by rw [← hd, show 16 - v = (16 - (v + 1)) + 1 by omega, decS, if_pos (by omega)]); rw [dec, ze9, if_pos (by omega)])⟩
  exact zlp2 _ 0 (Nat.lt_succ_self _) (by omega) (by rfl) _ _ hw _ (lv_sub hl [1, 0] rfl)

set_option maxHeartbeats 4000000 in
set_option maxRecDepth 100000 in
theorem c_X1_isWell {l : Launch} {G : vG} {tC : Nat} {ad : Nat → Nat} {N : Nat} {E : Nat → va_E} {n : Nat} (hn : n < 256) : MI l yX1_isWell wsX1_isWell ({ frames := 1, cells := 0, slots := 0, locals := 20 } : Room) G tC ad N E [.int (nI n)] (fun r E2 => E2 = E ∧ r = if pc8 n % 2 = 1 then 1 else 0) := by
  refine MI_of RX1 rfl (by decide) rfl (Nat.le_of_ble_eq_true rfl) ?_
  intro pp_ ee_ ss_ mm_ aa_ bb_ me_ cc_ A ls C hw hl
  have hx := C.1
  have hb := C.2.1
  have hown := C.2.2.2.2.1
  have hts := C.2.2.2.2.2.1
  have hl : lv_has ls 1 [(0, .int (nI n))] := hl
  refine lv_iload_n hx hb dX1_isWell_0 rfl (lv_at hl 0 rfl) ?_
  refine r_sI C hw hl.1 [.int (nI n)] 1 rfl (c_J6_bitCount_0f7a4 (l := l) (G := G) (tC := tC) (ad := ad) (N := N) (E := E) (n := n)   (by first | assumption | omega)) gX1_isWell_J6_bitCount_0f7a4 rfl ⟨rfl, rfl⟩ (by decide +kernel) ⟨Nat.le_of_ble_eq_true rfl, Nat.le_of_ble_eq_true rfl⟩ (rest := []) rfl (Nat.le_of_ble_eq_true rfl) dX1_isWell_1 ⟨Nat.zero_le _, Nat.zero_le _⟩ (fun zr1 zE1 zH1 zL1 zp1 zw1 => ?_)
  obtain ⟨ze1, zq1⟩ := zp1
  rw [ze1] at zw1
  clear ze1
  rw [zq1]
  refine lv_iconst (v := nI 1) hx hb dX1_isWell_4 rfl ?_
  refine lv_iand hx hb dX1_isWell_5 ?_
  refine r_nat (pc8 n % 2) (pk_andN (by have := pc8_le n; omega) 1 rfl) ?_
  refine lv_iconst (v := nI 1) hx hb dX1_isWell_6 rfl ?_
  refine n_icmp_ne (tgt := 14) hx hb dX1_isWell_7 (by decide) (by omega) (by omega) (fun zc7 => ?_) (fun zc7 => ?_)
  · refine lv_iconst (v := nI 0) hx hb dX1_isWell_14 rfl ?_
    exact r_zret C zw1 dX1_isWell_15 (Or.inl rfl) ⟨rfl, (by first | (rw [if_pos (by omega)]; rfl) | (rw [if_neg (by omega)]; rfl))⟩
  · refine lv_iconst (v := nI 1) hx hb dX1_isWell_10 rfl ?_
    refine lv_goto (tgt := 15) hx hb dX1_isWell_11 (by decide) ?_
    exact r_zret C zw1 dX1_isWell_15 (Or.inr rfl) ⟨rfl, (by first | (rw [if_pos (by omega)]; rfl) | (rw [if_neg (by omega)]; rfl))⟩

set_option maxHeartbeats 4000000 in
set_option maxRecDepth 100000 in
theorem c_X1_oddOctet {l : Launch} {G : vG} {tC : Nat} {ad : Nat → Nat} {N : Nat} {E : Nat → va_E} {n : Nat} (hn : n < 128) : MI l yX1_oddOctet wsX1_oddOctet ({ frames := 2, cells := 0, slots := 0, locals := 40 } : Room) G tC ad N E [.int (nI n)] (fun r E2 => E2 = E ∧ r = nI (if pc8 n % 2 = 1 then n else n + 128)) := by
  refine MI_of RX1 rfl (by decide) rfl (Nat.le_of_ble_eq_true rfl) ?_
  intro pp_ ee_ ss_ mm_ aa_ bb_ me_ cc_ A ls C hw hl
  have hx := C.1
  have hb := C.2.1
  have hown := C.2.2.2.2.1
  have hts := C.2.2.2.2.2.1
  have hl : lv_has ls 1 [(0, .int (nI n))] := hl
  refine lv_iload_n hx hb dX1_oddOctet_0 rfl (lv_at hl 0 rfl) ?_
  refine r_sI C hw hl.1 [.int (nI n)] 1 rfl (c_X1_isWell (l := l) (G := G) (tC := tC) (ad := ad) (N := N) (E := E) (n := n)   (by first | assumption | omega)) gX1_oddOctet_X1_isWell rfl ⟨rfl, rfl⟩ (by decide +kernel) ⟨Nat.le_of_ble_eq_true rfl, Nat.le_of_ble_eq_true rfl⟩ (rest := []) rfl (Nat.le_of_ble_eq_true rfl) dX1_oddOctet_1 ⟨Nat.zero_le _, Nat.zero_le _⟩ (fun zr1 zE1 zH1 zL1 zp1 zw1 => ?_)
  obtain ⟨ze1, zq1⟩ := zp1
  rw [ze1] at zw1
  clear ze1
  refine lv_if_eq (tgt := 11) hx hb dX1_oddOctet_4 (by decide) (fun zc4 => ?_) (fun zc4 => ?_)
  · refine lv_iload_n hx hb dX1_oddOctet_11 rfl (lv_at hl 0 rfl) ?_
    refine lv_sipush (v := nI 128) hx hb dX1_oddOctet_12 rfl ?_
    refine lv_ior hx hb dX1_oddOctet_15 ?_
    refine r_nat (n + 128) (or128 n hn) ?_
    exact r_iret C zw1 dX1_oddOctet_16 ⟨rfl, (by first | rw [if_pos (by apply Classical.byContradiction; intro q; rw [if_neg q] at zq1; exact zc4 zq1)] | rw [if_neg (by intro q; rw [if_pos q] at zq1; rw [zq1] at zc4; exact absurd zc4 (by decide))])⟩
  · refine lv_iload_n hx hb dX1_oddOctet_7 rfl (lv_at hl 0 rfl) ?_
    refine lv_goto (tgt := 16) hx hb dX1_oddOctet_8 (by decide) ?_
    exact r_iret C zw1 dX1_oddOctet_16 ⟨rfl, (by first | rw [if_pos (by apply Classical.byContradiction; intro q; rw [if_neg q] at zq1; exact zc4 zq1)] | rw [if_neg (by intro q; rw [if_pos q] at zq1; rw [zq1] at zc4; exact absurd zc4 (by decide))])⟩

set_option maxHeartbeats 4000000 in
set_option maxRecDepth 100000 in
theorem c_X5_get {l : Launch} {G : vG} {tC : Nat} {ad : Nat → Nat} {N : Nat} {E : Nat → va_E} {i pg cm hd : Nat} {lst md sd : Int32} {cs : Nat → Int32} {k cl : Nat} (hN0 : i + 3 ≤ N) (hE0 : E i = .inr (2, [.ref (ad (i + 1)), .ref (ad (i + 2)), .int (nI pg), .int (nI cm), .int lst, .int md, .int sd, .int (nI hd)])) (hE1 : E (i + 1) = eI G 500 cs) (hk : k * 50 + cl < 500) : MI l yX5_get wsX5_get ({ frames := 0, cells := 0, slots := 0, locals := 0 } : Room) G tC ad N E [.ref (ad i), .int (nI k), .int (nI cl)] (fun r E2 => E2 = E ∧ r = cs (k * 50 + cl)) := by
  refine MI_of RX5 rfl (by decide) rfl (Nat.le_of_ble_eq_true rfl) ?_
  intro pp_ ee_ ss_ mm_ aa_ bb_ me_ cc_ A ls C hw hl
  have hx := C.1
  have hb := C.2.1
  have hown := C.2.2.2.2.1
  have hts := C.2.2.2.2.2.1
  have hl : lv_has ls 4 [(0, .ref (ad i)), (1, .int (nI k)), (2, .int (nI cl))] := hl
  have hinX5 : ∀ w ∈ u_ws RX5 TX5 8, w ∈ wsX5_get := by decide +kernel
  refine lv_iload_n hx hb dX5_get_0 rfl (lv_at hl 1 rfl) ?_
  refine lv_bipush (v := nI 50) hx hb dX5_get_1 rfl ?_
  refine lv_imul hx hb dX5_get_3 ?_
  refine r_nat (k * 50) (pk_mul _ _) ?_
  refine lv_iload_n hx hb dX5_get_4 rfl (lv_at hl 2 rfl) ?_
  refine lv_iadd hx hb dX5_get_5 ?_
  refine r_nat (k * 50 + cl) (nI_add _ _) ?_
  refine lv_istore_n (lv' := [(3, .int (nI (k * 50 + cl))), (0, .ref (ad i)), (1, .int (nI k)), (2, .int (nI cl))]) hx hb dX5_get_6 rfl hl (by decide) rfl (fun ls hl => ?_)
  refine lv_iload_n hx hb dX5_get_7 rfl (lv_at hl 0 rfl) ?_
  refine n_if_lt (tgt := 20) hx hb dX5_get_8 (by decide) (by omega) (fun zc8 => ?_) (fun zc8 => ?_)
  · exact zc8.elim
  · refine lv_iload_n hx hb dX5_get_11 rfl (lv_at hl 0 rfl) ?_
    refine lv_aload_n hx hb dX5_get_12 rfl (lv_at hl 1 rfl) ?_
    refine r_get C hw RX5 TX5 8 2 hinX5 (i := i) (by omega) hE0 rfl 0 (by decide) (by decide +kernel) rfl (v := .ref (ad (i + 1))) rfl dX5_get_13 ?_
    refine r_alenI C hw (i := (i + 1)) (by omega) hE1 dX5_get_16 ?_
    refine n_icmp_lt (tgt := 24) hx hb dX5_get_17 (by decide) (by omega) (by omega) (fun zc17 => ?_) (fun zc17 => ?_)
    · refine lv_aload_n hx hb dX5_get_24 rfl (lv_at hl 1 rfl) ?_
      refine r_get C hw RX5 TX5 8 2 hinX5 (i := i) (by omega) hE0 rfl 0 (by decide) (by decide +kernel) rfl (v := .ref (ad (i + 1))) rfl dX5_get_25 ?_
      refine lv_iload_n hx hb dX5_get_28 rfl (lv_at hl 0 rfl) ?_
      refine r_iaN C hw (i := (i + 1)) (by omega) hE1 (j := k * 50 + cl) (by omega) (by omega) dX5_get_29 ?_
      exact r_iret C hw dX5_get_30 ⟨rfl, (by rfl)⟩
    · exact absurd zc17 (by omega)

set_option maxHeartbeats 4000000 in
set_option maxRecDepth 100000 in
theorem c_X5_set {l : Launch} {G : vG} {tC : Nat} {ad : Nat → Nat} {N : Nat} {E : Nat → va_E} {i pg cm hd : Nat} {lst md sd : Int32} {cs : Nat → Int32} {k cl : Nat} {v : Int32} (hN0 : i + 3 ≤ N) (hE0 : E i = .inr (2, [.ref (ad (i + 1)), .ref (ad (i + 2)), .int (nI pg), .int (nI cm), .int lst, .int md, .int sd, .int (nI hd)])) (hE1 : E (i + 1) = eI G 500 cs) (hk : k * 50 + cl < 500) : MV l yX5_set wsX5_set ({ frames := 0, cells := 0, slots := 0, locals := 0 } : Room) G tC ad N E [.ref (ad i), .int (nI k), .int (nI cl), .int v] (fun E2 => E2 (i + 1) = eI G 500 (upd cs (k * 50 + cl) v) ∧ (∀ j, j ≠ (i + 1) → E2 j = E j)) := by
  refine MV_of RX5 rfl (by decide) rfl (Nat.le_of_ble_eq_true rfl) ?_
  intro pp_ ee_ ss_ mm_ aa_ bb_ me_ cc_ A ls C hw hl
  have hx := C.1
  have hb := C.2.1
  have hown := C.2.2.2.2.1
  have hts := C.2.2.2.2.2.1
  have hl : lv_has ls 5 [(0, .ref (ad i)), (1, .int (nI k)), (2, .int (nI cl)), (3, .int v)] := hl
  have hinX5 : ∀ w ∈ u_ws RX5 TX5 8, w ∈ wsX5_set := by decide +kernel
  refine lv_iload_n hx hb dX5_set_0 rfl (lv_at hl 1 rfl) ?_
  refine lv_bipush (v := nI 50) hx hb dX5_set_1 rfl ?_
  refine lv_imul hx hb dX5_set_3 ?_
  refine r_nat (k * 50) (pk_mul _ _) ?_
  refine lv_iload_n hx hb dX5_set_4 rfl (lv_at hl 2 rfl) ?_
  refine lv_iadd hx hb dX5_set_5 ?_
  refine r_nat (k * 50 + cl) (nI_add _ _) ?_
  refine lv_istore (lv' := [(4, .int (nI (k * 50 + cl))), (0, .ref (ad i)), (1, .int (nI k)), (2, .int (nI cl)), (3, .int v)]) hx hb dX5_set_6 hl (by decide) rfl (fun ls hl => ?_)
  refine lv_iload hx hb dX5_set_8 (lv_at hl 0 rfl) ?_
  refine n_if_lt (tgt := 31) hx hb dX5_set_10 (by decide) (by omega) (fun zc10 => ?_) (fun zc10 => ?_)
  · exact zc10.elim
  · refine lv_iload hx hb dX5_set_13 (lv_at hl 0 rfl) ?_
    refine lv_aload_n hx hb dX5_set_15 rfl (lv_at hl 1 rfl) ?_
    refine r_get C hw RX5 TX5 8 2 hinX5 (i := i) (by omega) hE0 rfl 0 (by decide) (by decide +kernel) rfl (v := .ref (ad (i + 1))) rfl dX5_set_16 ?_
    refine r_alenI C hw (i := (i + 1)) (by omega) hE1 dX5_set_19 ?_
    refine n_icmp_ge (tgt := 31) hx hb dX5_set_20 (by decide) (by omega) (by omega) (fun zc20 => ?_) (fun zc20 => ?_)
    · exact absurd zc20 (by omega)
    · refine lv_aload_n hx hb dX5_set_23 rfl (lv_at hl 1 rfl) ?_
      refine r_get C hw RX5 TX5 8 2 hinX5 (i := i) (by omega) hE0 rfl 0 (by decide) (by decide +kernel) rfl (v := .ref (ad (i + 1))) rfl dX5_set_24 ?_
      refine lv_iload hx hb dX5_set_27 (lv_at hl 0 rfl) ?_
      refine lv_iload_n hx hb dX5_set_29 rfl (lv_at hl 4 rfl) ?_
      refine r_iasN C hw (i := (i + 1)) (by omega) hE1 (j := k * 50 + cl) (by omega) (by omega) dX5_set_30 (fun zE1 zH1 zL1 zg1 zf1 zw1 => ?_)
      have zh1_0 : zE1 (i + 1) = eI G 500 (upd cs (k * 50 + cl) v) := zg1
      have zk1_0 : zE1 i = .inr (2, [.ref (ad (i + 1)), .ref (ad (i + 2)), .int (nI pg), .int (nI cm), .int lst, .int md, .int sd, .int (nI hd)]) := (zf1 _ (by omega)).trans hE0
      have zfr1 : ∀ j, j ≠ (i + 1) → zE1 j = E j := fun j zm0 => zf1 j zm0
      exact r_vret C zw1 dX5_set_31 ⟨zh1_0, (fun j zm0 => zfr1 j zm0)⟩

set_option maxHeartbeats 4000000 in
set_option maxRecDepth 100000 in
theorem c_X5_has {l : Launch} {G : vG} {tC : Nat} {ad : Nat → Nat} {N : Nat} {E : Nat → va_E} {i pg cm hd : Nat} {lst md sd : Int32} {k : Int32} (hN0 : i + 3 ≤ N) (hE0 : E i = .inr (2, [.ref (ad (i + 1)), .ref (ad (i + 2)), .int (nI pg), .int (nI cm), .int lst, .int md, .int sd, .int (nI hd)])) (hp : pg < 2147483648) : MI l yX5_has wsX5_has ({ frames := 1, cells := 0, slots := 0, locals := 22 } : Room) G tC ad N E [.ref (ad i), .int k] (fun r E2 => E2 = E ∧ r = if hasP pg k then 1 else 0) := by
  refine MI_of RX5 rfl (by decide) rfl (Nat.le_of_ble_eq_true rfl) ?_
  intro pp_ ee_ ss_ mm_ aa_ bb_ me_ cc_ A ls C hw hl
  have hx := C.1
  have hb := C.2.1
  have hown := C.2.2.2.2.1
  have hts := C.2.2.2.2.2.1
  have hl : lv_has ls 2 [(0, .ref (ad i)), (1, .int k)] := hl
  have hinX5 : ∀ w ∈ u_ws RX5 TX5 8, w ∈ wsX5_has := by decide +kernel
  refine lv_iload_n hx hb dX5_has_0 rfl (lv_at hl 1 rfl) ?_
  refine lv_iconst (v := nI 0) hx hb dX5_has_1 rfl ?_
  refine lv_aload_n hx hb dX5_has_2 rfl (lv_at hl 0 rfl) ?_
  refine r_get C hw RX5 TX5 8 2 hinX5 (i := i) (by omega) hE0 rfl 2 (by decide) (by decide +kernel) rfl (v := .int (nI pg)) rfl dX5_has_3 ?_
  refine lv_iconst (v := nI 1) hx hb dX5_has_6 rfl ?_
  refine lv_isub hx hb dX5_has_7 ?_
  refine r_nI C hw hl.1 [.int k, .int (nI 0), .int ((nI pg) - (nI 1))] 3 rfl (c_X7_isWithin (l := l) (G := G) (tC := tC) (ad := ad) (N := N) (E := E) (x := k) (a := nI 0) (b := (nI pg) - (nI 1))   ) C.2.2.2.2.2.2.1.2.2.2.2.1 gX5_has_X7_isWithin_n72 rfl ⟨rfl, rfl⟩ (by decide +kernel) (by decide +kernel) (by decide +kernel) ⟨Nat.le_of_ble_eq_true rfl, Nat.le_of_ble_eq_true rfl⟩ (rest := []) rfl (Nat.le_of_ble_eq_true rfl) dX5_has_8 ⟨Nat.zero_le _, Nat.zero_le _⟩ (fun zr1 zE1 zH1 zL1 zp1 zw1 => ?_)
  obtain ⟨ze1, zq1⟩ := zp1
  rw [ze1] at zw1
  clear ze1
  rw [zq1]
  exact r_zret C zw1 dX5_has_11 (by split <;> simp) ⟨rfl, (by simp only [has_iff hp])⟩

set_option maxHeartbeats 4000000 in
set_option maxRecDepth 100000 in
theorem c_X5_linkAt {l : Launch} {G : vG} {tC : Nat} {ad : Nat → Nat} {N : Nat} {E : Nat → va_E} {i pg cm hd : Nat} {lst md sd : Int32} {cs : Nat → Int32} {k j : Nat} (hN0 : i + 3 ≤ N) (hE0 : E i = .inr (2, [.ref (ad (i + 1)), .ref (ad (i + 2)), .int (nI pg), .int (nI cm), .int lst, .int md, .int sd, .int (nI hd)])) (hE1 : E (i + 1) = eI G 500 cs) (hk : k * 50 + (6 + j) < 500) : MI l yX5_linkAt wsX5_linkAt ({ frames := 1, cells := 0, slots := 0, locals := 23 } : Room) G tC ad N E [.ref (ad i), .int (nI k), .int (nI j)] (fun r E2 => E2 = E ∧ r = cs (k * 50 + (6 + j))) := by
  refine MI_of RX5 rfl (by decide) rfl (Nat.le_of_ble_eq_true rfl) ?_
  intro pp_ ee_ ss_ mm_ aa_ bb_ me_ cc_ A ls C hw hl
  have hx := C.1
  have hb := C.2.1
  have hown := C.2.2.2.2.1
  have hts := C.2.2.2.2.2.1
  have hl : lv_has ls 3 [(0, .ref (ad i)), (1, .int (nI k)), (2, .int (nI j))] := hl
  refine lv_aload_n hx hb dX5_linkAt_0 rfl (lv_at hl 0 rfl) ?_
  refine lv_iload_n hx hb dX5_linkAt_1 rfl (lv_at hl 1 rfl) ?_
  refine lv_bipush (v := nI 6) hx hb dX5_linkAt_2 rfl ?_
  refine lv_iload_n hx hb dX5_linkAt_4 rfl (lv_at hl 2 rfl) ?_
  refine lv_iadd hx hb dX5_linkAt_5 ?_
  refine r_nat (6 + j) (nI_add _ _) ?_
  refine r_vI C hw hl.1 (i := i) (by omega) hE0 (T := TX5) (n := 8) rfl [.int (nI k), .int (nI (6 + j))] 2 rfl (c_X5_get (l := l) (G := G) (tC := tC) (ad := ad) (N := N) (E := E) (i := i) (pg := pg) (cm := cm) (hd := hd) (lst := lst) (md := md) (sd := sd) (cs := cs) (k := k) (cl := 6 + j) (by omega) hE0 hE1 (by first | assumption | omega)) gX5_linkAt_X5_get rfl ⟨rfl, rfl⟩ (by decide +kernel) ⟨Nat.le_of_ble_eq_true rfl, Nat.le_of_ble_eq_true rfl⟩ (rest := []) rfl (Nat.le_of_ble_eq_true rfl) dX5_linkAt_6 ⟨Nat.zero_le _, Nat.zero_le _⟩ (fun zr1 zE1 zH1 zL1 zp1 zw1 => ?_)
  obtain ⟨ze1, zq1⟩ := zp1
  rw [ze1] at zw1
  clear ze1
  rw [zq1]
  exact r_iret C zw1 dX5_linkAt_9 ⟨rfl, (by rfl)⟩

set_option maxHeartbeats 4000000 in
set_option maxRecDepth 100000 in
theorem c_X5_putLink {l : Launch} {G : vG} {tC : Nat} {ad : Nat → Nat} {N : Nat} {E : Nat → va_E} {i pg cm hd : Nat} {lst md sd : Int32} {cs : Nat → Int32} {k j : Nat} {v : Int32} (hN0 : i + 3 ≤ N) (hE0 : E i = .inr (2, [.ref (ad (i + 1)), .ref (ad (i + 2)), .int (nI pg), .int (nI cm), .int lst, .int md, .int sd, .int (nI hd)])) (hE1 : E (i + 1) = eI G 500 cs) (hk : k * 50 + (6 + j) < 500) : MV l yX5_putLink wsX5_putLink ({ frames := 1, cells := 0, slots := 0, locals := 24 } : Room) G tC ad N E [.ref (ad i), .int (nI k), .int (nI j), .int v] (fun E2 => E2 (i + 1) = eI G 500 (upd cs (k * 50 + (6 + j)) v) ∧ (∀ j, j ≠ (i + 1) → E2 j = E j)) := by
  refine MV_of RX5 rfl (by decide) rfl (Nat.le_of_ble_eq_true rfl) ?_
  intro pp_ ee_ ss_ mm_ aa_ bb_ me_ cc_ A ls C hw hl
  have hx := C.1
  have hb := C.2.1
  have hown := C.2.2.2.2.1
  have hts := C.2.2.2.2.2.1
  have hl : lv_has ls 4 [(0, .ref (ad i)), (1, .int (nI k)), (2, .int (nI j)), (3, .int v)] := hl
  refine lv_aload_n hx hb dX5_putLink_0 rfl (lv_at hl 0 rfl) ?_
  refine lv_iload_n hx hb dX5_putLink_1 rfl (lv_at hl 1 rfl) ?_
  refine lv_bipush (v := nI 6) hx hb dX5_putLink_2 rfl ?_
  refine lv_iload_n hx hb dX5_putLink_4 rfl (lv_at hl 2 rfl) ?_
  refine lv_iadd hx hb dX5_putLink_5 ?_
  refine r_nat (6 + j) (nI_add _ _) ?_
  refine lv_iload_n hx hb dX5_putLink_6 rfl (lv_at hl 3 rfl) ?_
  refine r_vV C hw hl.1 (i := i) (by omega) hE0 (T := TX5) (n := 8) rfl [.int (nI k), .int (nI (6 + j)), .int v] 3 rfl (c_X5_set (l := l) (G := G) (tC := tC) (ad := ad) (N := N) (E := E) (i := i) (pg := pg) (cm := cm) (hd := hd) (lst := lst) (md := md) (sd := sd) (cs := cs) (k := k) (cl := 6 + j) (v := v) (by omega) hE0 hE1 (by first | assumption | omega)) gX5_putLink_X5_set rfl ⟨rfl, rfl⟩ (by decide +kernel) ⟨Nat.le_of_ble_eq_true rfl, Nat.le_of_ble_eq_true rfl⟩ (rest := []) rfl (Nat.le_of_ble_eq_true rfl) dX5_putLink_7 ⟨Nat.zero_le _, Nat.zero_le _⟩ (fun zE1 zH1 zL1 zp1 zw1 => ?_)
  obtain ⟨zg1_0, zf1⟩ := zp1
  have zh1_0 : zE1 (i + 1) = eI G 500 (upd cs (k * 50 + (6 + j)) v) := zg1_0
  have zk1_0 : zE1 i = .inr (2, [.ref (ad (i + 1)), .ref (ad (i + 2)), .int (nI pg), .int (nI cm), .int lst, .int md, .int sd, .int (nI hd)]) := (zf1 _ (by omega)).trans hE0
  have zfr1 : ∀ j, j ≠ (i + 1) → zE1 j = E j := fun j zm0 => zf1 j zm0
  exact r_vret C zw1 dX5_putLink_10 ⟨zh1_0, (fun j zm0 => zfr1 j zm0)⟩

set_option maxHeartbeats 4000000 in
set_option maxRecDepth 100000 in
theorem c_X5_letterAt {l : Launch} {G : vG} {tC : Nat} {ad : Nat → Nat} {N : Nat} {E : Nat → va_E} {i pg cm hd : Nat} {lst md sd : Int32} {cs : Nat → Int32} {k row j : Nat} (hN0 : i + 3 ≤ N) (hE0 : E i = .inr (2, [.ref (ad (i + 1)), .ref (ad (i + 2)), .int (nI pg), .int (nI cm), .int lst, .int md, .int sd, .int (nI hd)])) (hE1 : E (i + 1) = eI G 500 cs) (hk : k * 50 + (10 + row * 8 + j) < 500) : MI l yX5_letterAt wsX5_letterAt ({ frames := 1, cells := 0, slots := 0, locals := 23 } : Room) G tC ad N E [.ref (ad i), .int (nI k), .int (nI row), .int (nI j)] (fun r E2 => E2 = E ∧ r = cs (k * 50 + (10 + row * 8 + j))) := by
  refine MI_of RX5 rfl (by decide) rfl (Nat.le_of_ble_eq_true rfl) ?_
  intro pp_ ee_ ss_ mm_ aa_ bb_ me_ cc_ A ls C hw hl
  have hx := C.1
  have hb := C.2.1
  have hown := C.2.2.2.2.1
  have hts := C.2.2.2.2.2.1
  have hl : lv_has ls 4 [(0, .ref (ad i)), (1, .int (nI k)), (2, .int (nI row)), (3, .int (nI j))] := hl
  refine lv_aload_n hx hb dX5_letterAt_0 rfl (lv_at hl 0 rfl) ?_
  refine lv_iload_n hx hb dX5_letterAt_1 rfl (lv_at hl 1 rfl) ?_
  refine lv_bipush (v := nI 10) hx hb dX5_letterAt_2 rfl ?_
  refine lv_iload_n hx hb dX5_letterAt_4 rfl (lv_at hl 2 rfl) ?_
  refine lv_bipush (v := nI 8) hx hb dX5_letterAt_5 rfl ?_
  refine lv_imul hx hb dX5_letterAt_7 ?_
  refine r_nat (row * 8) (pk_mul _ _) ?_
  refine lv_iadd hx hb dX5_letterAt_8 ?_
  refine r_nat (10 + row * 8) (nI_add _ _) ?_
  refine lv_iload_n hx hb dX5_letterAt_9 rfl (lv_at hl 3 rfl) ?_
  refine lv_iadd hx hb dX5_letterAt_10 ?_
  refine r_nat (10 + row * 8 + j) (nI_add _ _) ?_
  refine r_vI C hw hl.1 (i := i) (by omega) hE0 (T := TX5) (n := 8) rfl [.int (nI k), .int (nI (10 + row * 8 + j))] 2 rfl (c_X5_get (l := l) (G := G) (tC := tC) (ad := ad) (N := N) (E := E) (i := i) (pg := pg) (cm := cm) (hd := hd) (lst := lst) (md := md) (sd := sd) (cs := cs) (k := k) (cl := 10 + row * 8 + j) (by omega) hE0 hE1 (by first | assumption | omega)) gX5_letterAt_X5_get rfl ⟨rfl, rfl⟩ (by decide +kernel) ⟨Nat.le_of_ble_eq_true rfl, Nat.le_of_ble_eq_true rfl⟩ (rest := []) rfl (Nat.le_of_ble_eq_true rfl) dX5_letterAt_11 ⟨Nat.zero_le _, Nat.zero_le _⟩ (fun zr1 zE1 zH1 zL1 zp1 zw1 => ?_)
  obtain ⟨ze1, zq1⟩ := zp1
  rw [ze1] at zw1
  clear ze1
  rw [zq1]
  exact r_iret C zw1 dX5_letterAt_14 ⟨rfl, (by rfl)⟩

set_option maxHeartbeats 4000000 in
set_option maxRecDepth 100000 in
theorem c_X5_isSure {l : Launch} {G : vG} {tC : Nat} {ad : Nat → Nat} {N : Nat} {E : Nat → va_E} {x : Int32}  : MI l yX5_isSure wsX5_isSure ({ frames := 1, cells := 0, slots := 0, locals := 22 } : Room) G tC ad N E [.int x] (fun r E2 => E2 = E ∧ r = if nI 0 ≤ x ∧ x ≤ nI 127 then 1 else 0) := by
  refine MI_of RX5 rfl (by decide) rfl (Nat.le_of_ble_eq_true rfl) ?_
  intro pp_ ee_ ss_ mm_ aa_ bb_ me_ cc_ A ls C hw hl
  have hx := C.1
  have hb := C.2.1
  have hown := C.2.2.2.2.1
  have hts := C.2.2.2.2.2.1
  have hl : lv_has ls 1 [(0, .int x)] := hl
  refine lv_iload_n hx hb dX5_isSure_0 rfl (lv_at hl 0 rfl) ?_
  refine lv_iconst (v := nI 0) hx hb dX5_isSure_1 rfl ?_
  refine lv_bipush (v := nI 127) hx hb dX5_isSure_2 rfl ?_
  refine r_nI C hw hl.1 [.int x, .int (nI 0), .int (nI 127)] 3 rfl (c_X7_isWithin (l := l) (G := G) (tC := tC) (ad := ad) (N := N) (E := E) (x := x) (a := nI 0) (b := nI 127)   ) C.2.2.2.2.2.2.1.2.2.2.2.1 gX5_isSure_X7_isWithin_n72 rfl ⟨rfl, rfl⟩ (by decide +kernel) (by decide +kernel) (by decide +kernel) ⟨Nat.le_of_ble_eq_true rfl, Nat.le_of_ble_eq_true rfl⟩ (rest := []) rfl (Nat.le_of_ble_eq_true rfl) dX5_isSure_4 ⟨Nat.zero_le _, Nat.zero_le _⟩ (fun zr1 zE1 zH1 zL1 zp1 zw1 => ?_)
  obtain ⟨ze1, zq1⟩ := zp1
  rw [ze1] at zw1
  clear ze1
  rw [zq1]
  exact r_zret C zw1 dX5_isSure_7 (by split <;> simp) ⟨rfl, (by rfl)⟩

set_option maxHeartbeats 4000000 in
set_option maxRecDepth 100000 in
theorem c_X5_clear {l : Launch} {G : vG} {tC : Nat} {ad : Nat → Nat} {N : Nat} {E : Nat → va_E} {i pg cm hd : Nat} {lst md sd : Int32} {cs : Nat → Int32} {k : Nat} (hN0 : i + 3 ≤ N) (hE0 : E i = .inr (2, [.ref (ad (i + 1)), .ref (ad (i + 2)), .int (nI pg), .int (nI cm), .int lst, .int md, .int sd, .int (nI hd)])) (hE1 : E (i + 1) = eI G 500 cs) (hk : k < 10) : MV l yX5_clear wsX5_clear ({ frames := 2, cells := 0, slots := 0, locals := 46 } : Room) G tC ad N E [.ref (ad i), .int (nI k)] (fun E2 => E2 (i + 1) = eI G 500 (fillF cs (k * 50 + 6) ((k + 1) * 50) (-1)) ∧ (∀ j, j ≠ (i + 1) → E2 j = E j)) := by
  refine MV_of RX5 rfl (by decide) rfl (Nat.le_of_ble_eq_true rfl) ?_
  intro pp_ ee_ ss_ mm_ aa_ bb_ me_ cc_ A ls C hw hl
  have hx := C.1
  have hb := C.2.1
  have hown := C.2.2.2.2.1
  have hts := C.2.2.2.2.2.1
  have hl : lv_has ls 2 [(0, .ref (ad i)), (1, .int (nI k))] := hl
  have hinX5 : ∀ w ∈ u_ws RX5 TX5 8, w ∈ wsX5_clear := by decide +kernel
  refine lv_iload_n hx hb dX5_clear_0 rfl (lv_at hl 1 rfl) ?_
  refine n_if_lt (tgt := 31) hx hb dX5_clear_1 (by decide) (by omega) (fun zc1 => ?_) (fun zc1 => ?_)
  · exact zc1.elim
  · refine lv_iload_n hx hb dX5_clear_4 rfl (lv_at hl 1 rfl) ?_
    refine lv_bipush (v := nI 10) hx hb dX5_clear_5 rfl ?_
    refine n_icmp_ge (tgt := 31) hx hb dX5_clear_7 (by decide) (by omega) (by omega) (fun zc7 => ?_) (fun zc7 => ?_)
    · exact absurd zc7 (by omega)
    · refine lv_aload_n hx hb dX5_clear_10 rfl (lv_at hl 0 rfl) ?_
      refine r_get C hw RX5 TX5 8 2 hinX5 (i := i) (by omega) hE0 rfl 0 (by decide) (by decide +kernel) rfl (v := .ref (ad (i + 1))) rfl dX5_clear_11 ?_
      refine lv_iload_n hx hb dX5_clear_14 rfl (lv_at hl 1 rfl) ?_
      refine lv_bipush (v := nI 50) hx hb dX5_clear_15 rfl ?_
      refine lv_imul hx hb dX5_clear_17 ?_
      refine r_nat (k * 50) (pk_mul _ _) ?_
      refine lv_bipush (v := nI 6) hx hb dX5_clear_18 rfl ?_
      refine lv_iadd hx hb dX5_clear_20 ?_
      refine r_nat (k * 50 + 6) (nI_add _ _) ?_
      refine lv_iload_n hx hb dX5_clear_21 rfl (lv_at hl 1 rfl) ?_
      refine lv_iconst (v := nI 1) hx hb dX5_clear_22 rfl ?_
      refine lv_iadd hx hb dX5_clear_23 ?_
      refine r_nat (k + 1) (nI_add _ _) ?_
      refine lv_bipush (v := nI 50) hx hb dX5_clear_24 rfl ?_
      refine lv_imul hx hb dX5_clear_26 ?_
      refine r_nat ((k + 1) * 50) (pk_mul _ _) ?_
      refine lv_iconst (v := -1) hx hb dX5_clear_27 (by decide) ?_
      refine r_sV C hw hl.1 [.ref (ad (i + 1)), .int (nI (k * 50 + 6)), .int (nI ((k + 1) * 50)), .int (-1)] 4 rfl (c_J7_fill_fda19 (l := l) (G := G) (tC := tC) (ad := ad) (N := N) (E := E) (q := (i + 1)) (n := 500) (a := k * 50 + 6) (b := (k + 1) * 50) (f := cs) (v := -1) (by omega) hE1 (by first | assumption | omega) (by first | assumption | omega) (by first | assumption | omega)) gX5_clear_J7_fill_fda19 rfl ⟨rfl, rfl⟩ (by decide +kernel) ⟨Nat.le_of_ble_eq_true rfl, Nat.le_of_ble_eq_true rfl⟩ (rest := []) rfl (Nat.le_of_ble_eq_true rfl) dX5_clear_28 ⟨Nat.zero_le _, Nat.zero_le _⟩ (fun zE1 zH1 zL1 zp1 zw1 => ?_)
      obtain ⟨zg1_0, zf1⟩ := zp1
      have zh1_0 : zE1 (i + 1) = eI G 500 (fillF cs (k * 50 + 6) ((k + 1) * 50) (-1)) := zg1_0
      have zk1_0 : zE1 i = .inr (2, [.ref (ad (i + 1)), .ref (ad (i + 2)), .int (nI pg), .int (nI cm), .int lst, .int md, .int sd, .int (nI hd)]) := (zf1 _ (by omega)).trans hE0
      have zfr1 : ∀ j, j ≠ (i + 1) → zE1 j = E j := fun j zm0 => zf1 j zm0
      exact r_vret C zw1 dX5_clear_31 ⟨zh1_0, (fun j zm0 => zfr1 j zm0)⟩

