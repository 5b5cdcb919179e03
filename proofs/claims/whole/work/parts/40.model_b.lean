set_option maxHeartbeats 4000000 in
set_option maxRecDepth 100000 in
theorem c_X8_in {l : Launch} {G : vG} {tC : Nat} {ad : Nat → Nat} {N : Nat} {E : Nat → va_E} {x a b : Int32}  : MI l yX8_in wsX8_in ({ frames := 0, cells := 0, slots := 0, locals := 0 } : Room) G tC ad N E [.long x.toInt64, .long a.toInt64, .long b.toInt64] (fun r E2 => E2 = E ∧ r = if a ≤ x ∧ x ≤ b then 1 else 0) := by
  refine MI_of RX8 rfl (by decide) rfl (Nat.le_of_ble_eq_true rfl) ?_
  intro pp_ ee_ ss_ mm_ aa_ bb_ me_ cc_ A ls C hw hl
  have hx := C.1
  have hb := C.2.1
  have hown := C.2.2.2.2.1
  have hts := C.2.2.2.2.2.1
  have hl : lv_has ls 6 [(0, .long x.toInt64), (2, .long a.toInt64), (4, .long b.toInt64)] := hl
  refine lv_lload_n hx hb dX8_in_0 rfl (lv_at hl 0 rfl) ?_
  refine lv_lload_n hx hb dX8_in_1 rfl (lv_at hl 1 rfl) ?_
  refine W.lcmp hx hb dX8_in_2 ?_
  refine lv_if_lt (tgt := 17) hx hb dX8_in_3 (by decide) (fun zc3 => ?_) (fun zc3 => ?_)
  · refine lv_iconst (v := nI 0) hx hb dX8_in_17 rfl ?_
    exact r_zret C hw dX8_in_18 (Or.inl rfl) ⟨rfl, (by first | (rw [if_pos ⟨by rw [lg_cmp_lt, toI64_lt] at zc3; exact Int32.not_lt.mp zc3, by rw [lg_cmp_gt, toI64_lt] at zc10; exact Int32.not_lt.mp zc10⟩]; rfl) | (rw [if_neg (fun zq => by rw [lg_cmp_lt, toI64_lt] at zc3; exact Int32.not_lt.mpr zq.1 zc3)]; rfl) | (rw [if_neg (fun zq => by rw [lg_cmp_gt, toI64_lt] at zc10; exact Int32.not_lt.mpr zq.2 zc10)]; rfl))⟩
  · refine lv_lload_n hx hb dX8_in_6 rfl (lv_at hl 0 rfl) ?_
    refine lv_lload hx hb dX8_in_7 (lv_at hl 2 rfl) ?_
    refine W.lcmp hx hb dX8_in_9 ?_
    refine lv_if_gt (tgt := 17) hx hb dX8_in_10 (by decide) (fun zc10 => ?_) (fun zc10 => ?_)
    · refine lv_iconst (v := nI 0) hx hb dX8_in_17 rfl ?_
      exact r_zret C hw dX8_in_18 (Or.inl rfl) ⟨rfl, (by first | (rw [if_pos ⟨by rw [lg_cmp_lt, toI64_lt] at zc3; exact Int32.not_lt.mp zc3, by rw [lg_cmp_gt, toI64_lt] at zc10; exact Int32.not_lt.mp zc10⟩]; rfl) | (rw [if_neg (fun zq => by rw [lg_cmp_lt, toI64_lt] at zc3; exact Int32.not_lt.mpr zq.1 zc3)]; rfl) | (rw [if_neg (fun zq => by rw [lg_cmp_gt, toI64_lt] at zc10; exact Int32.not_lt.mpr zq.2 zc10)]; rfl))⟩
    · refine lv_iconst (v := nI 1) hx hb dX8_in_13 rfl ?_
      refine lv_goto (tgt := 18) hx hb dX8_in_14 (by decide) ?_
      exact r_zret C hw dX8_in_18 (Or.inr rfl) ⟨rfl, (by first | (rw [if_pos ⟨by rw [lg_cmp_lt, toI64_lt] at zc3; exact Int32.not_lt.mp zc3, by rw [lg_cmp_gt, toI64_lt] at zc10; exact Int32.not_lt.mp zc10⟩]; rfl) | (rw [if_neg (fun zq => by rw [lg_cmp_lt, toI64_lt] at zc3; exact Int32.not_lt.mpr zq.1 zc3)]; rfl) | (rw [if_neg (fun zq => by rw [lg_cmp_gt, toI64_lt] at zc10; exact Int32.not_lt.mpr zq.2 zc10)]; rfl))⟩

set_option maxHeartbeats 4000000 in
set_option maxRecDepth 100000 in
theorem c_X8_at {l : Launch} {G : vG} {tC : Nat} {ad : Nat → Nat} {N : Nat} {E : Nat → va_E} {k : Nat}  : MI l yX8_at wsX8_at ({ frames := 0, cells := 0, slots := 0, locals := 0 } : Room) G tC ad N E [.int (nI k)] (fun r E2 => E2 = E ∧ r = nI (8 + 50 * k)) := by
  refine MI_of RX8 rfl (by decide) rfl (Nat.le_of_ble_eq_true rfl) ?_
  intro pp_ ee_ ss_ mm_ aa_ bb_ me_ cc_ A ls C hw hl
  have hx := C.1
  have hb := C.2.1
  have hown := C.2.2.2.2.1
  have hts := C.2.2.2.2.2.1
  have hl : lv_has ls 1 [(0, .int (nI k))] := hl
  refine lv_bipush (v := nI 8) hx hb dX8_at_0 rfl ?_
  refine lv_bipush (v := nI 50) hx hb dX8_at_2 rfl ?_
  refine lv_iload_n hx hb dX8_at_4 rfl (lv_at hl 0 rfl) ?_
  refine lv_imul hx hb dX8_at_5 ?_
  refine r_nat (50 * k) (pk_mul _ _) ?_
  refine lv_iadd hx hb dX8_at_6 ?_
  refine r_nat (8 + 50 * k) (nI_add _ _) ?_
  exact r_iret C hw dX8_at_7 ⟨rfl, (by rfl)⟩

set_option maxHeartbeats 4000000 in
set_option maxRecDepth 100000 in
theorem c_X8_of {l : Launch} {G : vG} {tC : Nat} {ad : Nat → Nat} {N : Nat} {E : Nat → va_E} {q co pm em : Nat} {th : Int32} {se : Int64} {s : Nat → Int32} {k w : Nat} (hN0 : q + 13 ≤ N) (hE0 : E q = .inr (5, [.int th, .ref (ad (q + 1)), .long se, .ref (ad (q + 2)), .ref (ad (q + 3)), .int (nI co), .ref (ad (q + 4)), .int (nI pm), .ref (ad (q + 5)), .ref (ad (q + 6)), .ref (ad (q + 7)), .ref (ad (q + 8)), .int (nI em), .ref (ad (q + 9)), .ref (ad (q + 10)), .ref (ad (q + 11)), .ref (ad (q + 12))])) (hE1 : E (q + 1) = eI G 508 s) (hk : 8 + 50 * k + w < 508) : MI l yX8_of wsX8_of ({ frames := 1, cells := 0, slots := 0, locals := 20 } : Room) G tC ad N E [.ref (ad q), .int (nI k), .int (nI w)] (fun r E2 => E2 = E ∧ r = s (8 + 50 * k + w)) := by
  refine MI_of RX8 rfl (by decide) rfl (Nat.le_of_ble_eq_true rfl) ?_
  intro pp_ ee_ ss_ mm_ aa_ bb_ me_ cc_ A ls C hw hl
  have hx := C.1
  have hb := C.2.1
  have hown := C.2.2.2.2.1
  have hts := C.2.2.2.2.2.1
  have hl : lv_has ls 3 [(0, .ref (ad q)), (1, .int (nI k)), (2, .int (nI w))] := hl
  have hinX8 : ∀ w ∈ u_ws RX8 TX8 17, w ∈ wsX8_of := by decide +kernel
  refine lv_aload_n hx hb dX8_of_0 rfl (lv_at hl 0 rfl) ?_
  refine r_get C hw RX8 TX8 17 5 hinX8 (i := q) (by omega) hE0 rfl 1 (by decide) (by decide +kernel) rfl (v := .ref (ad (q + 1))) rfl dX8_of_1 ?_
  refine lv_iload_n hx hb dX8_of_4 rfl (lv_at hl 1 rfl) ?_
  refine r_sI C hw hl.1 [.int (nI k)] 1 rfl (c_X8_at (l := l) (G := G) (tC := tC) (ad := ad) (N := N) (E := E) (k := k)   ) gX8_of_X8_at rfl ⟨rfl, rfl⟩ (by decide +kernel) ⟨Nat.le_of_ble_eq_true rfl, Nat.le_of_ble_eq_true rfl⟩ (rest := [.ref (ad (q + 1))]) rfl (Nat.le_of_ble_eq_true rfl) dX8_of_5 ⟨Nat.zero_le _, Nat.zero_le _⟩ (fun zr1 zE1 zH1 zL1 zp1 zw1 => ?_)
  obtain ⟨ze1, zq1⟩ := zp1
  rw [ze1] at zw1
  clear ze1
  rw [zq1]
  refine lv_iload_n hx hb dX8_of_8 rfl (lv_at hl 2 rfl) ?_
  refine lv_iadd hx hb dX8_of_9 ?_
  refine r_nat (8 + 50 * k + w) (nI_add _ _) ?_
  refine r_iaN C zw1 (i := (q + 1)) (by omega) hE1 (j := 8 + 50 * k + w) (by omega) (by omega) dX8_of_10 ?_
  exact r_iret C zw1 dX8_of_11 ⟨rfl, (by rfl)⟩

set_option maxHeartbeats 4000000 in
set_option maxRecDepth 100000 in
theorem c_X8_ones {l : Launch} {G : vG} {tC : Nat} {ad : Nat → Nat} {N : Nat} {E : Nat → va_E} {v : Nat} (hv : v < 256) : MI l yX8_ones wsX8_ones ({ frames := 0, cells := 0, slots := 0, locals := 0 } : Room) G tC ad N E [.int (nI v)] (fun r E2 => E2 = E ∧ r = nI (pc8 v)) := by
  refine MI_of RX8 rfl (by decide) rfl (Nat.le_of_ble_eq_true rfl) ?_
  intro pp_ ee_ ss_ mm_ aa_ bb_ me_ cc_ A ls C hw hl
  have hx := C.1
  have hb := C.2.1
  have hown := C.2.2.2.2.1
  have hts := C.2.2.2.2.2.1
  have hl : lv_has ls 3 [(0, .int (nI v))] := hl
  refine lv_iconst (v := nI 0) hx hb dX8_ones_0 rfl ?_
  refine lv_istore_n (lv' := [(1, .int (nI 0)), (0, .int (nI v))]) hx hb dX8_ones_1 rfl hl (by decide) rfl (fun ls hl => ?_)
  refine lv_iconst (v := nI 0) hx hb dX8_ones_2 rfl ?_
  refine lv_istore_n (lv' := [(2, .int (nI 0)), (1, .int (nI 0)), (0, .int (nI v))]) hx hb dX8_ones_3 rfl hl (by decide) rfl (fun ls hl => ?_)
  have zlp4 : ∀ (zn : Nat) (k : Nat), 8 - k < zn → (k ≤ 8) → ∀ (H9 : Heap) (L9 : List Loc), Wd G A ss_.heap H9 L9 ad E N → ∀ (ls : Array Slot), lv_has ls 3 [(0, .int (nI v)), (1, .int (nI (pcK v k))), (2, .int (nI k))] → W pp_ l ee_ ({ frames := 0, cells := 0, slots := 0, locals := 0 } : Room) ss_ mm_ aa_ bb_ me_ cc_ H9 L9 0 0 (QI bb_ aa_ ss_ G ad N A (fun r E2 => E2 = E ∧ r = nI (pc8 v))) (F0 mm_ 4 ls []) := by
    intro zn
    induction zn with
    | zero => intro k zhm; exact absurd zhm (Nat.not_lt_zero _)
    | succ zn zih4 =>
      intro k zhm4 hk zH_4 zL_4 zlw4 ls hl
      refine lv_iload_n hx hb dX8_ones_4 rfl (lv_at hl 2 rfl) ?_
      refine lv_bipush (v := nI 8) hx hb dX8_ones_5 rfl ?_
      refine n_icmp_ge (tgt := 24) hx hb dX8_ones_7 (by decide) (by omega) (by omega) (fun zc7 => ?_) (fun zc7 => ?_)
      · refine lv_iload_n hx hb dX8_ones_24 rfl (lv_at hl 1 rfl) ?_
        exact r_iret C zlw4 dX8_ones_25 ⟨rfl, (by rw [show k = 8 by omega, pcK_8])⟩
      · refine lv_iload_n hx hb dX8_ones_10 rfl (lv_at hl 1 rfl) ?_
        refine lv_iload_n hx hb dX8_ones_11 rfl (lv_at hl 0 rfl) ?_
        refine lv_iload_n hx hb dX8_ones_12 rfl (lv_at hl 2 rfl) ?_
        refine lv_ishr hx hb dX8_ones_13 ?_
        refine lv_iconst (v := nI 1) hx hb dX8_ones_14 rfl ?_
        refine lv_iand hx hb dX8_ones_15 ?_
        refine r_nat (v / 2 ^ k % 2) (bit_nI (by omega) (by omega)) ?_
        refine lv_iadd hx hb dX8_ones_16 ?_
        refine r_nat (pcK v k + (v / 2 ^ k % 2)) (nI_add _ _) ?_
        refine lv_istore_n (lv' := [(1, .int (nI (pcK v k + (v / 2 ^ k % 2)))), (0, .int (nI v)), (2, .int (nI k))]) hx hb dX8_ones_17 rfl hl (by decide) rfl (fun ls hl => ?_)
        refine lv_iinc (v := nI (k + 1)) (lv' := [(2, .int (nI (k + 1))), (1, .int (nI (pcK v k + (v / 2 ^ k % 2)))), (0, .int (nI v))]) hx hb dX8_ones_18 hl (k := 2) rfl (by rw [show Int32.ofInt 1 = nI 1 from rfl, nI_add]) (by decide) rfl (fun ls hl => ?_)
        refine lv_goto (tgt := 4) hx hb dX8_ones_21 (by decide) ?_
        exact zih4 (k + 1) (by omega) (by omega) _ _ zlw4 _ (lv_sub hl [2, 1, 0] rfl)
  exact zlp4 _ 0 (Nat.lt_succ_self _) (by omega) _ _ hw _ (lv_sub hl [2, 1, 0] rfl)

set_option maxHeartbeats 4000000 in
set_option maxRecDepth 100000 in
theorem c_X8_even {l : Launch} {G : vG} {tC : Nat} {ad : Nat → Nat} {N : Nat} {E : Nat → va_E} {n : Nat} (hn : n < 2147483648) : MI l yX8_even wsX8_even ({ frames := 0, cells := 0, slots := 0, locals := 0 } : Room) G tC ad N E [.int (nI n)] (fun r E2 => E2 = E ∧ r = nI (1 - n % 2)) := by
  refine MI_of RX8 rfl (by decide) rfl (Nat.le_of_ble_eq_true rfl) ?_
  intro pp_ ee_ ss_ mm_ aa_ bb_ me_ cc_ A ls C hw hl
  have hx := C.1
  have hb := C.2.1
  have hown := C.2.2.2.2.1
  have hts := C.2.2.2.2.2.1
  have hl : lv_has ls 1 [(0, .int (nI n))] := hl
  refine lv_iload_n hx hb dX8_even_0 rfl (lv_at hl 0 rfl) ?_
  refine lv_iconst (v := nI 2) hx hb dX8_even_1 rfl ?_
  refine lv_irem hx hb dX8_even_2 (by decide) ?_
  refine r_nat (n % 2) (rem2_nI hn (by omega) (by omega)) ?_
  refine n_if_ne (tgt := 10) hx hb dX8_even_3 (by decide) (by omega) (fun zc3 => ?_) (fun zc3 => ?_)
  · refine lv_iconst (v := nI 0) hx hb dX8_even_10 rfl ?_
    exact r_iret C hw dX8_even_11 ⟨rfl, (by congr 1; omega)⟩
  · refine lv_iconst (v := nI 1) hx hb dX8_even_6 rfl ?_
    refine lv_goto (tgt := 11) hx hb dX8_even_7 (by decide) ?_
    exact r_iret C hw dX8_even_11 ⟨rfl, (by congr 1; omega)⟩

set_option maxHeartbeats 4000000 in
set_option maxRecDepth 100000 in
theorem c_X8_codeOf {l : Launch} {G : vG} {tC : Nat} {ad : Nat → Nat} {N : Nat} {E : Nat → va_E} {v : Nat} (hv : v < 16) : MI l yX8_codeOf wsX8_codeOf ({ frames := 1, cells := 0, slots := 0, locals := 20 } : Room) G tC ad N E [.int (nI v)] (fun r E2 => E2 = E ∧ r = nI (codeN v)) := by
  refine MI_of RX8 rfl (by decide) rfl (Nat.le_of_ble_eq_true rfl) ?_
  intro pp_ ee_ ss_ mm_ aa_ bb_ me_ cc_ A ls C hw hl
  have hx := C.1
  have hb := C.2.1
  have hown := C.2.2.2.2.1
  have hts := C.2.2.2.2.2.1
  have hl : lv_has ls 9 [(0, .int (nI v))] := hl
  refine lv_iload_n hx hb dX8_codeOf_0 rfl (lv_at hl 0 rfl) ?_
  refine lv_iconst (v := nI 1) hx hb dX8_codeOf_1 rfl ?_
  refine lv_iand hx hb dX8_codeOf_2 ?_
  refine r_nat (v % 2) (pk_andN (by omega) 1 rfl) ?_
  refine lv_istore_n (lv' := [(1, .int (nI (v % 2))), (0, .int (nI v))]) hx hb dX8_codeOf_3 rfl hl (by decide) rfl (fun ls hl => ?_)
  refine lv_iload_n hx hb dX8_codeOf_4 rfl (lv_at hl 1 rfl) ?_
  refine lv_iconst (v := nI 1) hx hb dX8_codeOf_5 rfl ?_
  refine lv_ishr hx hb dX8_codeOf_6 ?_
  refine lv_iconst (v := nI 1) hx hb dX8_codeOf_7 rfl ?_
  refine lv_iand hx hb dX8_codeOf_8 ?_
  refine r_nat (v / 2 ^ 1 % 2) (bit_nI (by omega) (by omega)) ?_
  refine lv_istore_n (lv' := [(2, .int (nI (v / 2 ^ 1 % 2))), (1, .int (nI (v % 2))), (0, .int (nI v))]) hx hb dX8_codeOf_9 rfl hl (by decide) rfl (fun ls hl => ?_)
  refine lv_iload_n hx hb dX8_codeOf_10 rfl (lv_at hl 2 rfl) ?_
  refine lv_iconst (v := nI 2) hx hb dX8_codeOf_11 rfl ?_
  refine lv_ishr hx hb dX8_codeOf_12 ?_
  refine lv_iconst (v := nI 1) hx hb dX8_codeOf_13 rfl ?_
  refine lv_iand hx hb dX8_codeOf_14 ?_
  refine r_nat (v / 2 ^ 2 % 2) (bit_nI (by omega) (by omega)) ?_
  refine lv_istore_n (lv' := [(3, .int (nI (v / 2 ^ 2 % 2))), (2, .int (nI (v / 2 ^ 1 % 2))), (1, .int (nI (v % 2))), (0, .int (nI v))]) hx hb dX8_codeOf_15 rfl hl (by decide) rfl (fun ls hl => ?_)
  refine lv_iload_n hx hb dX8_codeOf_16 rfl (lv_at hl 3 rfl) ?_
  refine lv_iconst (v := nI 3) hx hb dX8_codeOf_17 rfl ?_
  refine lv_ishr hx hb dX8_codeOf_18 ?_
  refine lv_iconst (v := nI 1) hx hb dX8_codeOf_19 rfl ?_
  refine lv_iand hx hb dX8_codeOf_20 ?_
  refine r_nat (v / 2 ^ 3 % 2) (bit_nI (by omega) (by omega)) ?_
  refine lv_istore (lv' := [(4, .int (nI (v / 2 ^ 3 % 2))), (3, .int (nI (v / 2 ^ 2 % 2))), (2, .int (nI (v / 2 ^ 1 % 2))), (1, .int (nI (v % 2))), (0, .int (nI v))]) hx hb dX8_codeOf_21 hl (by decide) rfl (fun ls hl => ?_)
  refine lv_iload_n hx hb dX8_codeOf_23 rfl (lv_at hl 3 rfl) ?_
  refine lv_iload_n hx hb dX8_codeOf_24 rfl (lv_at hl 1 rfl) ?_
  refine lv_iadd hx hb dX8_codeOf_25 ?_
  refine r_nat ((v % 2) + (v / 2 ^ 2 % 2)) (nI_add _ _) ?_
  refine lv_iload hx hb dX8_codeOf_26 (lv_at hl 0 rfl) ?_
  refine lv_iadd hx hb dX8_codeOf_28 ?_
  refine r_nat (((v % 2) + (v / 2 ^ 2 % 2)) + (v / 2 ^ 3 % 2)) (nI_add _ _) ?_
  refine r_sI C hw hl.1 [.int (nI (((v % 2) + (v / 2 ^ 2 % 2)) + (v / 2 ^ 3 % 2)))] 1 rfl (c_X8_even (l := l) (G := G) (tC := tC) (ad := ad) (N := N) (E := E) (n := ((v % 2) + (v / 2 ^ 2 % 2)) + (v / 2 ^ 3 % 2))   (by first | assumption | omega)) gX8_codeOf_X8_even rfl ⟨rfl, rfl⟩ (by decide +kernel) ⟨Nat.le_of_ble_eq_true rfl, Nat.le_of_ble_eq_true rfl⟩ (rest := []) rfl (Nat.le_of_ble_eq_true rfl) dX8_codeOf_29 ⟨Nat.zero_le _, Nat.zero_le _⟩ (fun zr1 zE1 zH1 zL1 zp1 zw1 => ?_)
  obtain ⟨ze1, zq1⟩ := zp1
  rw [ze1] at zw1
  clear ze1
  rw [zq1]
  refine lv_istore (lv' := [(5, .int (nI (1 - (((v % 2) + (v / 2 ^ 2 % 2)) + (v / 2 ^ 3 % 2)) % 2))), (4, .int (nI (v / 2 ^ 3 % 2))), (3, .int (nI (v / 2 ^ 2 % 2))), (2, .int (nI (v / 2 ^ 1 % 2))), (1, .int (nI (v % 2))), (0, .int (nI v))]) hx hb dX8_codeOf_32 hl (by decide) rfl (fun ls hl => ?_)
  refine lv_iload_n hx hb dX8_codeOf_34 rfl (lv_at hl 4 rfl) ?_
  refine lv_iload_n hx hb dX8_codeOf_35 rfl (lv_at hl 3 rfl) ?_
  refine lv_iadd hx hb dX8_codeOf_36 ?_
  refine r_nat ((v % 2) + (v / 2 ^ 1 % 2)) (nI_add _ _) ?_
  refine lv_iload hx hb dX8_codeOf_37 (lv_at hl 1 rfl) ?_
  refine lv_iadd hx hb dX8_codeOf_39 ?_
  refine r_nat (((v % 2) + (v / 2 ^ 1 % 2)) + (v / 2 ^ 3 % 2)) (nI_add _ _) ?_
  refine r_sI C zw1 hl.1 [.int (nI (((v % 2) + (v / 2 ^ 1 % 2)) + (v / 2 ^ 3 % 2)))] 1 rfl (c_X8_even (l := l) (G := G) (tC := tC) (ad := ad) (N := N) (E := E) (n := ((v % 2) + (v / 2 ^ 1 % 2)) + (v / 2 ^ 3 % 2))   (by first | assumption | omega)) gX8_codeOf_X8_even rfl ⟨rfl, rfl⟩ (by decide +kernel) ⟨Nat.le_of_ble_eq_true rfl, Nat.le_of_ble_eq_true rfl⟩ (rest := []) rfl (Nat.le_of_ble_eq_true rfl) dX8_codeOf_40 ⟨Nat.zero_le _, Nat.zero_le _⟩ (fun zr2 zE2 zH2 zL2 zp2 zw2 => ?_)
  obtain ⟨ze2, zq2⟩ := zp2
  rw [ze2] at zw2
  clear ze2
  rw [zq2]
  refine lv_istore (lv' := [(6, .int (nI (1 - (((v % 2) + (v / 2 ^ 1 % 2)) + (v / 2 ^ 3 % 2)) % 2))), (5, .int (nI (1 - (((v % 2) + (v / 2 ^ 2 % 2)) + (v / 2 ^ 3 % 2)) % 2))), (4, .int (nI (v / 2 ^ 3 % 2))), (3, .int (nI (v / 2 ^ 2 % 2))), (2, .int (nI (v / 2 ^ 1 % 2))), (1, .int (nI (v % 2))), (0, .int (nI v))]) hx hb dX8_codeOf_43 hl (by decide) rfl (fun ls hl => ?_)
  refine lv_iload_n hx hb dX8_codeOf_45 rfl (lv_at hl 5 rfl) ?_
  refine lv_iload_n hx hb dX8_codeOf_46 rfl (lv_at hl 4 rfl) ?_
  refine lv_iadd hx hb dX8_codeOf_47 ?_
  refine r_nat ((v % 2) + (v / 2 ^ 1 % 2)) (nI_add _ _) ?_
  refine lv_iload_n hx hb dX8_codeOf_48 rfl (lv_at hl 3 rfl) ?_
  refine lv_iadd hx hb dX8_codeOf_49 ?_
  refine r_nat (((v % 2) + (v / 2 ^ 1 % 2)) + (v / 2 ^ 2 % 2)) (nI_add _ _) ?_
  refine r_sI C zw2 hl.1 [.int (nI (((v % 2) + (v / 2 ^ 1 % 2)) + (v / 2 ^ 2 % 2)))] 1 rfl (c_X8_even (l := l) (G := G) (tC := tC) (ad := ad) (N := N) (E := E) (n := ((v % 2) + (v / 2 ^ 1 % 2)) + (v / 2 ^ 2 % 2))   (by first | assumption | omega)) gX8_codeOf_X8_even rfl ⟨rfl, rfl⟩ (by decide +kernel) ⟨Nat.le_of_ble_eq_true rfl, Nat.le_of_ble_eq_true rfl⟩ (rest := []) rfl (Nat.le_of_ble_eq_true rfl) dX8_codeOf_50 ⟨Nat.zero_le _, Nat.zero_le _⟩ (fun zr3 zE3 zH3 zL3 zp3 zw3 => ?_)
  obtain ⟨ze3, zq3⟩ := zp3
  rw [ze3] at zw3
  clear ze3
  rw [zq3]
  refine lv_istore (lv' := [(7, .int (nI (1 - (((v % 2) + (v / 2 ^ 1 % 2)) + (v / 2 ^ 2 % 2)) % 2))), (6, .int (nI (1 - (((v % 2) + (v / 2 ^ 1 % 2)) + (v / 2 ^ 3 % 2)) % 2))), (5, .int (nI (1 - (((v % 2) + (v / 2 ^ 2 % 2)) + (v / 2 ^ 3 % 2)) % 2))), (4, .int (nI (v / 2 ^ 3 % 2))), (3, .int (nI (v / 2 ^ 2 % 2))), (2, .int (nI (v / 2 ^ 1 % 2))), (1, .int (nI (v % 2))), (0, .int (nI v))]) hx hb dX8_codeOf_53 hl (by decide) rfl (fun ls hl => ?_)
  refine lv_iload hx hb dX8_codeOf_55 (lv_at hl 2 rfl) ?_
  refine lv_iload_n hx hb dX8_codeOf_57 rfl (lv_at hl 6 rfl) ?_
  refine lv_iadd hx hb dX8_codeOf_58 ?_
  refine r_nat ((1 - (((v % 2) + (v / 2 ^ 2 % 2)) + (v / 2 ^ 3 % 2)) % 2) + (v % 2)) (nI_add _ _) ?_
  refine lv_iload hx hb dX8_codeOf_59 (lv_at hl 1 rfl) ?_
  refine lv_iadd hx hb dX8_codeOf_61 ?_
  refine r_nat (((1 - (((v % 2) + (v / 2 ^ 2 % 2)) + (v / 2 ^ 3 % 2)) % 2) + (v % 2)) + (1 - (((v % 2) + (v / 2 ^ 1 % 2)) + (v / 2 ^ 3 % 2)) % 2)) (nI_add _ _) ?_
  refine lv_iload_n hx hb dX8_codeOf_62 rfl (lv_at hl 5 rfl) ?_
  refine lv_iadd hx hb dX8_codeOf_63 ?_
  refine r_nat ((((1 - (((v % 2) + (v / 2 ^ 2 % 2)) + (v / 2 ^ 3 % 2)) % 2) + (v % 2)) + (1 - (((v % 2) + (v / 2 ^ 1 % 2)) + (v / 2 ^ 3 % 2)) % 2)) + (v / 2 ^ 1 % 2)) (nI_add _ _) ?_
  refine lv_iload hx hb dX8_codeOf_64 (lv_at hl 0 rfl) ?_
  refine lv_iadd hx hb dX8_codeOf_66 ?_
  refine r_nat (((((1 - (((v % 2) + (v / 2 ^ 2 % 2)) + (v / 2 ^ 3 % 2)) % 2) + (v % 2)) + (1 - (((v % 2) + (v / 2 ^ 1 % 2)) + (v / 2 ^ 3 % 2)) % 2)) + (v / 2 ^ 1 % 2)) + (1 - (((v % 2) + (v / 2 ^ 1 % 2)) + (v / 2 ^ 2 % 2)) % 2)) (nI_add _ _) ?_
  refine lv_iload_n hx hb dX8_codeOf_67 rfl (lv_at hl 4 rfl) ?_
  refine lv_iadd hx hb dX8_codeOf_68 ?_
  refine r_nat ((((((1 - (((v % 2) + (v / 2 ^ 2 % 2)) + (v / 2 ^ 3 % 2)) % 2) + (v % 2)) + (1 - (((v % 2) + (v / 2 ^ 1 % 2)) + (v / 2 ^ 3 % 2)) % 2)) + (v / 2 ^ 1 % 2)) + (1 - (((v % 2) + (v / 2 ^ 1 % 2)) + (v / 2 ^ 2 % 2)) % 2)) + (v / 2 ^ 2 % 2)) (nI_add _ _) ?_
  refine lv_iload hx hb dX8_codeOf_69 (lv_at hl 3 rfl) ?_
  refine lv_iadd hx hb dX8_codeOf_71 ?_
  refine r_nat (((((((1 - (((v % 2) + (v / 2 ^ 2 % 2)) + (v / 2 ^ 3 % 2)) % 2) + (v % 2)) + (1 - (((v % 2) + (v / 2 ^ 1 % 2)) + (v / 2 ^ 3 % 2)) % 2)) + (v / 2 ^ 1 % 2)) + (1 - (((v % 2) + (v / 2 ^ 1 % 2)) + (v / 2 ^ 2 % 2)) % 2)) + (v / 2 ^ 2 % 2)) + (v / 2 ^ 3 % 2)) (nI_add _ _) ?_
  refine r_sI C zw3 hl.1 [.int (nI (((((((1 - (((v % 2) + (v / 2 ^ 2 % 2)) + (v / 2 ^ 3 % 2)) % 2) + (v % 2)) + (1 - (((v % 2) + (v / 2 ^ 1 % 2)) + (v / 2 ^ 3 % 2)) % 2)) + (v / 2 ^ 1 % 2)) + (1 - (((v % 2) + (v / 2 ^ 1 % 2)) + (v / 2 ^ 2 % 2)) % 2)) + (v / 2 ^ 2 % 2)) + (v / 2 ^ 3 % 2)))] 1 rfl (c_X8_even (l := l) (G := G) (tC := tC) (ad := ad) (N := N) (E := E) (n := ((((((1 - (((v % 2) + (v / 2 ^ 2 % 2)) + (v / 2 ^ 3 % 2)) % 2) + (v % 2)) + (1 - (((v % 2) + (v / 2 ^ 1 % 2)) + (v / 2 ^ 3 % 2)) % 2)) + (v / 2 ^ 1 % 2)) + (1 - (((v % 2) + (v / 2 ^ 1 % 2)) + (v / 2 ^ 2 % 2)) % 2)) + (v / 2 ^ 2 % 2)) + (v / 2 ^ 3 % 2))   (by first | assumption | omega)) gX8_codeOf_X8_even rfl ⟨rfl, rfl⟩ (by decide +kernel) ⟨Nat.le_of_ble_eq_true rfl, Nat.le_of_ble_eq_true rfl⟩ (rest := []) rfl (Nat.le_of_ble_eq_true rfl) dX8_codeOf_72 ⟨Nat.zero_le _, Nat.zero_le _⟩ (fun zr4 zE4 zH4 zL4 zp4 zw4 => ?_)
  obtain ⟨ze4, zq4⟩ := zp4
  rw [ze4] at zw4
  clear ze4
  rw [zq4]
  refine lv_istore (lv' := [(8, .int (nI (1 - (((((((1 - (((v % 2) + (v / 2 ^ 2 % 2)) + (v / 2 ^ 3 % 2)) % 2) + (v % 2)) + (1 - (((v % 2) + (v / 2 ^ 1 % 2)) + (v / 2 ^ 3 % 2)) % 2)) + (v / 2 ^ 1 % 2)) + (1 - (((v % 2) + (v / 2 ^ 1 % 2)) + (v / 2 ^ 2 % 2)) % 2)) + (v / 2 ^ 2 % 2)) + (v / 2 ^ 3 % 2)) % 2))), (7, .int (nI (1 - (((v % 2) + (v / 2 ^ 1 % 2)) + (v / 2 ^ 2 % 2)) % 2))), (6, .int (nI (1 - (((v % 2) + (v / 2 ^ 1 % 2)) + (v / 2 ^ 3 % 2)) % 2))), (5, .int (nI (1 - (((v % 2) + (v / 2 ^ 2 % 2)) + (v / 2 ^ 3 % 2)) % 2))), (4, .int (nI (v / 2 ^ 3 % 2))), (3, .int (nI (v / 2 ^ 2 % 2))), (2, .int (nI (v / 2 ^ 1 % 2))), (1, .int (nI (v % 2))), (0, .int (nI v))]) hx hb dX8_codeOf_75 hl (by decide) rfl (fun ls hl => ?_)
  refine lv_iload hx hb dX8_codeOf_77 (lv_at hl 3 rfl) ?_
  refine lv_iload_n hx hb dX8_codeOf_79 rfl (lv_at hl 7 rfl) ?_
  refine lv_iconst (v := nI 1) hx hb dX8_codeOf_80 rfl ?_
  refine lv_ishl hx hb dX8_codeOf_81 ?_
  refine lv_ior hx hb dX8_codeOf_82 ?_
  refine lv_iload hx hb dX8_codeOf_83 (lv_at hl 2 rfl) ?_
  refine lv_iconst (v := nI 2) hx hb dX8_codeOf_85 rfl ?_
  refine lv_ishl hx hb dX8_codeOf_86 ?_
  refine lv_ior hx hb dX8_codeOf_87 ?_
  refine lv_iload_n hx hb dX8_codeOf_88 rfl (lv_at hl 6 rfl) ?_
  refine lv_iconst (v := nI 3) hx hb dX8_codeOf_89 rfl ?_
  refine lv_ishl hx hb dX8_codeOf_90 ?_
  refine lv_ior hx hb dX8_codeOf_91 ?_
  refine lv_iload hx hb dX8_codeOf_92 (lv_at hl 1 rfl) ?_
  refine lv_iconst (v := nI 4) hx hb dX8_codeOf_94 rfl ?_
  refine lv_ishl hx hb dX8_codeOf_95 ?_
  refine lv_ior hx hb dX8_codeOf_96 ?_
  refine lv_iload_n hx hb dX8_codeOf_97 rfl (lv_at hl 5 rfl) ?_
  refine lv_iconst (v := nI 5) hx hb dX8_codeOf_98 rfl ?_
  refine lv_ishl hx hb dX8_codeOf_99 ?_
  refine lv_ior hx hb dX8_codeOf_100 ?_
  refine lv_iload hx hb dX8_codeOf_101 (lv_at hl 0 rfl) ?_
  refine lv_bipush (v := nI 6) hx hb dX8_codeOf_103 rfl ?_
  refine lv_ishl hx hb dX8_codeOf_105 ?_
  refine lv_ior hx hb dX8_codeOf_106 ?_
  refine lv_iload hx hb dX8_codeOf_107 (lv_at hl 4 rfl) ?_
  refine lv_bipush (v := nI 7) hx hb dX8_codeOf_109 rfl ?_
  refine lv_ishl hx hb dX8_codeOf_111 ?_
  refine lv_ior hx hb dX8_codeOf_112 ?_
  exact r_iret C zw4 dX8_codeOf_113 ⟨rfl, (by exact (by decide +kernel : ∀ v, v < 16 → (((((((nI (1 - (((v % 2) + (v / 2 ^ 2 % 2)) + (v / 2 ^ 3 % 2)) % 2)) ||| ((nI (v % 2)) <<< (nI 1 &&& 31))) ||| ((nI (1 - (((v % 2) + (v / 2 ^ 1 % 2)) + (v / 2 ^ 3 % 2)) % 2)) <<< (nI 2 &&& 31))) ||| ((nI (v / 2 ^ 1 % 2)) <<< (nI 3 &&& 31))) ||| ((nI (1 - (((v % 2) + (v / 2 ^ 1 % 2)) + (v / 2 ^ 2 % 2)) % 2)) <<< (nI 4 &&& 31))) ||| ((nI (v / 2 ^ 2 % 2)) <<< (nI 5 &&& 31))) ||| ((nI (1 - (((((((1 - (((v % 2) + (v / 2 ^ 2 % 2)) + (v / 2 ^ 3 % 2)) % 2) + (v % 2)) + (1 - (((v % 2) + (v / 2 ^ 1 % 2)) + (v / 2 ^ 3 % 2)) % 2)) + (v / 2 ^ 1 % 2)) + (1 - (((v % 2) + (v / 2 ^ 1 % 2)) + (v / 2 ^ 2 % 2)) % 2)) + (v / 2 ^ 2 % 2)) + (v / 2 ^ 3 % 2)) % 2)) <<< (nI 6 &&& 31))) ||| ((nI (v / 2 ^ 3 % 2)) <<< (nI 7 &&& 31)) = nI (codeN v)) v hv)⟩

set_option maxHeartbeats 4000000 in
set_option maxRecDepth 100000 in
theorem c_X8_numberOf {l : Launch} {G : vG} {tC : Nat} {ad : Nat → Nat} {N : Nat} {E : Nat → va_E} {o : Nat} (ho : o < 256) : MI l yX8_numberOf wsX8_numberOf ({ frames := 2, cells := 0, slots := 0, locals := 48 } : Room) G tC ad N E [.int (nI o)] (fun r E2 => E2 = E ∧ r = dec o) := by
  refine MI_of RX8 rfl (by decide) rfl (Nat.le_of_ble_eq_true rfl) ?_
  intro pp_ ee_ ss_ mm_ aa_ bb_ me_ cc_ A ls C hw hl
  have hx := C.1
  have hb := C.2.1
  have hown := C.2.2.2.2.1
  have hts := C.2.2.2.2.2.1
  have hl : lv_has ls 3 [(0, .int (nI o))] := hl
  refine lv_iconst (v := -1) hx hb dX8_numberOf_0 (by decide) ?_
  refine lv_istore_n (lv' := [(1, .int (-1)), (0, .int (nI o))]) hx hb dX8_numberOf_1 rfl hl (by decide) rfl (fun ls hl => ?_)
  refine lv_iconst (v := nI 0) hx hb dX8_numberOf_2 rfl ?_
  refine lv_istore_n (lv' := [(2, .int (nI 0)), (1, .int (-1)), (0, .int (nI o))]) hx hb dX8_numberOf_3 rfl hl (by decide) rfl (fun ls hl => ?_)
  have zlp4 : ∀ (zn : Nat) (v : Nat), 16 - v < zn → (v ≤ 16) → ∀ (H9 : Heap) (L9 : List Loc), Wd G A ss_.heap H9 L9 ad E N → ∀ (ls : Array Slot), lv_has ls 3 [(0, .int (nI o)), (1, .int (decL o v)), (2, .int (nI v))] → W pp_ l ee_ ({ frames := 2, cells := 0, slots := 0, locals := 48 } : Room) ss_ mm_ aa_ bb_ me_ cc_ H9 L9 0 0 (QI bb_ aa_ ss_ G ad N A (fun r E2 => E2 = E ∧ r = dec o)) (F0 mm_ 4 ls []) := by
    intro zn
    induction zn with
    | zero => intro v zhm; exact absurd zhm (Nat.not_lt_zero _)
    | succ zn zih4 =>
      intro v zhm4 hv zH_4 zL_4 zlw4 ls hl
      refine lv_iload_n hx hb dX8_numberOf_4 rfl (lv_at hl 2 rfl) ?_
      refine lv_bipush (v := nI 16) hx hb dX8_numberOf_5 rfl ?_
      refine n_icmp_ge (tgt := 35) hx hb dX8_numberOf_7 (by decide) (by omega) (by omega) (fun zc7 => ?_) (fun zc7 => ?_)
      · refine lv_iload_n hx hb dX8_numberOf_35 rfl (lv_at hl 1 rfl) ?_
        exact r_iret C zlw4 dX8_numberOf_36 ⟨rfl, (by rw [show v = 16 by omega]; exact decL_16 o ho)⟩
      · refine lv_iload_n hx hb dX8_numberOf_10 rfl (lv_at hl 2 rfl) ?_
        refine r_sI C zlw4 hl.1 [.int (nI v)] 1 rfl (c_X8_codeOf (l := l) (G := G) (tC := tC) (ad := ad) (N := N) (E := E) (v := v)   (by first | assumption | omega)) gX8_numberOf_X8_codeOf rfl ⟨rfl, rfl⟩ (by decide +kernel) ⟨Nat.le_of_ble_eq_true rfl, Nat.le_of_ble_eq_true rfl⟩ (rest := []) rfl (Nat.le_of_ble_eq_true rfl) dX8_numberOf_11 ⟨Nat.zero_le _, Nat.zero_le _⟩ (fun zr1 zE1 zH1 zL1 zp1 zw1 => ?_)
        obtain ⟨ze1, zq1⟩ := zp1
        rw [ze1] at zw1
        clear ze1
        rw [zq1]
        refine lv_iload_n hx hb dX8_numberOf_14 rfl (lv_at hl 0 rfl) ?_
        refine lv_ixor hx hb dX8_numberOf_15 ?_
        refine r_nat (codeN v ^^^ o) (xor_nI _ _) ?_
        refine r_sI C zw1 hl.1 [.int (nI (codeN v ^^^ o))] 1 rfl (c_X8_ones (l := l) (G := G) (tC := tC) (ad := ad) (N := N) (E := E) (v := codeN v ^^^ o)   (xor_lt (codeN_lt v (by omega)) ho)) gX8_numberOf_X8_ones rfl ⟨rfl, rfl⟩ (by decide +kernel) ⟨Nat.le_of_ble_eq_true rfl, Nat.le_of_ble_eq_true rfl⟩ (rest := []) rfl (Nat.le_of_ble_eq_true rfl) dX8_numberOf_16 ⟨Nat.zero_le _, Nat.zero_le _⟩ (fun zr2 zE2 zH2 zL2 zp2 zw2 => ?_)
        obtain ⟨ze2, zq2⟩ := zp2
        rw [ze2] at zw2
        clear ze2
        rw [zq2]
        refine lv_iconst (v := nI 2) hx hb dX8_numberOf_19 rfl ?_
        have zb8 := pc8_le (codeN v ^^^ o)
        refine n_icmp_ge (tgt := 27) hx hb dX8_numberOf_20 (by decide) (by omega) (by omega) (fun zc20 => ?_) (fun zc20 => ?_)
        · refine lv_iload_n hx hb dX8_numberOf_27 rfl (lv_at hl 1 rfl) ?_
          refine r_as (decL o (v + 1)) (by rw [decL, if_neg (by omega)]) ?_
          refine lv_istore_n (lv' := [(1, .int (decL o (v + 1))), (0, .int (nI o)), (2, .int (nI v))]) hx hb dX8_numberOf_28 rfl hl (by decide) rfl (fun ls hl => ?_)
          refine lv_iinc (v := nI (v + 1)) (lv' := [(2, .int (nI (v + 1))), (1, .int (decL o (v + 1))), (0, .int (nI o))]) hx hb dX8_numberOf_29 hl (k := 2) rfl (by rw [show Int32.ofInt 1 = nI 1 from rfl, nI_add]) (by decide) rfl (fun ls hl => ?_)
          refine lv_goto (tgt := 4) hx hb dX8_numberOf_32 (by decide) ?_
          exact zih4 (v + 1) (by omega) (by omega) _ _ zw2 _ (lv_sub hl [2, 1, 0] rfl)
        · refine lv_iload_n hx hb dX8_numberOf_23 rfl (lv_at hl 2 rfl) ?_
          refine lv_goto (tgt := 28) hx hb dX8_numberOf_24 (by decide) ?_
          refine r_as (decL o (v + 1)) (by rw [decL, if_pos zc20]) ?_
          refine lv_istore_n (lv' := [(1, .int (decL o (v + 1))), (0, .int (nI o)), (2, .int (nI v))]) hx hb dX8_numberOf_28 rfl hl (by decide) rfl (fun ls hl => ?_)
          refine lv_iinc (v := nI (v + 1)) (lv' := [(2, .int (nI (v + 1))), (1, .int (decL o (v + 1))), (0, .int (nI o))]) hx hb dX8_numberOf_29 hl (k := 2) rfl (by rw [show Int32.ofInt 1 = nI 1 from rfl, nI_add]) (by decide) rfl (fun ls hl => ?_)
          refine lv_goto (tgt := 4) hx hb dX8_numberOf_32 (by decide) ?_
          exact zih4 (v + 1) (by omega) (by omega) _ _ zw2 _ (lv_sub hl [2, 1, 0] rfl)
  exact zlp4 _ 0 (Nat.lt_succ_self _) (by omega) _ _ hw _ (lv_sub hl [2, 1, 0] rfl)

set_option maxHeartbeats 4000000 in
set_option maxRecDepth 100000 in
theorem c_X8_isMended {l : Launch} {G : vG} {tC : Nat} {ad : Nat → Nat} {N : Nat} {E : Nat → va_E} {o : Nat} (ho : o < 256) : MI l yX8_isMended wsX8_isMended ({ frames := 3, cells := 0, slots := 0, locals := 70 } : Room) G tC ad N E [.int (nI o)] (fun r E2 => E2 = E ∧ r = if mendB o then 1 else 0) := by
  refine MI_of RX8 rfl (by decide) rfl (Nat.le_of_ble_eq_true rfl) ?_
  intro pp_ ee_ ss_ mm_ aa_ bb_ me_ cc_ A ls C hw hl
  have hx := C.1
  have hb := C.2.1
  have hown := C.2.2.2.2.1
  have hts := C.2.2.2.2.2.1
  have hl : lv_has ls 2 [(0, .int (nI o))] := hl
  refine lv_iload_n hx hb dX8_isMended_0 rfl (lv_at hl 0 rfl) ?_
  refine r_sI C hw hl.1 [.int (nI o)] 1 rfl (c_X8_numberOf (l := l) (G := G) (tC := tC) (ad := ad) (N := N) (E := E) (o := o)   (by first | assumption | omega)) gX8_isMended_X8_numberOf rfl ⟨rfl, rfl⟩ (by decide +kernel) ⟨Nat.le_of_ble_eq_true rfl, Nat.le_of_ble_eq_true rfl⟩ (rest := []) rfl (Nat.le_of_ble_eq_true rfl) dX8_isMended_1 ⟨Nat.zero_le _, Nat.zero_le _⟩ (fun zr1 zE1 zH1 zL1 zp1 zw1 => ?_)
  obtain ⟨ze1, zq1⟩ := zp1
  rw [ze1] at zw1
  clear ze1
  rw [zq1]
  refine lv_istore_n (lv' := [(1, .int (dec o)), (0, .int (nI o))]) hx hb dX8_isMended_4 rfl hl (by decide) rfl (fun ls hl => ?_)
  refine lv_iload_n hx hb dX8_isMended_5 rfl (lv_at hl 0 rfl) ?_
  refine lv_iconst (v := -1) hx hb dX8_isMended_6 (by decide) ?_
  refine lv_icmp_eq (tgt := 22) hx hb dX8_isMended_7 (by decide) (fun zc7 => ?_) (fun zc7 => ?_)
  · refine lv_iconst (v := nI 0) hx hb dX8_isMended_22 rfl ?_
    exact r_zret C zw1 dX8_isMended_23 (Or.inl rfl) ⟨rfl, (by first | (rw [if_neg (fun zq => (dec_m1.mp zc7) zq.1)]; rfl) | (rw [if_neg (fun zq => zq.2 zc15)]; rfl) | (rw [if_pos ⟨(dec_nat zc7).2, zc15⟩]; rfl))⟩
  · refine lv_iload_n hx hb dX8_isMended_10 rfl (lv_at hl 0 rfl) ?_
    refine r_nat (decN o) (dec_nat zc7).1 ?_
    have zcn := codeN_lt _ (dec_nat zc7).2
    refine r_sI C zw1 hl.1 [.int (nI (decN o))] 1 rfl (c_X8_codeOf (l := l) (G := G) (tC := tC) (ad := ad) (N := N) (E := E) (v := decN o)   (dec_nat zc7).2) gX8_isMended_X8_codeOf rfl ⟨rfl, rfl⟩ (by decide +kernel) ⟨Nat.le_of_ble_eq_true rfl, Nat.le_of_ble_eq_true rfl⟩ (rest := []) rfl (Nat.le_of_ble_eq_true rfl) dX8_isMended_11 ⟨Nat.zero_le _, Nat.zero_le _⟩ (fun zr2 zE2 zH2 zL2 zp2 zw2 => ?_)
    obtain ⟨ze2, zq2⟩ := zp2
    rw [ze2] at zw2
    clear ze2
    rw [zq2]
    refine lv_iload_n hx hb dX8_isMended_14 rfl (lv_at hl 1 rfl) ?_
    refine n_icmp_eq (tgt := 22) hx hb dX8_isMended_15 (by decide) (by omega) (by omega) (fun zc15 => ?_) (fun zc15 => ?_)
    · refine lv_iconst (v := nI 0) hx hb dX8_isMended_22 rfl ?_
      exact r_zret C zw2 dX8_isMended_23 (Or.inl rfl) ⟨rfl, (by first | (rw [if_neg (fun zq => (dec_m1.mp zc7) zq.1)]; rfl) | (rw [if_neg (fun zq => zq.2 zc15)]; rfl) | (rw [if_pos ⟨(dec_nat zc7).2, zc15⟩]; rfl))⟩
    · refine lv_iconst (v := nI 1) hx hb dX8_isMended_18 rfl ?_
      refine lv_goto (tgt := 23) hx hb dX8_isMended_19 (by decide) ?_
      exact r_zret C zw2 dX8_isMended_23 (Or.inr rfl) ⟨rfl, (by first | (rw [if_neg (fun zq => (dec_m1.mp zc7) zq.1)]; rfl) | (rw [if_neg (fun zq => zq.2 zc15)]; rfl) | (rw [if_pos ⟨(dec_nat zc7).2, zc15⟩]; rfl))⟩

set_option maxHeartbeats 4000000 in
set_option maxRecDepth 100000 in
theorem c_X8_lettered {l : Launch} {G : vG} {tC : Nat} {ad : Nat → Nat} {N : Nat} {E : Nat → va_E} {n : Nat} (hn : n < 128) : MI l yX8_lettered wsX8_lettered ({ frames := 1, cells := 0, slots := 0, locals := 22 } : Room) G tC ad N E [.int (nI n)] (fun r E2 => E2 = E ∧ r = nI (if pc8 n % 2 = 1 then n else n + 128)) := by
  refine MI_of RX8 rfl (by decide) rfl (Nat.le_of_ble_eq_true rfl) ?_
  intro pp_ ee_ ss_ mm_ aa_ bb_ me_ cc_ A ls C hw hl
  have hx := C.1
  have hb := C.2.1
  have hown := C.2.2.2.2.1
  have hts := C.2.2.2.2.2.1
  have hl : lv_has ls 1 [(0, .int (nI n))] := hl
  refine lv_iload_n hx hb dX8_lettered_0 rfl (lv_at hl 0 rfl) ?_
  refine lv_iload_n hx hb dX8_lettered_1 rfl (lv_at hl 0 rfl) ?_
  refine r_sI C hw hl.1 [.int (nI n)] 1 rfl (c_X8_ones (l := l) (G := G) (tC := tC) (ad := ad) (N := N) (E := E) (v := n)   (by first | assumption | omega)) gX8_lettered_X8_ones rfl ⟨rfl, rfl⟩ (by decide +kernel) ⟨Nat.le_of_ble_eq_true rfl, Nat.le_of_ble_eq_true rfl⟩ (rest := [.int (nI n)]) rfl (Nat.le_of_ble_eq_true rfl) dX8_lettered_2 ⟨Nat.zero_le _, Nat.zero_le _⟩ (fun zr1 zE1 zH1 zL1 zp1 zw1 => ?_)
  obtain ⟨ze1, zq1⟩ := zp1
  rw [ze1] at zw1
  clear ze1
  rw [zq1]
  refine lv_iconst (v := nI 2) hx hb dX8_lettered_5 rfl ?_
  refine lv_irem hx hb dX8_lettered_6 (by decide) ?_
  refine r_nat (pc8 n % 2) (rem2_nI (by have := pc8_le n; omega) (by omega) (by omega)) ?_
  refine n_if_ne (tgt := 16) hx hb dX8_lettered_7 (by decide) (by omega) (fun zc7 => ?_) (fun zc7 => ?_)
  · refine lv_iconst (v := nI 0) hx hb dX8_lettered_16 rfl ?_
    refine lv_ior hx hb dX8_lettered_17 ?_
    refine r_nat n (or0 n) ?_
    exact r_iret C zw1 dX8_lettered_18 ⟨rfl, (by first | rw [if_pos (by omega)] | rw [if_neg (by omega)])⟩
  · refine lv_sipush (v := nI 128) hx hb dX8_lettered_10 rfl ?_
    refine lv_goto (tgt := 17) hx hb dX8_lettered_13 (by decide) ?_
    refine lv_ior hx hb dX8_lettered_17 ?_
    refine r_nat (n + 128) (or128 n hn) ?_
    exact r_iret C zw1 dX8_lettered_18 ⟨rfl, (by first | rw [if_pos (by omega)] | rw [if_neg (by omega)])⟩

set_option maxHeartbeats 4000000 in
set_option maxRecDepth 100000 in
theorem c_X8_mends {l : Launch} {G : vG} {tC : Nat} {ad : Nat → Nat} {N : Nat} {E : Nat → va_E} {q co pm em : Nat} {th : Int32} {se : Int64} {s : Nat → Int32} {pt : Nat → Int32} {pk : Nat → Nat} {a b : Nat} (hN0 : q + 13 ≤ N) (hE0 : E q = .inr (5, [.int th, .ref (ad (q + 1)), .long se, .ref (ad (q + 2)), .ref (ad (q + 3)), .int (nI co), .ref (ad (q + 4)), .int (nI pm), .ref (ad (q + 5)), .ref (ad (q + 6)), .ref (ad (q + 7)), .ref (ad (q + 8)), .int (nI em), .ref (ad (q + 9)), .ref (ad (q + 10)), .ref (ad (q + 11)), .ref (ad (q + 12))])) (hE1 : E (q + 1) = eI G 508 s) (hE2 : E (q + 2) = eI G 10 pt) (hab : a ≤ b + 1) (hb10 : b < 10) (hpk : ∀ j, j < 10 → pt j = nI (pk j) ∧ pk j < 256) : MV l yX8_mends wsX8_mends ({ frames := 4, cells := 0, slots := 0, locals := 91 } : Room) G tC ad N E [.ref (ad q), .int (nI a), .int (nI b)] (fun E2 => E2 (q + 1) = eI G 508 (upd s 3 (mdF pk a (b + 1 - a) (s 3))) ∧ (∀ j, j ≠ (q + 1) → E2 j = E j)) := by
  refine MV_of RX8 rfl (by decide) rfl (Nat.le_of_ble_eq_true rfl) ?_
  intro pp_ ee_ ss_ mm_ aa_ bb_ me_ cc_ A ls C hw hl
  have hx := C.1
  have hb := C.2.1
  have hown := C.2.2.2.2.1
  have hts := C.2.2.2.2.2.1
  have hl : lv_has ls 4 [(0, .ref (ad q)), (1, .int (nI a)), (2, .int (nI b))] := hl
  have hinX8 : ∀ w ∈ u_ws RX8 TX8 17, w ∈ wsX8_mends := by decide +kernel
  refine lv_iload_n hx hb dX8_mends_0 rfl (lv_at hl 1 rfl) ?_
  refine lv_istore_n (lv' := [(3, .int (nI a)), (0, .ref (ad q)), (1, .int (nI a)), (2, .int (nI b))]) hx hb dX8_mends_1 rfl hl (by decide) rfl (fun ls hl => ?_)
  have zlp2 : ∀ (zn : Nat) (k : Nat) (g : Nat → Int32), b + 1 - k < zn → (a ≤ k) → (k ≤ b + 1) → (g = upd s 3 (mdF pk a (k - a) (s 3))) → ∀ (E9 : Nat → va_E) (H9 : Heap) (L9 : List Loc), E9 q = .inr (5, [.int th, .ref (ad (q + 1)), .long se, .ref (ad (q + 2)), .ref (ad (q + 3)), .int (nI co), .ref (ad (q + 4)), .int (nI pm), .ref (ad (q + 5)), .ref (ad (q + 6)), .ref (ad (q + 7)), .ref (ad (q + 8)), .int (nI em), .ref (ad (q + 9)), .ref (ad (q + 10)), .ref (ad (q + 11)), .ref (ad (q + 12))]) → E9 (q + 1) = eI G 508 g → E9 (q + 2) = eI G 10 pt → (∀ j, j ≠ (q + 1) → E9 j = E j) → Wd G A ss_.heap H9 L9 ad E9 N → ∀ (ls : Array Slot), lv_has ls 4 [(0, .ref (ad q)), (1, .int (nI a)), (2, .int (nI b)), (3, .int (nI k))] → W pp_ l ee_ ({ frames := 4, cells := 0, slots := 0, locals := 91 } : Room) ss_ mm_ aa_ bb_ me_ cc_ H9 L9 0 0 (QV bb_ aa_ ss_ G ad N A (fun E2 => E2 (q + 1) = eI G 508 (upd s 3 (mdF pk a (b + 1 - a) (s 3))) ∧ (∀ j, j ≠ (q + 1) → E2 j = E j))) (F0 mm_ 2 ls []) := by
    intro zn
    induction zn with
    | zero => intro k g zhm; exact absurd zhm (Nat.not_lt_zero _)
    | succ zn zih2 =>
      intro k g zhm2 hk1 hk2 hg zE_2 zH_2 zL_2 zl2_0 zl2_1 zl2_2 zlf2  zlw2 ls hl
      refine lv_iload_n hx hb dX8_mends_2 rfl (lv_at hl 3 rfl) ?_
      refine lv_iload_n hx hb dX8_mends_3 rfl (lv_at hl 2 rfl) ?_
      refine n_icmp_gt (tgt := 50) hx hb dX8_mends_4 (by decide) (by omega) (by omega) (fun zc4 => ?_) (fun zc4 => ?_)
      · exact r_vret C zlw2 dX8_mends_50 ⟨(zl2_1.trans (by rw [hg, show k = b + 1 by omega])), (fun j zm0 => zlf2 j zm0)⟩
      · refine lv_aload_n hx hb dX8_mends_7 rfl (lv_at hl 0 rfl) ?_
        refine r_get C zlw2 RX8 TX8 17 5 hinX8 (i := q) (by omega) zl2_0 rfl 1 (by decide) (by decide +kernel) rfl (v := .ref (ad (q + 1))) rfl dX8_mends_8 ?_
        refine lv_iconst (v := nI 3) hx hb dX8_mends_11 rfl ?_
        refine lv_dup2_11 hx hb dX8_mends_12 rfl rfl ?_
        refine r_iaN C zlw2 (i := (q + 1)) (by omega) zl2_1 (j := 3) (by omega) (by omega) dX8_mends_13 ?_
        refine lv_aload_n hx hb dX8_mends_14 rfl (lv_at hl 0 rfl) ?_
        refine r_get C zlw2 RX8 TX8 17 5 hinX8 (i := q) (by omega) zl2_0 rfl 3 (by decide) (by decide +kernel) rfl (v := .ref (ad (q + 2))) rfl dX8_mends_15 ?_
        refine lv_iload_n hx hb dX8_mends_18 rfl (lv_at hl 3 rfl) ?_
        refine r_iaN C zlw2 (i := (q + 2)) (by omega) zl2_2 (j := k) (by omega) (by omega) dX8_mends_19 ?_
        refine r_nat (pk k) (hpk k (by omega)).1 ?_
        refine r_sI C zlw2 hl.1 [.int (nI (pk k))] 1 rfl (c_X8_isMended (l := l) (G := G) (tC := tC) (ad := ad) (N := N) (E := zE_2) (o := pk k)   (hpk k (by omega)).2) gX8_mends_X8_isMended rfl ⟨rfl, rfl⟩ (by decide +kernel) ⟨Nat.le_of_ble_eq_true rfl, Nat.le_of_ble_eq_true rfl⟩ (rest := [.int (g 3), .int (nI 3), .ref (ad (q + 1))]) rfl (Nat.le_of_ble_eq_true rfl) dX8_mends_20 ⟨Nat.zero_le _, Nat.zero_le _⟩ (fun zr1 zE1 zH1 zL1 zp1 zw1 => ?_)
        obtain ⟨ze1, zq1⟩ := zp1
        rw [ze1] at zw1
        clear ze1
        rw [zq1]
        refine b_if_eq (tgt := 41) hx hb dX8_mends_23 (by decide) (fun zc23 => ?_) (fun zc23 => ?_)
        · refine lv_iconst (v := nI 0) hx hb dX8_mends_41 rfl ?_
          refine lv_iadd hx hb dX8_mends_42 ?_
          refine r_iasN C zw1 (i := (q + 1)) (by omega) zl2_1 (j := 3) (by omega) (by omega) dX8_mends_43 (fun zE2 zH2 zL2 zg2 zf2 zw2 => ?_)
          have zh2_0 : zE2 (q + 1) = eI G 508 (upd g 3 ((g 3) + (nI 0))) := zg2
          have zk2_0 : zE2 q = .inr (5, [.int th, .ref (ad (q + 1)), .long se, .ref (ad (q + 2)), .ref (ad (q + 3)), .int (nI co), .ref (ad (q + 4)), .int (nI pm), .ref (ad (q + 5)), .ref (ad (q + 6)), .ref (ad (q + 7)), .ref (ad (q + 8)), .int (nI em), .ref (ad (q + 9)), .ref (ad (q + 10)), .ref (ad (q + 11)), .ref (ad (q + 12))]) := (zf2 _ (by omega)).trans zl2_0
          have zk2_1 : zE2 (q + 2) = eI G 10 pt := (zf2 _ (by omega)).trans zl2_2
          have zfr2 : ∀ j, j ≠ (q + 1) → zE2 j = E j := fun j zm0 => (zf2 j zm0).trans (zlf2 j zm0)
          refine lv_iinc (v := nI (k + 1)) (lv' := [(3, .int (nI (k + 1))), (0, .ref (ad q)), (1, .int (nI a)), (2, .int (nI b))]) hx hb dX8_mends_44 hl (k := 3) rfl (by rw [show Int32.ofInt 1 = nI 1 from rfl, nI_add]) (by decide) rfl (fun ls hl => ?_)
          refine lv_goto (tgt := 2) hx hb dX8_mends_47 (by decide) ?_
          exact zih2 (k + 1) (upd g 3 ((g 3) + (nI 0))) (by omega) (by omega) (by omega) (by rw [hg, upd2, upd_s, mdF_s _ _ hk1]; simp only [mend1]; first | (rw [if_pos ⟨zc23, by rw [hg, upd_s] at zc34; exact Int32.not_le.mp zc34⟩]; rfl) | (rw [if_neg (fun zq => Int32.not_le.mpr zq.2 (by rw [hg, upd_s] at zc34; exact zc34))]; rw [add_0]) | (rw [if_neg (fun zq => zc23 zq.1)]; rw [add_0])) _ _ _ zk2_0 zh2_0 zk2_1 (fun j zm0 => zfr2 j zm0) zw2 _ (lv_sub hl [1, 2, 3, 0] rfl)
        · refine lv_aload_n hx hb dX8_mends_26 rfl (lv_at hl 0 rfl) ?_
          refine r_get C zw1 RX8 TX8 17 5 hinX8 (i := q) (by omega) zl2_0 rfl 1 (by decide) (by decide +kernel) rfl (v := .ref (ad (q + 1))) rfl dX8_mends_27 ?_
          refine lv_iconst (v := nI 3) hx hb dX8_mends_30 rfl ?_
          refine r_iaN C zw1 (i := (q + 1)) (by omega) zl2_1 (j := 3) (by omega) (by omega) dX8_mends_31 ?_
          refine lv_ldc (v := 99999) hx hb hown (hts (.constant RX8 81 (99999)) (by decide +kernel)) dX8_mends_32 ?_
          refine r_nat 99999 rfl ?_
          refine lv_icmp_ge (tgt := 41) hx hb dX8_mends_34 (by decide) (fun zc34 => ?_) (fun zc34 => ?_)
          · refine lv_iconst (v := nI 0) hx hb dX8_mends_41 rfl ?_
            refine lv_iadd hx hb dX8_mends_42 ?_
            refine r_iasN C zw1 (i := (q + 1)) (by omega) zl2_1 (j := 3) (by omega) (by omega) dX8_mends_43 (fun zE3 zH3 zL3 zg3 zf3 zw3 => ?_)
            have zh3_0 : zE3 (q + 1) = eI G 508 (upd g 3 ((g 3) + (nI 0))) := zg3
            have zk3_0 : zE3 q = .inr (5, [.int th, .ref (ad (q + 1)), .long se, .ref (ad (q + 2)), .ref (ad (q + 3)), .int (nI co), .ref (ad (q + 4)), .int (nI pm), .ref (ad (q + 5)), .ref (ad (q + 6)), .ref (ad (q + 7)), .ref (ad (q + 8)), .int (nI em), .ref (ad (q + 9)), .ref (ad (q + 10)), .ref (ad (q + 11)), .ref (ad (q + 12))]) := (zf3 _ (by omega)).trans zl2_0
            have zk3_1 : zE3 (q + 2) = eI G 10 pt := (zf3 _ (by omega)).trans zl2_2
            have zfr3 : ∀ j, j ≠ (q + 1) → zE3 j = E j := fun j zm0 => (zf3 j zm0).trans (zlf2 j zm0)
            refine lv_iinc (v := nI (k + 1)) (lv' := [(3, .int (nI (k + 1))), (0, .ref (ad q)), (1, .int (nI a)), (2, .int (nI b))]) hx hb dX8_mends_44 hl (k := 3) rfl (by rw [show Int32.ofInt 1 = nI 1 from rfl, nI_add]) (by decide) rfl (fun ls hl => ?_)
            refine lv_goto (tgt := 2) hx hb dX8_mends_47 (by decide) ?_
            exact zih2 (k + 1) (upd g 3 ((g 3) + (nI 0))) (by omega) (by omega) (by omega) (by rw [hg, upd2, upd_s, mdF_s _ _ hk1]; simp only [mend1]; first | (rw [if_pos ⟨zc23, by rw [hg, upd_s] at zc34; exact Int32.not_le.mp zc34⟩]; rfl) | (rw [if_neg (fun zq => Int32.not_le.mpr zq.2 (by rw [hg, upd_s] at zc34; exact zc34))]; rw [add_0]) | (rw [if_neg (fun zq => zc23 zq.1)]; rw [add_0])) _ _ _ zk3_0 zh3_0 zk3_1 (fun j zm0 => zfr3 j zm0) zw3 _ (lv_sub hl [1, 2, 3, 0] rfl)
          · refine lv_iconst (v := nI 1) hx hb dX8_mends_37 rfl ?_
            refine lv_goto (tgt := 42) hx hb dX8_mends_38 (by decide) ?_
            refine lv_iadd hx hb dX8_mends_42 ?_
            refine r_iasN C zw1 (i := (q + 1)) (by omega) zl2_1 (j := 3) (by omega) (by omega) dX8_mends_43 (fun zE4 zH4 zL4 zg4 zf4 zw4 => ?_)
            have zh4_0 : zE4 (q + 1) = eI G 508 (upd g 3 ((g 3) + (nI 1))) := zg4
            have zk4_0 : zE4 q = .inr (5, [.int th, .ref (ad (q + 1)), .long se, .ref (ad (q + 2)), .ref (ad (q + 3)), .int (nI co), .ref (ad (q + 4)), .int (nI pm), .ref (ad (q + 5)), .ref (ad (q + 6)), .ref (ad (q + 7)), .ref (ad (q + 8)), .int (nI em), .ref (ad (q + 9)), .ref (ad (q + 10)), .ref (ad (q + 11)), .ref (ad (q + 12))]) := (zf4 _ (by omega)).trans zl2_0
            have zk4_1 : zE4 (q + 2) = eI G 10 pt := (zf4 _ (by omega)).trans zl2_2
            have zfr4 : ∀ j, j ≠ (q + 1) → zE4 j = E j := fun j zm0 => (zf4 j zm0).trans (zlf2 j zm0)
            refine lv_iinc (v := nI (k + 1)) (lv' := [(3, .int (nI (k + 1))), (0, .ref (ad q)), (1, .int (nI a)), (2, .int (nI b))]) hx hb dX8_mends_44 hl (k := 3) rfl (by rw [show Int32.ofInt 1 = nI 1 from rfl, nI_add]) (by decide) rfl (fun ls hl => ?_)
            refine lv_goto (tgt := 2) hx hb dX8_mends_47 (by decide) ?_
            exact zih2 (k + 1) (upd g 3 ((g 3) + (nI 1))) (by omega) (by omega) (by omega) (by rw [hg, upd2, upd_s, mdF_s _ _ hk1]; simp only [mend1]; first | (rw [if_pos ⟨zc23, by rw [hg, upd_s] at zc34; exact Int32.not_le.mp zc34⟩]; rfl) | (rw [if_neg (fun zq => Int32.not_le.mpr zq.2 (by rw [hg, upd_s] at zc34; exact zc34))]; rw [add_0]) | (rw [if_neg (fun zq => zc23 zq.1)]; rw [add_0])) _ _ _ zk4_0 zh4_0 zk4_1 (fun j zm0 => zfr4 j zm0) zw4 _ (lv_sub hl [1, 2, 3, 0] rfl)
  exact zlp2 _ a s (Nat.lt_succ_self _) (by omega) (by omega) (by rw [Nat.sub_self, mdF, upd_id]) _ _ _ hE0 hE1 hE2 (fun j _ => rfl) hw _ (lv_sub hl [1, 2, 3, 0] rfl)

set_option maxHeartbeats 4000000 in
set_option maxRecDepth 100000 in
theorem c_X8_number {l : Launch} {G : vG} {tC : Nat} {ad : Nat → Nat} {N : Nat} {E : Nat → va_E} {q co pm em : Nat} {th : Int32} {se : Int64} {pt : Nat → Int32} {pk : Nat → Nat} {k : Nat} (hN0 : q + 13 ≤ N) (hE0 : E q = .inr (5, [.int th, .ref (ad (q + 1)), .long se, .ref (ad (q + 2)), .ref (ad (q + 3)), .int (nI co), .ref (ad (q + 4)), .int (nI pm), .ref (ad (q + 5)), .ref (ad (q + 6)), .ref (ad (q + 7)), .ref (ad (q + 8)), .int (nI em), .ref (ad (q + 9)), .ref (ad (q + 10)), .ref (ad (q + 11)), .ref (ad (q + 12))])) (hE1 : E (q + 2) = eI G 10 pt) (hk : k < 10) (hpk : ∀ j, j < 10 → pt j = nI (pk j) ∧ pk j < 256) : MI l yX8_number wsX8_number ({ frames := 3, cells := 0, slots := 0, locals := 70 } : Room) G tC ad N E [.ref (ad q), .int (nI k)] (fun r E2 => E2 = E ∧ r = dec (pk k)) := by
  refine MI_of RX8 rfl (by decide) rfl (Nat.le_of_ble_eq_true rfl) ?_
  intro pp_ ee_ ss_ mm_ aa_ bb_ me_ cc_ A ls C hw hl
  have hx := C.1
  have hb := C.2.1
  have hown := C.2.2.2.2.1
  have hts := C.2.2.2.2.2.1
  have hl : lv_has ls 2 [(0, .ref (ad q)), (1, .int (nI k))] := hl
  have hinX8 : ∀ w ∈ u_ws RX8 TX8 17, w ∈ wsX8_number := by decide +kernel
  refine lv_aload_n hx hb dX8_number_0 rfl (lv_at hl 0 rfl) ?_
  refine r_get C hw RX8 TX8 17 5 hinX8 (i := q) (by omega) hE0 rfl 3 (by decide) (by decide +kernel) rfl (v := .ref (ad (q + 2))) rfl dX8_number_1 ?_
  refine lv_iload_n hx hb dX8_number_4 rfl (lv_at hl 1 rfl) ?_
  refine r_iaN C hw (i := (q + 2)) (by omega) hE1 (j := k) (by omega) (by omega) dX8_number_5 ?_
  refine r_nat (pk k) (hpk k hk).1 ?_
  refine r_sI C hw hl.1 [.int (nI (pk k))] 1 rfl (c_X8_numberOf (l := l) (G := G) (tC := tC) (ad := ad) (N := N) (E := E) (o := pk k)   (hpk k hk).2) gX8_number_X8_numberOf rfl ⟨rfl, rfl⟩ (by decide +kernel) ⟨Nat.le_of_ble_eq_true rfl, Nat.le_of_ble_eq_true rfl⟩ (rest := []) rfl (Nat.le_of_ble_eq_true rfl) dX8_number_6 ⟨Nat.zero_le _, Nat.zero_le _⟩ (fun zr1 zE1 zH1 zL1 zp1 zw1 => ?_)
  obtain ⟨ze1, zq1⟩ := zp1
  rw [ze1] at zw1
  clear ze1
  rw [zq1]
  exact r_iret C zw1 dX8_number_9 ⟨rfl, (by rfl)⟩

set_option maxHeartbeats 4000000 in
set_option maxRecDepth 100000 in
theorem c_X8_pageOf {l : Launch} {G : vG} {tC : Nat} {ad : Nat → Nat} {N : Nat} {E : Nat → va_E} {q co pm em : Nat} {th : Int32} {se : Int64} {pg : Nat} {s : Nat → Int32} {b n p9 : Int32} (hN0 : q + 13 ≤ N) (hE0 : E q = .inr (5, [.int th, .ref (ad (q + 1)), .long se, .ref (ad (q + 2)), .ref (ad (q + 3)), .int (nI co), .ref (ad (q + 4)), .int (nI pm), .ref (ad (q + 5)), .ref (ad (q + 6)), .ref (ad (q + 7)), .ref (ad (q + 8)), .int (nI em), .ref (ad (q + 9)), .ref (ad (q + 10)), .ref (ad (q + 11)), .ref (ad (q + 12))])) (hE1 : E (q + 1) = eI G 508 s) (hs0 : s 0 = nI pg) (hpg : pg ≤ 10) : MI l yX8_pageOf wsX8_pageOf ({ frames := 2, cells := 0, slots := 0, locals := 42 } : Room) G tC ad N E [.ref (ad q), .int b, .int n, .int p9] (fun r E2 => E2 = E ∧ r = fdI (srch (cel s) b n p9 pg 0) pg) := by
  refine MI_of RX8 rfl (by decide) rfl (Nat.le_of_ble_eq_true rfl) ?_
  intro pp_ ee_ ss_ mm_ aa_ bb_ me_ cc_ A ls C hw hl
  have hx := C.1
  have hb := C.2.1
  have hown := C.2.2.2.2.1
  have hts := C.2.2.2.2.2.1
  have hl : lv_has ls 5 [(0, .ref (ad q)), (1, .int b), (2, .int n), (3, .int p9)] := hl
  have hinX8 : ∀ w ∈ u_ws RX8 TX8 17, w ∈ wsX8_pageOf := by decide +kernel
  refine lv_iconst (v := nI 0) hx hb dX8_pageOf_0 rfl ?_
  refine lv_istore (lv' := [(4, .int (nI 0)), (0, .ref (ad q)), (1, .int b), (2, .int n), (3, .int p9)]) hx hb dX8_pageOf_1 hl (by decide) rfl (fun ls hl => ?_)
  have zlp3 : ∀ (zn : Nat) (k : Nat), pg - k < zn → (k ≤ pg) → (srch (cel s) b n p9 (pg - k) k = srch (cel s) b n p9 pg 0) → ∀ (H9 : Heap) (L9 : List Loc), Wd G A ss_.heap H9 L9 ad E N → ∀ (ls : Array Slot), lv_has ls 5 [(0, .ref (ad q)), (1, .int b), (2, .int n), (3, .int p9), (4, .int (nI k))] → W pp_ l ee_ ({ frames := 2, cells := 0, slots := 0, locals := 42 } : Room) ss_ mm_ aa_ bb_ me_ cc_ H9 L9 0 0 (QI bb_ aa_ ss_ G ad N A (fun r E2 => E2 = E ∧ r = fdI (srch (cel s) b n p9 pg 0) pg)) (F0 mm_ 3 ls []) := by
    intro zn
    induction zn with
    | zero => intro k zhm; exact absurd zhm (Nat.not_lt_zero _)
    | succ zn zih3 =>
      intro k zhm3 hk hr zH_3 zL_3 zlw3 ls hl
      refine lv_iload hx hb dX8_pageOf_3 (lv_at hl 4 rfl) ?_
      refine lv_aload_n hx hb dX8_pageOf_5 rfl (lv_at hl 0 rfl) ?_
      refine r_get C zlw3 RX8 TX8 17 5 hinX8 (i := q) (by omega) hE0 rfl 1 (by decide) (by decide +kernel) rfl (v := .ref (ad (q + 1))) rfl dX8_pageOf_6 ?_
      refine lv_iconst (v := nI 0) hx hb dX8_pageOf_9 rfl ?_
      refine r_iaN C zlw3 (i := (q + 1)) (by omega) hE1 (j := 0) (by omega) (by omega) dX8_pageOf_10 ?_
      refine r_nat pg hs0 ?_
      refine n_icmp_ge (tgt := 56) hx hb dX8_pageOf_11 (by decide) (by omega) (by omega) (fun zc11 => ?_) (fun zc11 => ?_)
      · refine lv_iconst (v := -1) hx hb dX8_pageOf_56 (by decide) ?_
        exact r_iret C zlw3 dX8_pageOf_57 ⟨rfl, (by rw [← hr, show pg - k = 0 by omega, srch, fdI, if_neg (by omega)])⟩
      · refine lv_aload_n hx hb dX8_pageOf_14 rfl (lv_at hl 0 rfl) ?_
        refine lv_iload hx hb dX8_pageOf_15 (lv_at hl 4 rfl) ?_
        refine lv_iconst (v := nI 0) hx hb dX8_pageOf_17 rfl ?_
        refine r_vI C zlw3 hl.1 (i := q) (by omega) hE0 (T := TX8) (n := 17) rfl [.int (nI k), .int (nI 0)] 2 rfl (c_X8_of (l := l) (G := G) (tC := tC) (ad := ad) (N := N) (E := E) (q := q) (co := co) (pm := pm) (em := em) (th := th) (se := se) (s := s) (k := k) (w := 0) (by omega) hE0 hE1 (by first | assumption | omega)) gX8_pageOf_X8_of rfl ⟨rfl, rfl⟩ (by decide +kernel) ⟨Nat.le_of_ble_eq_true rfl, Nat.le_of_ble_eq_true rfl⟩ (rest := []) rfl (Nat.le_of_ble_eq_true rfl) dX8_pageOf_18 ⟨Nat.zero_le _, Nat.zero_le _⟩ (fun zr1 zE1 zH1 zL1 zp1 zw1 => ?_)
        obtain ⟨ze1, zq1⟩ := zp1
        rw [ze1] at zw1
        clear ze1
        rw [zq1]
        refine lv_iload_n hx hb dX8_pageOf_21 rfl (lv_at hl 1 rfl) ?_
        refine lv_icmp_ne (tgt := 50) hx hb dX8_pageOf_22 (by decide) (fun zc22 => ?_) (fun zc22 => ?_)
        · refine lv_iinc (v := nI (k + 1)) (lv' := [(4, .int (nI (k + 1))), (0, .ref (ad q)), (1, .int b), (2, .int n), (3, .int p9)]) hx hb dX8_pageOf_50 hl (k := 4) rfl (by rw [show Int32.ofInt 1 = nI 1 from rfl, nI_add]) (by decide) rfl (fun ls hl => ?_)
          refine lv_goto (tgt := 3) hx hb dX8_pageOf_53 (by decide) ?_
          exact zih3 (k + 1) (by omega) (by omega) (by rw [← hr, srch_n (k := k) zc11 (fun zq => by first | exact zc22 zq.1 | exact zc33 zq.2.1 | exact zc44 zq.2.2)]) _ _ zw1 _ (lv_sub hl [1, 2, 3, 4, 0] rfl)
        · refine lv_aload_n hx hb dX8_pageOf_25 rfl (lv_at hl 0 rfl) ?_
          refine lv_iload hx hb dX8_pageOf_26 (lv_at hl 4 rfl) ?_
          refine lv_iconst (v := nI 1) hx hb dX8_pageOf_28 rfl ?_
          refine r_vI C zw1 hl.1 (i := q) (by omega) hE0 (T := TX8) (n := 17) rfl [.int (nI k), .int (nI 1)] 2 rfl (c_X8_of (l := l) (G := G) (tC := tC) (ad := ad) (N := N) (E := E) (q := q) (co := co) (pm := pm) (em := em) (th := th) (se := se) (s := s) (k := k) (w := 1) (by omega) hE0 hE1 (by first | assumption | omega)) gX8_pageOf_X8_of rfl ⟨rfl, rfl⟩ (by decide +kernel) ⟨Nat.le_of_ble_eq_true rfl, Nat.le_of_ble_eq_true rfl⟩ (rest := []) rfl (Nat.le_of_ble_eq_true rfl) dX8_pageOf_29 ⟨Nat.zero_le _, Nat.zero_le _⟩ (fun zr2 zE2 zH2 zL2 zp2 zw2 => ?_)
          obtain ⟨ze2, zq2⟩ := zp2
          rw [ze2] at zw2
          clear ze2
          rw [zq2]
          refine lv_iload_n hx hb dX8_pageOf_32 rfl (lv_at hl 2 rfl) ?_
          refine lv_icmp_ne (tgt := 50) hx hb dX8_pageOf_33 (by decide) (fun zc33 => ?_) (fun zc33 => ?_)
          · refine lv_iinc (v := nI (k + 1)) (lv' := [(4, .int (nI (k + 1))), (0, .ref (ad q)), (1, .int b), (2, .int n), (3, .int p9)]) hx hb dX8_pageOf_50 hl (k := 4) rfl (by rw [show Int32.ofInt 1 = nI 1 from rfl, nI_add]) (by decide) rfl (fun ls hl => ?_)
            refine lv_goto (tgt := 3) hx hb dX8_pageOf_53 (by decide) ?_
            exact zih3 (k + 1) (by omega) (by omega) (by rw [← hr, srch_n (k := k) zc11 (fun zq => by first | exact zc22 zq.1 | exact zc33 zq.2.1 | exact zc44 zq.2.2)]) _ _ zw2 _ (lv_sub hl [1, 2, 3, 4, 0] rfl)
          · refine lv_aload_n hx hb dX8_pageOf_36 rfl (lv_at hl 0 rfl) ?_
            refine lv_iload hx hb dX8_pageOf_37 (lv_at hl 4 rfl) ?_
            refine lv_iconst (v := nI 2) hx hb dX8_pageOf_39 rfl ?_
            refine r_vI C zw2 hl.1 (i := q) (by omega) hE0 (T := TX8) (n := 17) rfl [.int (nI k), .int (nI 2)] 2 rfl (c_X8_of (l := l) (G := G) (tC := tC) (ad := ad) (N := N) (E := E) (q := q) (co := co) (pm := pm) (em := em) (th := th) (se := se) (s := s) (k := k) (w := 2) (by omega) hE0 hE1 (by first | assumption | omega)) gX8_pageOf_X8_of rfl ⟨rfl, rfl⟩ (by decide +kernel) ⟨Nat.le_of_ble_eq_true rfl, Nat.le_of_ble_eq_true rfl⟩ (rest := []) rfl (Nat.le_of_ble_eq_true rfl) dX8_pageOf_40 ⟨Nat.zero_le _, Nat.zero_le _⟩ (fun zr3 zE3 zH3 zL3 zp3 zw3 => ?_)
            obtain ⟨ze3, zq3⟩ := zp3
            rw [ze3] at zw3
            clear ze3
            rw [zq3]
            refine lv_iload_n hx hb dX8_pageOf_43 rfl (lv_at hl 3 rfl) ?_
            refine lv_icmp_ne (tgt := 50) hx hb dX8_pageOf_44 (by decide) (fun zc44 => ?_) (fun zc44 => ?_)
            · refine lv_iinc (v := nI (k + 1)) (lv' := [(4, .int (nI (k + 1))), (0, .ref (ad q)), (1, .int b), (2, .int n), (3, .int p9)]) hx hb dX8_pageOf_50 hl (k := 4) rfl (by rw [show Int32.ofInt 1 = nI 1 from rfl, nI_add]) (by decide) rfl (fun ls hl => ?_)
              refine lv_goto (tgt := 3) hx hb dX8_pageOf_53 (by decide) ?_
              exact zih3 (k + 1) (by omega) (by omega) (by rw [← hr, srch_n (k := k) zc11 (fun zq => by first | exact zc22 zq.1 | exact zc33 zq.2.1 | exact zc44 zq.2.2)]) _ _ zw3 _ (lv_sub hl [1, 2, 3, 4, 0] rfl)
            · refine lv_iload hx hb dX8_pageOf_47 (lv_at hl 4 rfl) ?_
              exact r_iret C zw3 dX8_pageOf_49 ⟨rfl, (by rw [← hr, srch_y (k := k) zc11 ⟨zc22, zc33, zc44⟩, fdI, if_pos (by omega)])⟩
  exact zlp3 _ 0 (Nat.lt_succ_self _) (by omega) (by rfl) _ _ hw _ (lv_sub hl [1, 2, 3, 4, 0] rfl)

set_option maxHeartbeats 4000000 in
set_option maxRecDepth 100000 in
theorem c_X8_goes {l : Launch} {G : vG} {tC : Nat} {ad : Nat → Nat} {N : Nat} {E : Nat → va_E} {q co pm em : Nat} {th : Int32} {se : Int64} {pg : Nat} {s : Nat → Int32} {page : Nat} (hN0 : q + 13 ≤ N) (hE0 : E q = .inr (5, [.int th, .ref (ad (q + 1)), .long se, .ref (ad (q + 2)), .ref (ad (q + 3)), .int (nI co), .ref (ad (q + 4)), .int (nI pm), .ref (ad (q + 5)), .ref (ad (q + 6)), .ref (ad (q + 7)), .ref (ad (q + 8)), .int (nI em), .ref (ad (q + 9)), .ref (ad (q + 10)), .ref (ad (q + 11)), .ref (ad (q + 12))])) (hE1 : E (q + 1) = eI G 508 s) (hs0 : s 0 = nI pg) (hpg : pg ≤ 10) (hp : page < pg) : MV l yX8_goes wsX8_goes ({ frames := 1, cells := 0, slots := 0, locals := 20 } : Room) G tC ad N E [.ref (ad q), .int (nI page)] (fun E2 => E2 (q + 1) = eI G 508 (goesF s pg page) ∧ (∀ j, j ≠ (q + 1) → E2 j = E j)) := by
  refine MV_of RX8 rfl (by decide) rfl (Nat.le_of_ble_eq_true rfl) ?_
  intro pp_ ee_ ss_ mm_ aa_ bb_ me_ cc_ A ls C hw hl
  have hx := C.1
  have hb := C.2.1
  have hown := C.2.2.2.2.1
  have hts := C.2.2.2.2.2.1
  have hl : lv_has ls 4 [(0, .ref (ad q)), (1, .int (nI page))] := hl
  have hinX8 : ∀ w ∈ u_ws RX8 TX8 17, w ∈ wsX8_goes := by decide +kernel
  refine lv_iload_n hx hb dX8_goes_0 rfl (lv_at hl 1 rfl) ?_
  refine r_sI C hw hl.1 [.int (nI page)] 1 rfl (c_X8_at (l := l) (G := G) (tC := tC) (ad := ad) (N := N) (E := E) (k := page)   ) gX8_goes_X8_at rfl ⟨rfl, rfl⟩ (by decide +kernel) ⟨Nat.le_of_ble_eq_true rfl, Nat.le_of_ble_eq_true rfl⟩ (rest := []) rfl (Nat.le_of_ble_eq_true rfl) dX8_goes_1 ⟨Nat.zero_le _, Nat.zero_le _⟩ (fun zr1 zE1 zH1 zL1 zp1 zw1 => ?_)
  obtain ⟨ze1, zq1⟩ := zp1
  rw [ze1] at zw1
  clear ze1
  rw [zq1]
  refine lv_istore_n (lv' := [(2, .int (nI (8 + 50 * page))), (0, .ref (ad q)), (1, .int (nI page))]) hx hb dX8_goes_4 rfl hl (by decide) rfl (fun ls hl => ?_)
  have zlp5 : ∀ (zn : Nat) (i : Nat) (g : Nat → Int32), 8 + 50 * pg - i < zn → (8 + 50 * page ≤ i) → (i ≤ 8 + 50 * (pg - 1)) → (g = shF s (8 + 50 * page) i) → ∀ (E9 : Nat → va_E) (H9 : Heap) (L9 : List Loc), E9 q = .inr (5, [.int th, .ref (ad (q + 1)), .long se, .ref (ad (q + 2)), .ref (ad (q + 3)), .int (nI co), .ref (ad (q + 4)), .int (nI pm), .ref (ad (q + 5)), .ref (ad (q + 6)), .ref (ad (q + 7)), .ref (ad (q + 8)), .int (nI em), .ref (ad (q + 9)), .ref (ad (q + 10)), .ref (ad (q + 11)), .ref (ad (q + 12))]) → E9 (q + 1) = eI G 508 g → (∀ j, j ≠ (q + 1) → E9 j = E j) → Wd G A ss_.heap H9 L9 ad E9 N → ∀ (ls : Array Slot), lv_has ls 4 [(0, .ref (ad q)), (1, .int (nI page)), (2, .int (nI i))] → W pp_ l ee_ ({ frames := 1, cells := 0, slots := 0, locals := 20 } : Room) ss_ mm_ aa_ bb_ me_ cc_ H9 L9 0 0 (QV bb_ aa_ ss_ G ad N A (fun E2 => E2 (q + 1) = eI G 508 (goesF s pg page) ∧ (∀ j, j ≠ (q + 1) → E2 j = E j))) (F0 mm_ 5 ls []) := by
    intro zn
    induction zn with
    | zero => intro i g zhm; exact absurd zhm (Nat.not_lt_zero _)
    | succ zn zih5 =>
      intro i g zhm5 hi1 hi2 hg zE_5 zH_5 zL_5 zl5_0 zl5_1 zlf5  zlw5 ls hl
      refine lv_iload_n hx hb dX8_goes_5 rfl (lv_at hl 2 rfl) ?_
      refine lv_aload_n hx hb dX8_goes_6 rfl (lv_at hl 0 rfl) ?_
      refine r_get C zlw5 RX8 TX8 17 5 hinX8 (i := q) (by omega) zl5_0 rfl 1 (by decide) (by decide +kernel) rfl (v := .ref (ad (q + 1))) rfl dX8_goes_7 ?_
      refine lv_iconst (v := nI 0) hx hb dX8_goes_10 rfl ?_
      refine r_iaN C zlw5 (i := (q + 1)) (by omega) zl5_1 (j := 0) (by omega) (by omega) dX8_goes_11 ?_
      refine r_nat pg (by rw [hg, shF_lo _ (by omega)]; exact hs0) ?_
      refine lv_iconst (v := nI 1) hx hb dX8_goes_12 rfl ?_
      refine lv_isub hx hb dX8_goes_13 ?_
      refine r_nat (pg - 1) (pk_sub (by omega)) ?_
      refine r_sI C zlw5 hl.1 [.int (nI (pg - 1))] 1 rfl (c_X8_at (l := l) (G := G) (tC := tC) (ad := ad) (N := N) (E := zE_5) (k := pg - 1)   ) gX8_goes_X8_at rfl ⟨rfl, rfl⟩ (by decide +kernel) ⟨Nat.le_of_ble_eq_true rfl, Nat.le_of_ble_eq_true rfl⟩ (rest := [.int (nI i)]) rfl (Nat.le_of_ble_eq_true rfl) dX8_goes_14 ⟨Nat.zero_le _, Nat.zero_le _⟩ (fun zr2 zE2 zH2 zL2 zp2 zw2 => ?_)
      obtain ⟨ze2, zq2⟩ := zp2
      rw [ze2] at zw2
      clear ze2
      rw [zq2]
      refine n_icmp_ge (tgt := 41) hx hb dX8_goes_17 (by decide) (by omega) (by omega) (fun zc17 => ?_) (fun zc17 => ?_)
      · refine lv_aload_n hx hb dX8_goes_41 rfl (lv_at hl 0 rfl) ?_
        refine r_get C zw2 RX8 TX8 17 5 hinX8 (i := q) (by omega) zl5_0 rfl 1 (by decide) (by decide +kernel) rfl (v := .ref (ad (q + 1))) rfl dX8_goes_42 ?_
        refine lv_iconst (v := nI 0) hx hb dX8_goes_45 rfl ?_
        refine lv_dup2_11 hx hb dX8_goes_46 rfl rfl ?_
        refine r_iaN C zw2 (i := (q + 1)) (by omega) zl5_1 (j := 0) (by omega) (by omega) dX8_goes_47 ?_
        refine r_nat pg (by rw [hg, shF_lo _ (by omega)]; exact hs0) ?_
        refine lv_iconst (v := nI 1) hx hb dX8_goes_48 rfl ?_
        refine lv_isub hx hb dX8_goes_49 ?_
        refine r_nat (pg - 1) (pk_sub (by omega)) ?_
        refine r_iasN C zw2 (i := (q + 1)) (by omega) zl5_1 (j := 0) (by omega) (by omega) dX8_goes_50 (fun zE3 zH3 zL3 zg3 zf3 zw3 => ?_)
        have zh3_0 : zE3 (q + 1) = eI G 508 (upd g 0 (nI (pg - 1))) := zg3
        have zk3_0 : zE3 q = .inr (5, [.int th, .ref (ad (q + 1)), .long se, .ref (ad (q + 2)), .ref (ad (q + 3)), .int (nI co), .ref (ad (q + 4)), .int (nI pm), .ref (ad (q + 5)), .ref (ad (q + 6)), .ref (ad (q + 7)), .ref (ad (q + 8)), .int (nI em), .ref (ad (q + 9)), .ref (ad (q + 10)), .ref (ad (q + 11)), .ref (ad (q + 12))]) := (zf3 _ (by omega)).trans zl5_0
        have zfr3 : ∀ j, j ≠ (q + 1) → zE3 j = E j := fun j zm0 => (zf3 j zm0).trans (zlf5 j zm0)
        refine lv_iconst (v := nI 0) hx hb dX8_goes_51 rfl ?_
        refine lv_istore_n (lv' := [(2, .int (nI 0)), (0, .ref (ad q)), (1, .int (nI page))]) hx hb dX8_goes_52 rfl hl (by decide) rfl (fun ls hl => ?_)
        have zlp53 : ∀ (zn : Nat) (b : Nat) (h : Nat → Int32), 4 - b < zn → (b ≤ 4) → (h = shP (upd (shF s (8 + 50 * page) (8 + 50 * (pg - 1))) 0 (nI (pg - 1))) page b) → ∀ (E9 : Nat → va_E) (H9 : Heap) (L9 : List Loc), E9 q = .inr (5, [.int th, .ref (ad (q + 1)), .long se, .ref (ad (q + 2)), .ref (ad (q + 3)), .int (nI co), .ref (ad (q + 4)), .int (nI pm), .ref (ad (q + 5)), .ref (ad (q + 6)), .ref (ad (q + 7)), .ref (ad (q + 8)), .int (nI em), .ref (ad (q + 9)), .ref (ad (q + 10)), .ref (ad (q + 11)), .ref (ad (q + 12))]) → E9 (q + 1) = eI G 508 h → (∀ j, j ≠ (q + 1) → E9 j = E j) → Wd G A ss_.heap H9 L9 ad E9 N → ∀ (ls : Array Slot), lv_has ls 4 [(0, .ref (ad q)), (1, .int (nI page)), (2, .int (nI b))] → W pp_ l ee_ ({ frames := 1, cells := 0, slots := 0, locals := 20 } : Room) ss_ mm_ aa_ bb_ me_ cc_ H9 L9 0 0 (QV bb_ aa_ ss_ G ad N A (fun E2 => E2 (q + 1) = eI G 508 (goesF s pg page) ∧ (∀ j, j ≠ (q + 1) → E2 j = E j))) (F0 mm_ 53 ls []) := by
          intro zn
          induction zn with
          | zero => intro b h zhm; exact absurd zhm (Nat.not_lt_zero _)
          | succ zn zih53 =>
            intro b h zhm53 hb4 hh zE_53 zH_53 zL_53 zl53_0 zl53_1 zlf53  zlw53 ls hl
            refine lv_iload_n hx hb dX8_goes_53 rfl (lv_at hl 2 rfl) ?_
            refine lv_iconst (v := nI 4) hx hb dX8_goes_54 rfl ?_
            refine n_icmp_ge (tgt := 102) hx hb dX8_goes_55 (by decide) (by omega) (by omega) (fun zc55 => ?_) (fun zc55 => ?_)
            · exact r_vret C zlw53 dX8_goes_102 ⟨(zl53_1.trans (by rw [hh, show b = 4 by omega]; rfl)), (fun j zm0 => zlf53 j zm0)⟩
            · refine lv_aload_n hx hb dX8_goes_58 rfl (lv_at hl 0 rfl) ?_
              refine r_get C zlw53 RX8 TX8 17 5 hinX8 (i := q) (by omega) zl53_0 rfl 1 (by decide) (by decide +kernel) rfl (v := .ref (ad (q + 1))) rfl dX8_goes_59 ?_
              refine lv_iconst (v := nI 4) hx hb dX8_goes_62 rfl ?_
              refine lv_iload_n hx hb dX8_goes_63 rfl (lv_at hl 2 rfl) ?_
              refine lv_iadd hx hb dX8_goes_64 ?_
              refine r_nat (4 + b) (nI_add _ _) ?_
              refine r_iaN C zlw53 (i := (q + 1)) (by omega) zl53_1 (j := 4 + b) (by omega) (by omega) dX8_goes_65 ?_
              refine lv_istore_n (lv' := [(3, .int (h (4 + b))), (0, .ref (ad q)), (1, .int (nI page)), (2, .int (nI b))]) hx hb dX8_goes_66 rfl hl (by decide) rfl (fun ls hl => ?_)
              refine lv_aload_n hx hb dX8_goes_67 rfl (lv_at hl 1 rfl) ?_
              refine r_get C zlw53 RX8 TX8 17 5 hinX8 (i := q) (by omega) zl53_0 rfl 1 (by decide) (by decide +kernel) rfl (v := .ref (ad (q + 1))) rfl dX8_goes_68 ?_
              refine lv_iconst (v := nI 4) hx hb dX8_goes_71 rfl ?_
              refine lv_iload_n hx hb dX8_goes_72 rfl (lv_at hl 3 rfl) ?_
              refine lv_iadd hx hb dX8_goes_73 ?_
              refine r_nat (4 + b) (nI_add _ _) ?_
              refine lv_iload_n hx hb dX8_goes_74 rfl (lv_at hl 0 rfl) ?_
              refine lv_iload_n hx hb dX8_goes_75 rfl (lv_at hl 2 rfl) ?_
              refine lv_icmp_ne (tgt := 83) hx hb dX8_goes_76 (by decide) (fun zc76 => ?_) (fun zc76 => ?_)
              · refine lv_iload_n hx hb dX8_goes_83 rfl (lv_at hl 0 rfl) ?_
                refine lv_iload_n hx hb dX8_goes_84 rfl (lv_at hl 2 rfl) ?_
                refine lv_icmp_le (tgt := 94) hx hb dX8_goes_85 (by decide) (fun zc85 => ?_) (fun zc85 => ?_)
                · refine lv_iload_n hx hb dX8_goes_94 rfl (lv_at hl 0 rfl) ?_
                  refine r_iasN C zlw53 (i := (q + 1)) (by omega) zl53_1 (j := 4 + b) (by omega) (by omega) dX8_goes_95 (fun zE4 zH4 zL4 zg4 zf4 zw4 => ?_)
                  have zh4_0 : zE4 (q + 1) = eI G 508 (upd h (4 + b) (h (4 + b))) := zg4
                  have zk4_0 : zE4 q = .inr (5, [.int th, .ref (ad (q + 1)), .long se, .ref (ad (q + 2)), .ref (ad (q + 3)), .int (nI co), .ref (ad (q + 4)), .int (nI pm), .ref (ad (q + 5)), .ref (ad (q + 6)), .ref (ad (q + 7)), .ref (ad (q + 8)), .int (nI em), .ref (ad (q + 9)), .ref (ad (q + 10)), .ref (ad (q + 11)), .ref (ad (q + 12))]) := (zf4 _ (by omega)).trans zl53_0
                  have zfr4 : ∀ j, j ≠ (q + 1) → zE4 j = E j := fun j zm0 => (zf4 j zm0).trans (zlf53 j zm0)
                  refine lv_iinc (v := nI (b + 1)) (lv' := [(2, .int (nI (b + 1))), (3, .int (h (4 + b))), (0, .ref (ad q)), (1, .int (nI page))]) hx hb dX8_goes_96 hl (k := 3) rfl (by rw [show Int32.ofInt 1 = nI 1 from rfl, nI_add]) (by decide) rfl (fun ls hl => ?_)
                  refine lv_goto (tgt := 53) hx hb dX8_goes_99 (by decide) ?_
                  exact zih53 (b + 1) (upd h (4 + b) (h (4 + b))) (by omega) (by omega) (by rw [hh]; exact shP_s _ _ _ (by simp only [shO, hh, shP_g]; rw [hh, shP_g] at zc76; first | rw [if_pos zc76] | (rw [if_neg zc76, if_pos (by rw [hh, shP_g] at zc85; exact Int32.not_le.mp zc85)]; rfl) | rw [if_neg zc76, if_neg (by rw [hh, shP_g] at zc85; exact Int32.not_lt.mpr zc85)])) _ _ _ zk4_0 zh4_0 (fun j zm0 => zfr4 j zm0) zw4 _ (lv_sub hl [2, 3, 0] rfl)
                · refine lv_iload_n hx hb dX8_goes_88 rfl (lv_at hl 0 rfl) ?_
                  refine lv_iconst (v := nI 1) hx hb dX8_goes_89 rfl ?_
                  refine lv_isub hx hb dX8_goes_90 ?_
                  refine lv_goto (tgt := 95) hx hb dX8_goes_91 (by decide) ?_
                  refine r_iasN C zlw53 (i := (q + 1)) (by omega) zl53_1 (j := 4 + b) (by omega) (by omega) dX8_goes_95 (fun zE5 zH5 zL5 zg5 zf5 zw5 => ?_)
                  have zh5_0 : zE5 (q + 1) = eI G 508 (upd h (4 + b) ((h (4 + b)) - (nI 1))) := zg5
                  have zk5_0 : zE5 q = .inr (5, [.int th, .ref (ad (q + 1)), .long se, .ref (ad (q + 2)), .ref (ad (q + 3)), .int (nI co), .ref (ad (q + 4)), .int (nI pm), .ref (ad (q + 5)), .ref (ad (q + 6)), .ref (ad (q + 7)), .ref (ad (q + 8)), .int (nI em), .ref (ad (q + 9)), .ref (ad (q + 10)), .ref (ad (q + 11)), .ref (ad (q + 12))]) := (zf5 _ (by omega)).trans zl53_0
                  have zfr5 : ∀ j, j ≠ (q + 1) → zE5 j = E j := fun j zm0 => (zf5 j zm0).trans (zlf53 j zm0)
                  refine lv_iinc (v := nI (b + 1)) (lv' := [(2, .int (nI (b + 1))), (3, .int (h (4 + b))), (0, .ref (ad q)), (1, .int (nI page))]) hx hb dX8_goes_96 hl (k := 3) rfl (by rw [show Int32.ofInt 1 = nI 1 from rfl, nI_add]) (by decide) rfl (fun ls hl => ?_)
                  refine lv_goto (tgt := 53) hx hb dX8_goes_99 (by decide) ?_
                  exact zih53 (b + 1) (upd h (4 + b) ((h (4 + b)) - (nI 1))) (by omega) (by omega) (by rw [hh]; exact shP_s _ _ _ (by simp only [shO, hh, shP_g]; rw [hh, shP_g] at zc76; first | rw [if_pos zc76] | (rw [if_neg zc76, if_pos (by rw [hh, shP_g] at zc85; exact Int32.not_le.mp zc85)]; rfl) | rw [if_neg zc76, if_neg (by rw [hh, shP_g] at zc85; exact Int32.not_lt.mpr zc85)])) _ _ _ zk5_0 zh5_0 (fun j zm0 => zfr5 j zm0) zw5 _ (lv_sub hl [2, 3, 0] rfl)
              · refine lv_iconst (v := -1) hx hb dX8_goes_79 (by decide) ?_
                refine lv_goto (tgt := 95) hx hb dX8_goes_80 (by decide) ?_
                refine r_iasN C zlw53 (i := (q + 1)) (by omega) zl53_1 (j := 4 + b) (by omega) (by omega) dX8_goes_95 (fun zE6 zH6 zL6 zg6 zf6 zw6 => ?_)
                have zh6_0 : zE6 (q + 1) = eI G 508 (upd h (4 + b) (-1)) := zg6
                have zk6_0 : zE6 q = .inr (5, [.int th, .ref (ad (q + 1)), .long se, .ref (ad (q + 2)), .ref (ad (q + 3)), .int (nI co), .ref (ad (q + 4)), .int (nI pm), .ref (ad (q + 5)), .ref (ad (q + 6)), .ref (ad (q + 7)), .ref (ad (q + 8)), .int (nI em), .ref (ad (q + 9)), .ref (ad (q + 10)), .ref (ad (q + 11)), .ref (ad (q + 12))]) := (zf6 _ (by omega)).trans zl53_0
                have zfr6 : ∀ j, j ≠ (q + 1) → zE6 j = E j := fun j zm0 => (zf6 j zm0).trans (zlf53 j zm0)
                refine lv_iinc (v := nI (b + 1)) (lv' := [(2, .int (nI (b + 1))), (3, .int (h (4 + b))), (0, .ref (ad q)), (1, .int (nI page))]) hx hb dX8_goes_96 hl (k := 3) rfl (by rw [show Int32.ofInt 1 = nI 1 from rfl, nI_add]) (by decide) rfl (fun ls hl => ?_)
                refine lv_goto (tgt := 53) hx hb dX8_goes_99 (by decide) ?_
                exact zih53 (b + 1) (upd h (4 + b) (-1)) (by omega) (by omega) (by rw [hh]; exact shP_s _ _ _ (by simp only [shO, hh, shP_g]; rw [hh, shP_g] at zc76; first | rw [if_pos zc76] | (rw [if_neg zc76, if_pos (by rw [hh, shP_g] at zc85; exact Int32.not_le.mp zc85)]; rfl) | rw [if_neg zc76, if_neg (by rw [hh, shP_g] at zc85; exact Int32.not_lt.mpr zc85)])) _ _ _ zk6_0 zh6_0 (fun j zm0 => zfr6 j zm0) zw6 _ (lv_sub hl [2, 3, 0] rfl)
        exact zlp53 _ 0 (upd g 0 (nI (pg - 1))) (Nat.lt_succ_self _) (by omega) (by rw [shP_0, hg, show i = 8 + 50 * (pg - 1) by omega]) _ _ _ zk3_0 zh3_0 (fun j zm0 => zfr3 j zm0) zw3 _ (lv_sub hl [1, 2, 0] rfl)
      · refine lv_aload_n hx hb dX8_goes_20 rfl (lv_at hl 0 rfl) ?_
        refine r_get C zw2 RX8 TX8 17 5 hinX8 (i := q) (by omega) zl5_0 rfl 1 (by decide) (by decide +kernel) rfl (v := .ref (ad (q + 1))) rfl dX8_goes_21 ?_
        refine lv_iload_n hx hb dX8_goes_24 rfl (lv_at hl 2 rfl) ?_
        refine lv_aload_n hx hb dX8_goes_25 rfl (lv_at hl 0 rfl) ?_
        refine r_get C zw2 RX8 TX8 17 5 hinX8 (i := q) (by omega) zl5_0 rfl 1 (by decide) (by decide +kernel) rfl (v := .ref (ad (q + 1))) rfl dX8_goes_26 ?_
        refine lv_iload_n hx hb dX8_goes_29 rfl (lv_at hl 2 rfl) ?_
        refine lv_bipush (v := nI 50) hx hb dX8_goes_30 rfl ?_
        refine lv_iadd hx hb dX8_goes_32 ?_
        refine r_nat (i + 50) (nI_add _ _) ?_
        refine r_iaN C zw2 (i := (q + 1)) (by omega) zl5_1 (j := i + 50) (by omega) (by omega) dX8_goes_33 ?_
        refine r_iasN C zw2 (i := (q + 1)) (by omega) zl5_1 (j := i) (by omega) (by omega) dX8_goes_34 (fun zE7 zH7 zL7 zg7 zf7 zw7 => ?_)
        have zh7_0 : zE7 (q + 1) = eI G 508 (upd g i (g (i + 50))) := zg7
        have zk7_0 : zE7 q = .inr (5, [.int th, .ref (ad (q + 1)), .long se, .ref (ad (q + 2)), .ref (ad (q + 3)), .int (nI co), .ref (ad (q + 4)), .int (nI pm), .ref (ad (q + 5)), .ref (ad (q + 6)), .ref (ad (q + 7)), .ref (ad (q + 8)), .int (nI em), .ref (ad (q + 9)), .ref (ad (q + 10)), .ref (ad (q + 11)), .ref (ad (q + 12))]) := (zf7 _ (by omega)).trans zl5_0
        have zfr7 : ∀ j, j ≠ (q + 1) → zE7 j = E j := fun j zm0 => (zf7 j zm0).trans (zlf5 j zm0)
        refine lv_iinc (v := nI (i + 1)) (lv' := [(2, .int (nI (i + 1))), (0, .ref (ad q)), (1, .int (nI page))]) hx hb dX8_goes_35 hl (k := 2) rfl (by rw [show Int32.ofInt 1 = nI 1 from rfl, nI_add]) (by decide) rfl (fun ls hl => ?_)
        refine lv_goto (tgt := 5) hx hb dX8_goes_38 (by decide) ?_
        exact zih5 (i + 1) (upd g i (g (i + 50))) (by omega) (by omega) (by omega) (by rw [hg]; exact shF_s s hi1) _ _ _ zk7_0 zh7_0 (fun j zm0 => zfr7 j zm0) zw7 _ (lv_sub hl [1, 2, 0] rfl)
  exact zlp5 _ (8 + 50 * page) s (Nat.lt_succ_self _) (by omega) (by omega) (by exact (shF_0 _ _).symm) _ _ _ hE0 hE1 (fun j _ => rfl) zw1 _ (lv_sub hl [1, 2, 0] rfl)

set_option maxHeartbeats 4000000 in
set_option maxRecDepth 100000 in
theorem c_X8_oldest {l : Launch} {G : vG} {tC : Nat} {ad : Nat → Nat} {N : Nat} {E : Nat → va_E} {q co pm em : Nat} {th : Int32} {se : Int64} {pg : Nat} {s : Nat → Int32} (hN0 : q + 13 ≤ N) (hE0 : E q = .inr (5, [.int th, .ref (ad (q + 1)), .long se, .ref (ad (q + 2)), .ref (ad (q + 3)), .int (nI co), .ref (ad (q + 4)), .int (nI pm), .ref (ad (q + 5)), .ref (ad (q + 6)), .ref (ad (q + 7)), .ref (ad (q + 8)), .int (nI em), .ref (ad (q + 9)), .ref (ad (q + 10)), .ref (ad (q + 11)), .ref (ad (q + 12))])) (hE1 : E (q + 1) = eI G 508 s) (hs0 : s 0 = nI pg) (hpg : pg ≤ 10) (hp1 : 1 ≤ pg) : MI l yX8_oldest wsX8_oldest ({ frames := 2, cells := 0, slots := 0, locals := 42 } : Room) G tC ad N E [.ref (ad q)] (fun r E2 => E2 = E ∧ r = nI (oldS (latF s) (pg - 1))) := by
  refine MI_of RX8 rfl (by decide) rfl (Nat.le_of_ble_eq_true rfl) ?_
  intro pp_ ee_ ss_ mm_ aa_ bb_ me_ cc_ A ls C hw hl
  have hx := C.1
  have hb := C.2.1
  have hown := C.2.2.2.2.1
  have hts := C.2.2.2.2.2.1
  have hl : lv_has ls 3 [(0, .ref (ad q))] := hl
  have hinX8 : ∀ w ∈ u_ws RX8 TX8 17, w ∈ wsX8_oldest := by decide +kernel
  refine lv_iconst (v := nI 0) hx hb dX8_oldest_0 rfl ?_
  refine lv_istore_n (lv' := [(1, .int (nI 0)), (0, .ref (ad q))]) hx hb dX8_oldest_1 rfl hl (by decide) rfl (fun ls hl => ?_)
  refine lv_iconst (v := nI 1) hx hb dX8_oldest_2 rfl ?_
  refine lv_istore_n (lv' := [(2, .int (nI 1)), (1, .int (nI 0)), (0, .ref (ad q))]) hx hb dX8_oldest_3 rfl hl (by decide) rfl (fun ls hl => ?_)
  have zlp4 : ∀ (zn : Nat) (k w : Nat), pg - k < zn → (1 ≤ k) → (k ≤ pg) → (w = oldS (latF s) (k - 1)) → (w < k) → ∀ (H9 : Heap) (L9 : List Loc), Wd G A ss_.heap H9 L9 ad E N → ∀ (ls : Array Slot), lv_has ls 3 [(0, .ref (ad q)), (1, .int (nI w)), (2, .int (nI k))] → W pp_ l ee_ ({ frames := 2, cells := 0, slots := 0, locals := 42 } : Room) ss_ mm_ aa_ bb_ me_ cc_ H9 L9 0 0 (QI bb_ aa_ ss_ G ad N A (fun r E2 => E2 = E ∧ r = nI (oldS (latF s) (pg - 1)))) (F0 mm_ 4 ls []) := by
    intro zn
    induction zn with
    | zero => intro k w zhm; exact absurd zhm (Nat.not_lt_zero _)
    | succ zn zih4 =>
      intro k w zhm4 hk1 hk2 hw hwl zH_4 zL_4 zlw4 ls hl
      refine lv_iload_n hx hb dX8_oldest_4 rfl (lv_at hl 2 rfl) ?_
      refine lv_aload_n hx hb dX8_oldest_5 rfl (lv_at hl 0 rfl) ?_
      refine r_get C zlw4 RX8 TX8 17 5 hinX8 (i := q) (by omega) hE0 rfl 1 (by decide) (by decide +kernel) rfl (v := .ref (ad (q + 1))) rfl dX8_oldest_6 ?_
      refine lv_iconst (v := nI 0) hx hb dX8_oldest_9 rfl ?_
      have hw9 := hw
      refine r_iaN C zlw4 (i := (q + 1)) (by omega) hE1 (j := 0) (by omega) (by omega) dX8_oldest_10 ?_
      refine r_nat pg hs0 ?_
      refine n_icmp_ge (tgt := 41) hx hb dX8_oldest_11 (by decide) (by omega) (by omega) (fun zc11 => ?_) (fun zc11 => ?_)
      · refine lv_iload_n hx hb dX8_oldest_41 rfl (lv_at hl 1 rfl) ?_
        exact r_iret C zlw4 dX8_oldest_42 ⟨rfl, (by rw [hw, show k = pg by omega])⟩
      · refine lv_aload_n hx hb dX8_oldest_14 rfl (lv_at hl 0 rfl) ?_
        refine lv_iload_n hx hb dX8_oldest_15 rfl (lv_at hl 2 rfl) ?_
        refine lv_iconst (v := nI 5) hx hb dX8_oldest_16 rfl ?_
        refine r_vI C zlw4 hl.1 (i := q) (by omega) hE0 (T := TX8) (n := 17) rfl [.int (nI k), .int (nI 5)] 2 rfl (c_X8_of (l := l) (G := G) (tC := tC) (ad := ad) (N := N) (E := E) (q := q) (co := co) (pm := pm) (em := em) (th := th) (se := se) (s := s) (k := k) (w := 5) (by omega) hE0 hE1 (by first | assumption | omega)) gX8_oldest_X8_of rfl ⟨rfl, rfl⟩ (by decide +kernel) ⟨Nat.le_of_ble_eq_true rfl, Nat.le_of_ble_eq_true rfl⟩ (rest := []) rfl (Nat.le_of_ble_eq_true rfl) dX8_oldest_17 ⟨Nat.zero_le _, Nat.zero_le _⟩ (fun zr1 zE1 zH1 zL1 zp1 zw1 => ?_)
        obtain ⟨ze1, zq1⟩ := zp1
        rw [ze1] at zw1
        clear ze1
        rw [zq1]
        refine lv_aload_n hx hb dX8_oldest_20 rfl (lv_at hl 0 rfl) ?_
        refine lv_iload_n hx hb dX8_oldest_21 rfl (lv_at hl 1 rfl) ?_
        refine lv_iconst (v := nI 5) hx hb dX8_oldest_22 rfl ?_
        refine r_vI C zw1 hl.1 (i := q) (by omega) hE0 (T := TX8) (n := 17) rfl [.int (nI w), .int (nI 5)] 2 rfl (c_X8_of (l := l) (G := G) (tC := tC) (ad := ad) (N := N) (E := E) (q := q) (co := co) (pm := pm) (em := em) (th := th) (se := se) (s := s) (k := w) (w := 5) (by omega) hE0 hE1 (by first | assumption | omega)) gX8_oldest_X8_of rfl ⟨rfl, rfl⟩ (by decide +kernel) ⟨Nat.le_of_ble_eq_true rfl, Nat.le_of_ble_eq_true rfl⟩ (rest := [.int (s (8 + 50 * k + 5))]) rfl (Nat.le_of_ble_eq_true rfl) dX8_oldest_23 ⟨Nat.zero_le _, Nat.zero_le _⟩ (fun zr2 zE2 zH2 zL2 zp2 zw2 => ?_)
        obtain ⟨ze2, zq2⟩ := zp2
        rw [ze2] at zw2
        clear ze2
        rw [zq2]
        refine lv_icmp_ge (tgt := 33) hx hb dX8_oldest_26 (by decide) (fun zc26 => ?_) (fun zc26 => ?_)
        · refine lv_iload_n hx hb dX8_oldest_33 rfl (lv_at hl 1 rfl) ?_
          refine lv_istore_n (lv' := [(1, .int (nI w)), (0, .ref (ad q)), (2, .int (nI k))]) hx hb dX8_oldest_34 rfl hl (by decide) rfl (fun ls hl => ?_)
          refine lv_iinc (v := nI (k + 1)) (lv' := [(2, .int (nI (k + 1))), (1, .int (nI w)), (0, .ref (ad q))]) hx hb dX8_oldest_35 hl (k := 2) rfl (by rw [show Int32.ofInt 1 = nI 1 from rfl, nI_add]) (by decide) rfl (fun ls hl => ?_)
          refine lv_goto (tgt := 4) hx hb dX8_oldest_38 (by decide) ?_
          exact zih4 (k + 1) w (by omega) (by omega) (by omega) (by rw [show k + 1 - 1 = (k - 1) + 1 by omega, oldS, show k - 1 + 1 = k by omega, ← hw9]; first | exact (if_pos (Int32.not_le.mp zc26)).symm | exact (if_neg (Int32.not_lt.mpr zc26)).symm) (by omega) _ _ zw2 _ (lv_sub hl [2, 1, 0] rfl)
        · refine lv_iload_n hx hb dX8_oldest_29 rfl (lv_at hl 2 rfl) ?_
          refine lv_goto (tgt := 34) hx hb dX8_oldest_30 (by decide) ?_
          refine lv_istore_n (lv' := [(1, .int (nI k)), (0, .ref (ad q)), (2, .int (nI k))]) hx hb dX8_oldest_34 rfl hl (by decide) rfl (fun ls hl => ?_)
          refine lv_iinc (v := nI (k + 1)) (lv' := [(2, .int (nI (k + 1))), (1, .int (nI k)), (0, .ref (ad q))]) hx hb dX8_oldest_35 hl (k := 2) rfl (by rw [show Int32.ofInt 1 = nI 1 from rfl, nI_add]) (by decide) rfl (fun ls hl => ?_)
          refine lv_goto (tgt := 4) hx hb dX8_oldest_38 (by decide) ?_
          exact zih4 (k + 1) k (by omega) (by omega) (by omega) (by rw [show k + 1 - 1 = (k - 1) + 1 by omega, oldS, show k - 1 + 1 = k by omega, ← hw9]; first | exact (if_pos (Int32.not_le.mp zc26)).symm | exact (if_neg (Int32.not_lt.mpr zc26)).symm) (by omega) _ _ zw2 _ (lv_sub hl [2, 1, 0] rfl)
  exact zlp4 _ 1 0 (Nat.lt_succ_self _) (by omega) (by omega) (by rfl) (by omega) _ _ hw _ (lv_sub hl [2, 1, 0] rfl)

set_option maxHeartbeats 4000000 in
set_option maxRecDepth 100000 in
theorem c_X8_empties {l : Launch} {G : vG} {tC : Nat} {ad : Nat → Nat} {N : Nat} {E : Nat → va_E} {q co pm em : Nat} {th : Int32} {se : Int64} {s : Nat → Int32} {k : Nat} (hN0 : q + 13 ≤ N) (hE0 : E q = .inr (5, [.int th, .ref (ad (q + 1)), .long se, .ref (ad (q + 2)), .ref (ad (q + 3)), .int (nI co), .ref (ad (q + 4)), .int (nI pm), .ref (ad (q + 5)), .ref (ad (q + 6)), .ref (ad (q + 7)), .ref (ad (q + 8)), .int (nI em), .ref (ad (q + 9)), .ref (ad (q + 10)), .ref (ad (q + 11)), .ref (ad (q + 12))])) (hE1 : E (q + 1) = eI G 508 s) (hk : k < 10) : MV l yX8_empties wsX8_empties ({ frames := 1, cells := 0, slots := 0, locals := 20 } : Room) G tC ad N E [.ref (ad q), .int (nI k)] (fun E2 => E2 (q + 1) = eI G 508 (empF s k) ∧ (∀ j, j ≠ (q + 1) → E2 j = E j)) := by
  refine MV_of RX8 rfl (by decide) rfl (Nat.le_of_ble_eq_true rfl) ?_
  intro pp_ ee_ ss_ mm_ aa_ bb_ me_ cc_ A ls C hw hl
  have hx := C.1
  have hb := C.2.1
  have hown := C.2.2.2.2.1
  have hts := C.2.2.2.2.2.1
  have hl : lv_has ls 3 [(0, .ref (ad q)), (1, .int (nI k))] := hl
  have hinX8 : ∀ w ∈ u_ws RX8 TX8 17, w ∈ wsX8_empties := by decide +kernel
  refine lv_bipush (v := nI 6) hx hb dX8_empties_0 rfl ?_
  refine lv_istore_n (lv' := [(2, .int (nI 6)), (0, .ref (ad q)), (1, .int (nI k))]) hx hb dX8_empties_2 rfl hl (by decide) rfl (fun ls hl => ?_)
  have zlp3 : ∀ (zn : Nat) (j : Nat) (g : Nat → Int32), 50 - j < zn → (6 ≤ j) → (j ≤ 50) → (g = fillF s (8 + 50 * k + 6) (8 + 50 * k + j) (-1)) → ∀ (E9 : Nat → va_E) (H9 : Heap) (L9 : List Loc), E9 q = .inr (5, [.int th, .ref (ad (q + 1)), .long se, .ref (ad (q + 2)), .ref (ad (q + 3)), .int (nI co), .ref (ad (q + 4)), .int (nI pm), .ref (ad (q + 5)), .ref (ad (q + 6)), .ref (ad (q + 7)), .ref (ad (q + 8)), .int (nI em), .ref (ad (q + 9)), .ref (ad (q + 10)), .ref (ad (q + 11)), .ref (ad (q + 12))]) → E9 (q + 1) = eI G 508 g → (∀ j, j ≠ (q + 1) → E9 j = E j) → Wd G A ss_.heap H9 L9 ad E9 N → ∀ (ls : Array Slot), lv_has ls 3 [(0, .ref (ad q)), (1, .int (nI k)), (2, .int (nI j))] → W pp_ l ee_ ({ frames := 1, cells := 0, slots := 0, locals := 20 } : Room) ss_ mm_ aa_ bb_ me_ cc_ H9 L9 0 0 (QV bb_ aa_ ss_ G ad N A (fun E2 => E2 (q + 1) = eI G 508 (empF s k) ∧ (∀ j, j ≠ (q + 1) → E2 j = E j))) (F0 mm_ 3 ls []) := by
    intro zn
    induction zn with
    | zero => intro j g zhm; exact absurd zhm (Nat.not_lt_zero _)
    | succ zn zih3 =>
      intro j g zhm3 hj1 hj2 hg zE_3 zH_3 zL_3 zl3_0 zl3_1 zlf3  zlw3 ls hl
      refine lv_iload_n hx hb dX8_empties_3 rfl (lv_at hl 2 rfl) ?_
      refine lv_bipush (v := nI 50) hx hb dX8_empties_4 rfl ?_
      refine n_icmp_ge (tgt := 27) hx hb dX8_empties_6 (by decide) (by omega) (by omega) (fun zc6 => ?_) (fun zc6 => ?_)
      · exact r_vret C zlw3 dX8_empties_27 ⟨(zl3_1.trans (by rw [hg, show j = 50 by omega]; rfl)), (fun j zm0 => zlf3 j zm0)⟩
      · refine lv_aload_n hx hb dX8_empties_9 rfl (lv_at hl 0 rfl) ?_
        refine r_get C zlw3 RX8 TX8 17 5 hinX8 (i := q) (by omega) zl3_0 rfl 1 (by decide) (by decide +kernel) rfl (v := .ref (ad (q + 1))) rfl dX8_empties_10 ?_
        refine lv_iload_n hx hb dX8_empties_13 rfl (lv_at hl 1 rfl) ?_
        refine r_sI C zlw3 hl.1 [.int (nI k)] 1 rfl (c_X8_at (l := l) (G := G) (tC := tC) (ad := ad) (N := N) (E := zE_3) (k := k)   ) gX8_empties_X8_at rfl ⟨rfl, rfl⟩ (by decide +kernel) ⟨Nat.le_of_ble_eq_true rfl, Nat.le_of_ble_eq_true rfl⟩ (rest := [.ref (ad (q + 1))]) rfl (Nat.le_of_ble_eq_true rfl) dX8_empties_14 ⟨Nat.zero_le _, Nat.zero_le _⟩ (fun zr1 zE1 zH1 zL1 zp1 zw1 => ?_)
        obtain ⟨ze1, zq1⟩ := zp1
        rw [ze1] at zw1
        clear ze1
        rw [zq1]
        refine lv_iload_n hx hb dX8_empties_17 rfl (lv_at hl 2 rfl) ?_
        refine lv_iadd hx hb dX8_empties_18 ?_
        refine r_nat (8 + 50 * k + j) (nI_add _ _) ?_
        refine lv_iconst (v := -1) hx hb dX8_empties_19 (by decide) ?_
        refine r_iasN C zw1 (i := (q + 1)) (by omega) zl3_1 (j := 8 + 50 * k + j) (by omega) (by omega) dX8_empties_20 (fun zE2 zH2 zL2 zg2 zf2 zw2 => ?_)
        have zh2_0 : zE2 (q + 1) = eI G 508 (upd g (8 + 50 * k + j) (-1)) := zg2
        have zk2_0 : zE2 q = .inr (5, [.int th, .ref (ad (q + 1)), .long se, .ref (ad (q + 2)), .ref (ad (q + 3)), .int (nI co), .ref (ad (q + 4)), .int (nI pm), .ref (ad (q + 5)), .ref (ad (q + 6)), .ref (ad (q + 7)), .ref (ad (q + 8)), .int (nI em), .ref (ad (q + 9)), .ref (ad (q + 10)), .ref (ad (q + 11)), .ref (ad (q + 12))]) := (zf2 _ (by omega)).trans zl3_0
        have zfr2 : ∀ j, j ≠ (q + 1) → zE2 j = E j := fun j zm0 => (zf2 j zm0).trans (zlf3 j zm0)
        refine lv_iinc (v := nI (j + 1)) (lv' := [(2, .int (nI (j + 1))), (0, .ref (ad q)), (1, .int (nI k))]) hx hb dX8_empties_21 hl (k := 2) rfl (by rw [show Int32.ofInt 1 = nI 1 from rfl, nI_add]) (by decide) rfl (fun ls hl => ?_)
        refine lv_goto (tgt := 3) hx hb dX8_empties_24 (by decide) ?_
        exact zih3 (j + 1) (upd g (8 + 50 * k + j) (-1)) (by omega) (by omega) (by omega) (by rw [hg]; exact fillF_s _ _ (by omega)) _ _ _ zk2_0 zh2_0 (fun j zm0 => zfr2 j zm0) zw2 _ (lv_sub hl [1, 2, 0] rfl)
  exact zlp3 _ 6 s (Nat.lt_succ_self _) (by omega) (by omega) (by exact (fillF_0 _ _ _).symm) _ _ _ hE0 hE1 (fun j _ => rfl) hw _ (lv_sub hl [1, 2, 0] rfl)

set_option maxHeartbeats 4000000 in
set_option maxRecDepth 100000 in
theorem c_X8_newPage {l : Launch} {G : vG} {tC : Nat} {ad : Nat → Nat} {N : Nat} {E : Nat → va_E} {q co pm em : Nat} {th : Int32} {se : Int64} {pg : Nat} {s : Nat → Int32} {b n p9 : Int32} (hN0 : q + 13 ≤ N) (hE0 : E q = .inr (5, [.int th, .ref (ad (q + 1)), .long se, .ref (ad (q + 2)), .ref (ad (q + 3)), .int (nI co), .ref (ad (q + 4)), .int (nI pm), .ref (ad (q + 5)), .ref (ad (q + 6)), .ref (ad (q + 7)), .ref (ad (q + 8)), .int (nI em), .ref (ad (q + 9)), .ref (ad (q + 10)), .ref (ad (q + 11)), .ref (ad (q + 12))])) (hE1 : E (q + 1) = eI G 508 s) (hs0 : s 0 = nI pg) (hpg : pg ≤ 10) : MI l yX8_newPage wsX8_newPage ({ frames := 3, cells := 0, slots := 0, locals := 64 } : Room) G tC ad N E [.ref (ad q), .int b, .int n, .int p9] (fun r E2 => E2 (q + 1) = eI G 508 (newF s pg b n p9) ∧ (∀ j, j ≠ (q + 1) → E2 j = E j) ∧ r = nI (newK pg)) := by
  refine MI_of RX8 rfl (by decide) rfl (Nat.le_of_ble_eq_true rfl) ?_
  intro pp_ ee_ ss_ mm_ aa_ bb_ me_ cc_ A ls C hw hl
  have hx := C.1
  have hb := C.2.1
  have hown := C.2.2.2.2.1
  have hts := C.2.2.2.2.2.1
  have hl : lv_has ls 5 [(0, .ref (ad q)), (1, .int b), (2, .int n), (3, .int p9)] := hl
  have hinX8 : ∀ w ∈ u_ws RX8 TX8 17, w ∈ wsX8_newPage := by decide +kernel
  refine lv_aload_n hx hb dX8_newPage_0 rfl (lv_at hl 0 rfl) ?_
  refine r_get C hw RX8 TX8 17 5 hinX8 (i := q) (by omega) hE0 rfl 1 (by decide) (by decide +kernel) rfl (v := .ref (ad (q + 1))) rfl dX8_newPage_1 ?_
  refine lv_iconst (v := nI 0) hx hb dX8_newPage_4 rfl ?_
  refine r_iaN C hw (i := (q + 1)) (by omega) hE1 (j := 0) (by omega) (by omega) dX8_newPage_5 ?_
  refine r_nat pg hs0 ?_
  refine lv_bipush (v := nI 10) hx hb dX8_newPage_6 rfl ?_
  refine n_icmp_ne (tgt := 19) hx hb dX8_newPage_8 (by decide) (by omega) (by omega) (fun zc8 => ?_) (fun zc8 => ?_)
  · refine lv_aload_n hx hb dX8_newPage_19 rfl (lv_at hl 0 rfl) ?_
    refine r_get C hw RX8 TX8 17 5 hinX8 (i := q) (by omega) hE0 rfl 1 (by decide) (by decide +kernel) rfl (v := .ref (ad (q + 1))) rfl dX8_newPage_20 ?_
    refine lv_iconst (v := nI 0) hx hb dX8_newPage_23 rfl ?_
    refine r_iaN C hw (i := (q + 1)) (by omega) hE1 (j := 0) (by omega) (by omega) dX8_newPage_24 ?_
    refine r_nat pg hs0 ?_
    refine lv_istore (lv' := [(4, .int (nI pg)), (0, .ref (ad q)), (1, .int b), (2, .int n), (3, .int p9)]) hx hb dX8_newPage_25 hl (by decide) rfl (fun ls hl => ?_)
    refine lv_aload_n hx hb dX8_newPage_27 rfl (lv_at hl 1 rfl) ?_
    refine r_get C hw RX8 TX8 17 5 hinX8 (i := q) (by omega) hE0 rfl 1 (by decide) (by decide +kernel) rfl (v := .ref (ad (q + 1))) rfl dX8_newPage_28 ?_
    refine lv_iconst (v := nI 0) hx hb dX8_newPage_31 rfl ?_
    refine lv_dup2_11 hx hb dX8_newPage_32 rfl rfl ?_
    refine r_iaN C hw (i := (q + 1)) (by omega) hE1 (j := 0) (by omega) (by omega) dX8_newPage_33 ?_
    refine r_nat pg hs0 ?_
    refine lv_iconst (v := nI 1) hx hb dX8_newPage_34 rfl ?_
    refine lv_iadd hx hb dX8_newPage_35 ?_
    refine r_nat (pg + 1) (nI_add _ _) ?_
    refine r_iasN C hw (i := (q + 1)) (by omega) hE1 (j := 0) (by omega) (by omega) dX8_newPage_36 (fun zE1 zH1 zL1 zg1 zf1 zw1 => ?_)
    have zh1_0 : zE1 (q + 1) = eI G 508 (upd s 0 (nI (pg + 1))) := zg1
    have zk1_0 : zE1 q = .inr (5, [.int th, .ref (ad (q + 1)), .long se, .ref (ad (q + 2)), .ref (ad (q + 3)), .int (nI co), .ref (ad (q + 4)), .int (nI pm), .ref (ad (q + 5)), .ref (ad (q + 6)), .ref (ad (q + 7)), .ref (ad (q + 8)), .int (nI em), .ref (ad (q + 9)), .ref (ad (q + 10)), .ref (ad (q + 11)), .ref (ad (q + 12))]) := (zf1 _ (by omega)).trans hE0
    have zfr1 : ∀ j, j ≠ (q + 1) → zE1 j = E j := fun j zm0 => zf1 j zm0
    refine lv_aload_n hx hb dX8_newPage_37 rfl (lv_at hl 1 rfl) ?_
    refine r_get C zw1 RX8 TX8 17 5 hinX8 (i := q) (by omega) zk1_0 rfl 1 (by decide) (by decide +kernel) rfl (v := .ref (ad (q + 1))) rfl dX8_newPage_38 ?_
    refine lv_iload hx hb dX8_newPage_41 (lv_at hl 0 rfl) ?_
    refine r_sI C zw1 hl.1 [.int (nI pg)] 1 rfl (c_X8_at (l := l) (G := G) (tC := tC) (ad := ad) (N := N) (E := zE1) (k := pg)   ) gX8_newPage_X8_at rfl ⟨rfl, rfl⟩ (by decide +kernel) ⟨Nat.le_of_ble_eq_true rfl, Nat.le_of_ble_eq_true rfl⟩ (rest := [.ref (ad (q + 1))]) rfl (Nat.le_of_ble_eq_true rfl) dX8_newPage_43 ⟨Nat.zero_le _, Nat.zero_le _⟩ (fun zr2 zE2 zH2 zL2 zp2 zw2 => ?_)
    obtain ⟨ze2, zq2⟩ := zp2
    rw [ze2] at zw2
    clear ze2
    rw [zq2]
    refine lv_iconst (v := nI 0) hx hb dX8_newPage_46 rfl ?_
    refine lv_iadd hx hb dX8_newPage_47 ?_
    refine r_nat (8 + 50 * pg + 0) (nI_add _ _) ?_
    refine lv_iload_n hx hb dX8_newPage_48 rfl (lv_at hl 2 rfl) ?_
    refine r_iasN C zw2 (i := (q + 1)) (by omega) zh1_0 (j := 8 + 50 * pg + 0) (by omega) (by omega) dX8_newPage_49 (fun zE3 zH3 zL3 zg3 zf3 zw3 => ?_)
    have zh3_0 : zE3 (q + 1) = eI G 508 (upd (upd s 0 (nI (pg + 1))) (8 + 50 * pg + 0) b) := zg3
    have zk3_0 : zE3 q = .inr (5, [.int th, .ref (ad (q + 1)), .long se, .ref (ad (q + 2)), .ref (ad (q + 3)), .int (nI co), .ref (ad (q + 4)), .int (nI pm), .ref (ad (q + 5)), .ref (ad (q + 6)), .ref (ad (q + 7)), .ref (ad (q + 8)), .int (nI em), .ref (ad (q + 9)), .ref (ad (q + 10)), .ref (ad (q + 11)), .ref (ad (q + 12))]) := (zf3 _ (by omega)).trans zk1_0
    have zfr3 : ∀ j, j ≠ (q + 1) → zE3 j = E j := fun j zm0 => (zf3 j zm0).trans (zfr1 j zm0)
    refine lv_aload_n hx hb dX8_newPage_50 rfl (lv_at hl 1 rfl) ?_
    refine r_get C zw3 RX8 TX8 17 5 hinX8 (i := q) (by omega) zk3_0 rfl 1 (by decide) (by decide +kernel) rfl (v := .ref (ad (q + 1))) rfl dX8_newPage_51 ?_
    refine lv_iload hx hb dX8_newPage_54 (lv_at hl 0 rfl) ?_
    refine r_sI C zw3 hl.1 [.int (nI pg)] 1 rfl (c_X8_at (l := l) (G := G) (tC := tC) (ad := ad) (N := N) (E := zE3) (k := pg)   ) gX8_newPage_X8_at rfl ⟨rfl, rfl⟩ (by decide +kernel) ⟨Nat.le_of_ble_eq_true rfl, Nat.le_of_ble_eq_true rfl⟩ (rest := [.ref (ad (q + 1))]) rfl (Nat.le_of_ble_eq_true rfl) dX8_newPage_56 ⟨Nat.zero_le _, Nat.zero_le _⟩ (fun zr4 zE4 zH4 zL4 zp4 zw4 => ?_)
    obtain ⟨ze4, zq4⟩ := zp4
    rw [ze4] at zw4
    clear ze4
    rw [zq4]
    refine lv_iconst (v := nI 1) hx hb dX8_newPage_59 rfl ?_
    refine lv_iadd hx hb dX8_newPage_60 ?_
    refine r_nat (8 + 50 * pg + 1) (nI_add _ _) ?_
    refine lv_iload_n hx hb dX8_newPage_61 rfl (lv_at hl 3 rfl) ?_
    refine r_iasN C zw4 (i := (q + 1)) (by omega) zh3_0 (j := 8 + 50 * pg + 1) (by omega) (by omega) dX8_newPage_62 (fun zE5 zH5 zL5 zg5 zf5 zw5 => ?_)
    have zh5_0 : zE5 (q + 1) = eI G 508 (upd (upd (upd s 0 (nI (pg + 1))) (8 + 50 * pg + 0) b) (8 + 50 * pg + 1) n) := zg5
    have zk5_0 : zE5 q = .inr (5, [.int th, .ref (ad (q + 1)), .long se, .ref (ad (q + 2)), .ref (ad (q + 3)), .int (nI co), .ref (ad (q + 4)), .int (nI pm), .ref (ad (q + 5)), .ref (ad (q + 6)), .ref (ad (q + 7)), .ref (ad (q + 8)), .int (nI em), .ref (ad (q + 9)), .ref (ad (q + 10)), .ref (ad (q + 11)), .ref (ad (q + 12))]) := (zf5 _ (by omega)).trans zk3_0
    have zfr5 : ∀ j, j ≠ (q + 1) → zE5 j = E j := fun j zm0 => (zf5 j zm0).trans (zfr3 j zm0)
    refine lv_aload_n hx hb dX8_newPage_63 rfl (lv_at hl 1 rfl) ?_
    refine r_get C zw5 RX8 TX8 17 5 hinX8 (i := q) (by omega) zk5_0 rfl 1 (by decide) (by decide +kernel) rfl (v := .ref (ad (q + 1))) rfl dX8_newPage_64 ?_
    refine lv_iload hx hb dX8_newPage_67 (lv_at hl 0 rfl) ?_
    refine r_sI C zw5 hl.1 [.int (nI pg)] 1 rfl (c_X8_at (l := l) (G := G) (tC := tC) (ad := ad) (N := N) (E := zE5) (k := pg)   ) gX8_newPage_X8_at rfl ⟨rfl, rfl⟩ (by decide +kernel) ⟨Nat.le_of_ble_eq_true rfl, Nat.le_of_ble_eq_true rfl⟩ (rest := [.ref (ad (q + 1))]) rfl (Nat.le_of_ble_eq_true rfl) dX8_newPage_69 ⟨Nat.zero_le _, Nat.zero_le _⟩ (fun zr6 zE6 zH6 zL6 zp6 zw6 => ?_)
    obtain ⟨ze6, zq6⟩ := zp6
    rw [ze6] at zw6
    clear ze6
    rw [zq6]
    refine lv_iconst (v := nI 2) hx hb dX8_newPage_72 rfl ?_
    refine lv_iadd hx hb dX8_newPage_73 ?_
    refine r_nat (8 + 50 * pg + 2) (nI_add _ _) ?_
    refine lv_iload_n hx hb dX8_newPage_74 rfl (lv_at hl 4 rfl) ?_
    refine r_iasN C zw6 (i := (q + 1)) (by omega) zh5_0 (j := 8 + 50 * pg + 2) (by omega) (by omega) dX8_newPage_75 (fun zE7 zH7 zL7 zg7 zf7 zw7 => ?_)
    have zh7_0 : zE7 (q + 1) = eI G 508 (upd (upd (upd (upd s 0 (nI (pg + 1))) (8 + 50 * pg + 0) b) (8 + 50 * pg + 1) n) (8 + 50 * pg + 2) p9) := zg7
    have zk7_0 : zE7 q = .inr (5, [.int th, .ref (ad (q + 1)), .long se, .ref (ad (q + 2)), .ref (ad (q + 3)), .int (nI co), .ref (ad (q + 4)), .int (nI pm), .ref (ad (q + 5)), .ref (ad (q + 6)), .ref (ad (q + 7)), .ref (ad (q + 8)), .int (nI em), .ref (ad (q + 9)), .ref (ad (q + 10)), .ref (ad (q + 11)), .ref (ad (q + 12))]) := (zf7 _ (by omega)).trans zk5_0
    have zfr7 : ∀ j, j ≠ (q + 1) → zE7 j = E j := fun j zm0 => (zf7 j zm0).trans (zfr5 j zm0)
    refine lv_aload_n hx hb dX8_newPage_76 rfl (lv_at hl 1 rfl) ?_
    refine r_get C zw7 RX8 TX8 17 5 hinX8 (i := q) (by omega) zk7_0 rfl 1 (by decide) (by decide +kernel) rfl (v := .ref (ad (q + 1))) rfl dX8_newPage_77 ?_
    refine lv_iload hx hb dX8_newPage_80 (lv_at hl 0 rfl) ?_
    refine r_sI C zw7 hl.1 [.int (nI pg)] 1 rfl (c_X8_at (l := l) (G := G) (tC := tC) (ad := ad) (N := N) (E := zE7) (k := pg)   ) gX8_newPage_X8_at rfl ⟨rfl, rfl⟩ (by decide +kernel) ⟨Nat.le_of_ble_eq_true rfl, Nat.le_of_ble_eq_true rfl⟩ (rest := [.ref (ad (q + 1))]) rfl (Nat.le_of_ble_eq_true rfl) dX8_newPage_82 ⟨Nat.zero_le _, Nat.zero_le _⟩ (fun zr8 zE8 zH8 zL8 zp8 zw8 => ?_)
    obtain ⟨ze8, zq8⟩ := zp8
    rw [ze8] at zw8
    clear ze8
    rw [zq8]
    refine lv_iconst (v := nI 3) hx hb dX8_newPage_85 rfl ?_
    refine lv_iadd hx hb dX8_newPage_86 ?_
    refine r_nat (8 + 50 * pg + 3) (nI_add _ _) ?_
    refine lv_iconst (v := nI 0) hx hb dX8_newPage_87 rfl ?_
    refine r_iasN C zw8 (i := (q + 1)) (by omega) zh7_0 (j := 8 + 50 * pg + 3) (by omega) (by omega) dX8_newPage_88 (fun zE9 zH9 zL9 zg9 zf9 zw9 => ?_)
    have zh9_0 : zE9 (q + 1) = eI G 508 (upd (upd (upd (upd (upd s 0 (nI (pg + 1))) (8 + 50 * pg + 0) b) (8 + 50 * pg + 1) n) (8 + 50 * pg + 2) p9) (8 + 50 * pg + 3) (nI 0)) := zg9
    have zk9_0 : zE9 q = .inr (5, [.int th, .ref (ad (q + 1)), .long se, .ref (ad (q + 2)), .ref (ad (q + 3)), .int (nI co), .ref (ad (q + 4)), .int (nI pm), .ref (ad (q + 5)), .ref (ad (q + 6)), .ref (ad (q + 7)), .ref (ad (q + 8)), .int (nI em), .ref (ad (q + 9)), .ref (ad (q + 10)), .ref (ad (q + 11)), .ref (ad (q + 12))]) := (zf9 _ (by omega)).trans zk7_0
    have zfr9 : ∀ j, j ≠ (q + 1) → zE9 j = E j := fun j zm0 => (zf9 j zm0).trans (zfr7 j zm0)
    refine lv_aload_n hx hb dX8_newPage_89 rfl (lv_at hl 1 rfl) ?_
    refine r_get C zw9 RX8 TX8 17 5 hinX8 (i := q) (by omega) zk9_0 rfl 1 (by decide) (by decide +kernel) rfl (v := .ref (ad (q + 1))) rfl dX8_newPage_90 ?_
    refine lv_iload hx hb dX8_newPage_93 (lv_at hl 0 rfl) ?_
    refine r_sI C zw9 hl.1 [.int (nI pg)] 1 rfl (c_X8_at (l := l) (G := G) (tC := tC) (ad := ad) (N := N) (E := zE9) (k := pg)   ) gX8_newPage_X8_at rfl ⟨rfl, rfl⟩ (by decide +kernel) ⟨Nat.le_of_ble_eq_true rfl, Nat.le_of_ble_eq_true rfl⟩ (rest := [.ref (ad (q + 1))]) rfl (Nat.le_of_ble_eq_true rfl) dX8_newPage_95 ⟨Nat.zero_le _, Nat.zero_le _⟩ (fun zr10 zE10 zH10 zL10 zp10 zw10 => ?_)
    obtain ⟨ze10, zq10⟩ := zp10
    rw [ze10] at zw10
    clear ze10
    rw [zq10]
    refine lv_iconst (v := nI 4) hx hb dX8_newPage_98 rfl ?_
    refine lv_iadd hx hb dX8_newPage_99 ?_
    refine r_nat (8 + 50 * pg + 4) (nI_add _ _) ?_
    refine lv_iconst (v := nI 1) hx hb dX8_newPage_100 rfl ?_
    refine r_iasN C zw10 (i := (q + 1)) (by omega) zh9_0 (j := 8 + 50 * pg + 4) (by omega) (by omega) dX8_newPage_101 (fun zE11 zH11 zL11 zg11 zf11 zw11 => ?_)
    have zh11_0 : zE11 (q + 1) = eI G 508 (upd (upd (upd (upd (upd (upd s 0 (nI (pg + 1))) (8 + 50 * pg + 0) b) (8 + 50 * pg + 1) n) (8 + 50 * pg + 2) p9) (8 + 50 * pg + 3) (nI 0)) (8 + 50 * pg + 4) (nI 1)) := zg11
    have zk11_0 : zE11 q = .inr (5, [.int th, .ref (ad (q + 1)), .long se, .ref (ad (q + 2)), .ref (ad (q + 3)), .int (nI co), .ref (ad (q + 4)), .int (nI pm), .ref (ad (q + 5)), .ref (ad (q + 6)), .ref (ad (q + 7)), .ref (ad (q + 8)), .int (nI em), .ref (ad (q + 9)), .ref (ad (q + 10)), .ref (ad (q + 11)), .ref (ad (q + 12))]) := (zf11 _ (by omega)).trans zk9_0
    have zfr11 : ∀ j, j ≠ (q + 1) → zE11 j = E j := fun j zm0 => (zf11 j zm0).trans (zfr9 j zm0)
    refine lv_aload_n hx hb dX8_newPage_102 rfl (lv_at hl 1 rfl) ?_
    refine lv_iload hx hb dX8_newPage_103 (lv_at hl 0 rfl) ?_
    refine r_vV C zw11 hl.1 (i := q) (by omega) zk11_0 (T := TX8) (n := 17) rfl [.int (nI pg)] 1 rfl (c_X8_empties (l := l) (G := G) (tC := tC) (ad := ad) (N := N) (E := zE11) (q := q) (co := co) (pm := pm) (em := em) (th := th) (se := se) (s := upd (upd (upd (upd (upd (upd s 0 (nI (pg + 1))) (8 + 50 * pg + 0) b) (8 + 50 * pg + 1) n) (8 + 50 * pg + 2) p9) (8 + 50 * pg + 3) (nI 0)) (8 + 50 * pg + 4) (nI 1)) (k := pg) (by omega) zk11_0 zh11_0 (by first | assumption | omega)) gX8_newPage_X8_empties rfl ⟨rfl, rfl⟩ (by decide +kernel) ⟨Nat.le_of_ble_eq_true rfl, Nat.le_of_ble_eq_true rfl⟩ (rest := []) rfl (Nat.le_of_ble_eq_true rfl) dX8_newPage_105 ⟨Nat.zero_le _, Nat.zero_le _⟩ (fun zE12 zH12 zL12 zp12 zw12 => ?_)
    obtain ⟨zg12_0, zf12⟩ := zp12
    have zh12_0 : zE12 (q + 1) = eI G 508 (empF (upd (upd (upd (upd (upd (upd s 0 (nI (pg + 1))) (8 + 50 * pg + 0) b) (8 + 50 * pg + 1) n) (8 + 50 * pg + 2) p9) (8 + 50 * pg + 3) (nI 0)) (8 + 50 * pg + 4) (nI 1)) pg) := zg12_0
    have zk12_0 : zE12 q = .inr (5, [.int th, .ref (ad (q + 1)), .long se, .ref (ad (q + 2)), .ref (ad (q + 3)), .int (nI co), .ref (ad (q + 4)), .int (nI pm), .ref (ad (q + 5)), .ref (ad (q + 6)), .ref (ad (q + 7)), .ref (ad (q + 8)), .int (nI em), .ref (ad (q + 9)), .ref (ad (q + 10)), .ref (ad (q + 11)), .ref (ad (q + 12))]) := (zf12 _ (by omega)).trans zk11_0
    have zfr12 : ∀ j, j ≠ (q + 1) → zE12 j = E j := fun j zm0 => (zf12 j zm0).trans (zfr11 j zm0)
    refine lv_iload hx hb dX8_newPage_108 (lv_at hl 0 rfl) ?_
    exact r_iret C zw12 dX8_newPage_110 ⟨(zh12_0.trans (by rw [newF, newB, newK, if_neg zc8, if_neg zc8]; rfl)), (fun j zm0 => zfr12 j zm0), (by rw [newK, if_neg zc8])⟩
  · refine lv_aload_n hx hb dX8_newPage_11 rfl (lv_at hl 0 rfl) ?_
    refine lv_aload_n hx hb dX8_newPage_12 rfl (lv_at hl 0 rfl) ?_
    refine r_vI C hw hl.1 (i := q) (by omega) hE0 (T := TX8) (n := 17) rfl [] 0 rfl (c_X8_oldest (l := l) (G := G) (tC := tC) (ad := ad) (N := N) (E := E) (q := q) (co := co) (pm := pm) (em := em) (th := th) (se := se) (pg := pg) (s := s) (by omega) hE0 hE1 (by first | assumption | omega) (by first | assumption | omega) (by first | assumption | omega)) gX8_newPage_X8_oldest rfl ⟨rfl, rfl⟩ (by decide +kernel) ⟨Nat.le_of_ble_eq_true rfl, Nat.le_of_ble_eq_true rfl⟩ (rest := [.ref (ad q)]) rfl (Nat.le_of_ble_eq_true rfl) dX8_newPage_13 ⟨Nat.zero_le _, Nat.zero_le _⟩ (fun zr13 zE13 zH13 zL13 zp13 zw13 => ?_)
    obtain ⟨ze13, zq13⟩ := zp13
    rw [ze13] at zw13
    clear ze13
    rw [zq13]
    refine r_vV C zw13 hl.1 (i := q) (by omega) hE0 (T := TX8) (n := 17) rfl [.int (nI (oldS (latF s) (pg - 1)))] 1 rfl (c_X8_goes (l := l) (G := G) (tC := tC) (ad := ad) (N := N) (E := E) (q := q) (co := co) (pm := pm) (em := em) (th := th) (se := se) (pg := pg) (s := s) (page := oldS (latF s) (pg - 1)) (by omega) hE0 hE1 (by first | assumption | omega) (by first | assumption | omega) (by have := oldS_le (latF s) (pg - 1); omega)) gX8_newPage_X8_goes rfl ⟨rfl, rfl⟩ (by decide +kernel) ⟨Nat.le_of_ble_eq_true rfl, Nat.le_of_ble_eq_true rfl⟩ (rest := []) rfl (Nat.le_of_ble_eq_true rfl) dX8_newPage_16 ⟨Nat.zero_le _, Nat.zero_le _⟩ (fun zE14 zH14 zL14 zp14 zw14 => ?_)
    obtain ⟨zg14_0, zf14⟩ := zp14
    have zh14_0 : zE14 (q + 1) = eI G 508 (goesF s pg (oldS (latF s) (pg - 1))) := zg14_0
    have zk14_0 : zE14 q = .inr (5, [.int th, .ref (ad (q + 1)), .long se, .ref (ad (q + 2)), .ref (ad (q + 3)), .int (nI co), .ref (ad (q + 4)), .int (nI pm), .ref (ad (q + 5)), .ref (ad (q + 6)), .ref (ad (q + 7)), .ref (ad (q + 8)), .int (nI em), .ref (ad (q + 9)), .ref (ad (q + 10)), .ref (ad (q + 11)), .ref (ad (q + 12))]) := (zf14 _ (by omega)).trans hE0
    have zfr14 : ∀ j, j ≠ (q + 1) → zE14 j = E j := fun j zm0 => zf14 j zm0
    refine lv_aload_n hx hb dX8_newPage_19 rfl (lv_at hl 0 rfl) ?_
    refine r_get C zw14 RX8 TX8 17 5 hinX8 (i := q) (by omega) zk14_0 rfl 1 (by decide) (by decide +kernel) rfl (v := .ref (ad (q + 1))) rfl dX8_newPage_20 ?_
    refine lv_iconst (v := nI 0) hx hb dX8_newPage_23 rfl ?_
    refine r_iaN C zw14 (i := (q + 1)) (by omega) zh14_0 (j := 0) (by omega) (by omega) dX8_newPage_24 ?_
    refine r_nat 9 (by rw [goesF_0, zc8]) ?_
    refine lv_istore (lv' := [(4, .int (nI 9)), (0, .ref (ad q)), (1, .int b), (2, .int n), (3, .int p9)]) hx hb dX8_newPage_25 hl (by decide) rfl (fun ls hl => ?_)
    refine lv_aload_n hx hb dX8_newPage_27 rfl (lv_at hl 1 rfl) ?_
    refine r_get C zw14 RX8 TX8 17 5 hinX8 (i := q) (by omega) zk14_0 rfl 1 (by decide) (by decide +kernel) rfl (v := .ref (ad (q + 1))) rfl dX8_newPage_28 ?_
    refine lv_iconst (v := nI 0) hx hb dX8_newPage_31 rfl ?_
    refine lv_dup2_11 hx hb dX8_newPage_32 rfl rfl ?_
    refine r_iaN C zw14 (i := (q + 1)) (by omega) zh14_0 (j := 0) (by omega) (by omega) dX8_newPage_33 ?_
    refine r_nat 9 (by rw [goesF_0, zc8]) ?_
    refine lv_iconst (v := nI 1) hx hb dX8_newPage_34 rfl ?_
    refine lv_iadd hx hb dX8_newPage_35 ?_
    refine r_nat (9 + 1) (nI_add _ _) ?_
    refine r_iasN C zw14 (i := (q + 1)) (by omega) zh14_0 (j := 0) (by omega) (by omega) dX8_newPage_36 (fun zE15 zH15 zL15 zg15 zf15 zw15 => ?_)
    have zh15_0 : zE15 (q + 1) = eI G 508 (upd (goesF s pg (oldS (latF s) (pg - 1))) 0 (nI (9 + 1))) := zg15
    have zk15_0 : zE15 q = .inr (5, [.int th, .ref (ad (q + 1)), .long se, .ref (ad (q + 2)), .ref (ad (q + 3)), .int (nI co), .ref (ad (q + 4)), .int (nI pm), .ref (ad (q + 5)), .ref (ad (q + 6)), .ref (ad (q + 7)), .ref (ad (q + 8)), .int (nI em), .ref (ad (q + 9)), .ref (ad (q + 10)), .ref (ad (q + 11)), .ref (ad (q + 12))]) := (zf15 _ (by omega)).trans zk14_0
    have zfr15 : ∀ j, j ≠ (q + 1) → zE15 j = E j := fun j zm0 => (zf15 j zm0).trans (zfr14 j zm0)
    refine lv_aload_n hx hb dX8_newPage_37 rfl (lv_at hl 1 rfl) ?_
    refine r_get C zw15 RX8 TX8 17 5 hinX8 (i := q) (by omega) zk15_0 rfl 1 (by decide) (by decide +kernel) rfl (v := .ref (ad (q + 1))) rfl dX8_newPage_38 ?_
    refine lv_iload hx hb dX8_newPage_41 (lv_at hl 0 rfl) ?_
    refine r_sI C zw15 hl.1 [.int (nI 9)] 1 rfl (c_X8_at (l := l) (G := G) (tC := tC) (ad := ad) (N := N) (E := zE15) (k := 9)   ) gX8_newPage_X8_at rfl ⟨rfl, rfl⟩ (by decide +kernel) ⟨Nat.le_of_ble_eq_true rfl, Nat.le_of_ble_eq_true rfl⟩ (rest := [.ref (ad (q + 1))]) rfl (Nat.le_of_ble_eq_true rfl) dX8_newPage_43 ⟨Nat.zero_le _, Nat.zero_le _⟩ (fun zr16 zE16 zH16 zL16 zp16 zw16 => ?_)
    obtain ⟨ze16, zq16⟩ := zp16
    rw [ze16] at zw16
    clear ze16
    rw [zq16]
    refine lv_iconst (v := nI 0) hx hb dX8_newPage_46 rfl ?_
    refine lv_iadd hx hb dX8_newPage_47 ?_
    refine r_nat (8 + 50 * 9 + 0) (nI_add _ _) ?_
    refine lv_iload_n hx hb dX8_newPage_48 rfl (lv_at hl 2 rfl) ?_
    refine r_iasN C zw16 (i := (q + 1)) (by omega) zh15_0 (j := 8 + 50 * 9 + 0) (by omega) (by omega) dX8_newPage_49 (fun zE17 zH17 zL17 zg17 zf17 zw17 => ?_)
    have zh17_0 : zE17 (q + 1) = eI G 508 (upd (upd (goesF s pg (oldS (latF s) (pg - 1))) 0 (nI (9 + 1))) (8 + 50 * 9 + 0) b) := zg17
    have zk17_0 : zE17 q = .inr (5, [.int th, .ref (ad (q + 1)), .long se, .ref (ad (q + 2)), .ref (ad (q + 3)), .int (nI co), .ref (ad (q + 4)), .int (nI pm), .ref (ad (q + 5)), .ref (ad (q + 6)), .ref (ad (q + 7)), .ref (ad (q + 8)), .int (nI em), .ref (ad (q + 9)), .ref (ad (q + 10)), .ref (ad (q + 11)), .ref (ad (q + 12))]) := (zf17 _ (by omega)).trans zk15_0
    have zfr17 : ∀ j, j ≠ (q + 1) → zE17 j = E j := fun j zm0 => (zf17 j zm0).trans (zfr15 j zm0)
    refine lv_aload_n hx hb dX8_newPage_50 rfl (lv_at hl 1 rfl) ?_
    refine r_get C zw17 RX8 TX8 17 5 hinX8 (i := q) (by omega) zk17_0 rfl 1 (by decide) (by decide +kernel) rfl (v := .ref (ad (q + 1))) rfl dX8_newPage_51 ?_
    refine lv_iload hx hb dX8_newPage_54 (lv_at hl 0 rfl) ?_
    refine r_sI C zw17 hl.1 [.int (nI 9)] 1 rfl (c_X8_at (l := l) (G := G) (tC := tC) (ad := ad) (N := N) (E := zE17) (k := 9)   ) gX8_newPage_X8_at rfl ⟨rfl, rfl⟩ (by decide +kernel) ⟨Nat.le_of_ble_eq_true rfl, Nat.le_of_ble_eq_true rfl⟩ (rest := [.ref (ad (q + 1))]) rfl (Nat.le_of_ble_eq_true rfl) dX8_newPage_56 ⟨Nat.zero_le _, Nat.zero_le _⟩ (fun zr18 zE18 zH18 zL18 zp18 zw18 => ?_)
    obtain ⟨ze18, zq18⟩ := zp18
    rw [ze18] at zw18
    clear ze18
    rw [zq18]
    refine lv_iconst (v := nI 1) hx hb dX8_newPage_59 rfl ?_
    refine lv_iadd hx hb dX8_newPage_60 ?_
    refine r_nat (8 + 50 * 9 + 1) (nI_add _ _) ?_
    refine lv_iload_n hx hb dX8_newPage_61 rfl (lv_at hl 3 rfl) ?_
    refine r_iasN C zw18 (i := (q + 1)) (by omega) zh17_0 (j := 8 + 50 * 9 + 1) (by omega) (by omega) dX8_newPage_62 (fun zE19 zH19 zL19 zg19 zf19 zw19 => ?_)
    have zh19_0 : zE19 (q + 1) = eI G 508 (upd (upd (upd (goesF s pg (oldS (latF s) (pg - 1))) 0 (nI (9 + 1))) (8 + 50 * 9 + 0) b) (8 + 50 * 9 + 1) n) := zg19
    have zk19_0 : zE19 q = .inr (5, [.int th, .ref (ad (q + 1)), .long se, .ref (ad (q + 2)), .ref (ad (q + 3)), .int (nI co), .ref (ad (q + 4)), .int (nI pm), .ref (ad (q + 5)), .ref (ad (q + 6)), .ref (ad (q + 7)), .ref (ad (q + 8)), .int (nI em), .ref (ad (q + 9)), .ref (ad (q + 10)), .ref (ad (q + 11)), .ref (ad (q + 12))]) := (zf19 _ (by omega)).trans zk17_0
    have zfr19 : ∀ j, j ≠ (q + 1) → zE19 j = E j := fun j zm0 => (zf19 j zm0).trans (zfr17 j zm0)
    refine lv_aload_n hx hb dX8_newPage_63 rfl (lv_at hl 1 rfl) ?_
    refine r_get C zw19 RX8 TX8 17 5 hinX8 (i := q) (by omega) zk19_0 rfl 1 (by decide) (by decide +kernel) rfl (v := .ref (ad (q + 1))) rfl dX8_newPage_64 ?_
    refine lv_iload hx hb dX8_newPage_67 (lv_at hl 0 rfl) ?_
    refine r_sI C zw19 hl.1 [.int (nI 9)] 1 rfl (c_X8_at (l := l) (G := G) (tC := tC) (ad := ad) (N := N) (E := zE19) (k := 9)   ) gX8_newPage_X8_at rfl ⟨rfl, rfl⟩ (by decide +kernel) ⟨Nat.le_of_ble_eq_true rfl, Nat.le_of_ble_eq_true rfl⟩ (rest := [.ref (ad (q + 1))]) rfl (Nat.le_of_ble_eq_true rfl) dX8_newPage_69 ⟨Nat.zero_le _, Nat.zero_le _⟩ (fun zr20 zE20 zH20 zL20 zp20 zw20 => ?_)
    obtain ⟨ze20, zq20⟩ := zp20
    rw [ze20] at zw20
    clear ze20
    rw [zq20]
    refine lv_iconst (v := nI 2) hx hb dX8_newPage_72 rfl ?_
    refine lv_iadd hx hb dX8_newPage_73 ?_
    refine r_nat (8 + 50 * 9 + 2) (nI_add _ _) ?_
    refine lv_iload_n hx hb dX8_newPage_74 rfl (lv_at hl 4 rfl) ?_
    refine r_iasN C zw20 (i := (q + 1)) (by omega) zh19_0 (j := 8 + 50 * 9 + 2) (by omega) (by omega) dX8_newPage_75 (fun zE21 zH21 zL21 zg21 zf21 zw21 => ?_)
    have zh21_0 : zE21 (q + 1) = eI G 508 (upd (upd (upd (upd (goesF s pg (oldS (latF s) (pg - 1))) 0 (nI (9 + 1))) (8 + 50 * 9 + 0) b) (8 + 50 * 9 + 1) n) (8 + 50 * 9 + 2) p9) := zg21
    have zk21_0 : zE21 q = .inr (5, [.int th, .ref (ad (q + 1)), .long se, .ref (ad (q + 2)), .ref (ad (q + 3)), .int (nI co), .ref (ad (q + 4)), .int (nI pm), .ref (ad (q + 5)), .ref (ad (q + 6)), .ref (ad (q + 7)), .ref (ad (q + 8)), .int (nI em), .ref (ad (q + 9)), .ref (ad (q + 10)), .ref (ad (q + 11)), .ref (ad (q + 12))]) := (zf21 _ (by omega)).trans zk19_0
    have zfr21 : ∀ j, j ≠ (q + 1) → zE21 j = E j := fun j zm0 => (zf21 j zm0).trans (zfr19 j zm0)
    refine lv_aload_n hx hb dX8_newPage_76 rfl (lv_at hl 1 rfl) ?_
    refine r_get C zw21 RX8 TX8 17 5 hinX8 (i := q) (by omega) zk21_0 rfl 1 (by decide) (by decide +kernel) rfl (v := .ref (ad (q + 1))) rfl dX8_newPage_77 ?_
    refine lv_iload hx hb dX8_newPage_80 (lv_at hl 0 rfl) ?_
    refine r_sI C zw21 hl.1 [.int (nI 9)] 1 rfl (c_X8_at (l := l) (G := G) (tC := tC) (ad := ad) (N := N) (E := zE21) (k := 9)   ) gX8_newPage_X8_at rfl ⟨rfl, rfl⟩ (by decide +kernel) ⟨Nat.le_of_ble_eq_true rfl, Nat.le_of_ble_eq_true rfl⟩ (rest := [.ref (ad (q + 1))]) rfl (Nat.le_of_ble_eq_true rfl) dX8_newPage_82 ⟨Nat.zero_le _, Nat.zero_le _⟩ (fun zr22 zE22 zH22 zL22 zp22 zw22 => ?_)
    obtain ⟨ze22, zq22⟩ := zp22
    rw [ze22] at zw22
    clear ze22
    rw [zq22]
    refine lv_iconst (v := nI 3) hx hb dX8_newPage_85 rfl ?_
    refine lv_iadd hx hb dX8_newPage_86 ?_
    refine r_nat (8 + 50 * 9 + 3) (nI_add _ _) ?_
    refine lv_iconst (v := nI 0) hx hb dX8_newPage_87 rfl ?_
    refine r_iasN C zw22 (i := (q + 1)) (by omega) zh21_0 (j := 8 + 50 * 9 + 3) (by omega) (by omega) dX8_newPage_88 (fun zE23 zH23 zL23 zg23 zf23 zw23 => ?_)
    have zh23_0 : zE23 (q + 1) = eI G 508 (upd (upd (upd (upd (upd (goesF s pg (oldS (latF s) (pg - 1))) 0 (nI (9 + 1))) (8 + 50 * 9 + 0) b) (8 + 50 * 9 + 1) n) (8 + 50 * 9 + 2) p9) (8 + 50 * 9 + 3) (nI 0)) := zg23
    have zk23_0 : zE23 q = .inr (5, [.int th, .ref (ad (q + 1)), .long se, .ref (ad (q + 2)), .ref (ad (q + 3)), .int (nI co), .ref (ad (q + 4)), .int (nI pm), .ref (ad (q + 5)), .ref (ad (q + 6)), .ref (ad (q + 7)), .ref (ad (q + 8)), .int (nI em), .ref (ad (q + 9)), .ref (ad (q + 10)), .ref (ad (q + 11)), .ref (ad (q + 12))]) := (zf23 _ (by omega)).trans zk21_0
    have zfr23 : ∀ j, j ≠ (q + 1) → zE23 j = E j := fun j zm0 => (zf23 j zm0).trans (zfr21 j zm0)
    refine lv_aload_n hx hb dX8_newPage_89 rfl (lv_at hl 1 rfl) ?_
    refine r_get C zw23 RX8 TX8 17 5 hinX8 (i := q) (by omega) zk23_0 rfl 1 (by decide) (by decide +kernel) rfl (v := .ref (ad (q + 1))) rfl dX8_newPage_90 ?_
    refine lv_iload hx hb dX8_newPage_93 (lv_at hl 0 rfl) ?_
    refine r_sI C zw23 hl.1 [.int (nI 9)] 1 rfl (c_X8_at (l := l) (G := G) (tC := tC) (ad := ad) (N := N) (E := zE23) (k := 9)   ) gX8_newPage_X8_at rfl ⟨rfl, rfl⟩ (by decide +kernel) ⟨Nat.le_of_ble_eq_true rfl, Nat.le_of_ble_eq_true rfl⟩ (rest := [.ref (ad (q + 1))]) rfl (Nat.le_of_ble_eq_true rfl) dX8_newPage_95 ⟨Nat.zero_le _, Nat.zero_le _⟩ (fun zr24 zE24 zH24 zL24 zp24 zw24 => ?_)
    obtain ⟨ze24, zq24⟩ := zp24
    rw [ze24] at zw24
    clear ze24
    rw [zq24]
    refine lv_iconst (v := nI 4) hx hb dX8_newPage_98 rfl ?_
    refine lv_iadd hx hb dX8_newPage_99 ?_
    refine r_nat (8 + 50 * 9 + 4) (nI_add _ _) ?_
    refine lv_iconst (v := nI 1) hx hb dX8_newPage_100 rfl ?_
    refine r_iasN C zw24 (i := (q + 1)) (by omega) zh23_0 (j := 8 + 50 * 9 + 4) (by omega) (by omega) dX8_newPage_101 (fun zE25 zH25 zL25 zg25 zf25 zw25 => ?_)
    have zh25_0 : zE25 (q + 1) = eI G 508 (upd (upd (upd (upd (upd (upd (goesF s pg (oldS (latF s) (pg - 1))) 0 (nI (9 + 1))) (8 + 50 * 9 + 0) b) (8 + 50 * 9 + 1) n) (8 + 50 * 9 + 2) p9) (8 + 50 * 9 + 3) (nI 0)) (8 + 50 * 9 + 4) (nI 1)) := zg25
    have zk25_0 : zE25 q = .inr (5, [.int th, .ref (ad (q + 1)), .long se, .ref (ad (q + 2)), .ref (ad (q + 3)), .int (nI co), .ref (ad (q + 4)), .int (nI pm), .ref (ad (q + 5)), .ref (ad (q + 6)), .ref (ad (q + 7)), .ref (ad (q + 8)), .int (nI em), .ref (ad (q + 9)), .ref (ad (q + 10)), .ref (ad (q + 11)), .ref (ad (q + 12))]) := (zf25 _ (by omega)).trans zk23_0
    have zfr25 : ∀ j, j ≠ (q + 1) → zE25 j = E j := fun j zm0 => (zf25 j zm0).trans (zfr23 j zm0)
    refine lv_aload_n hx hb dX8_newPage_102 rfl (lv_at hl 1 rfl) ?_
    refine lv_iload hx hb dX8_newPage_103 (lv_at hl 0 rfl) ?_
    refine r_vV C zw25 hl.1 (i := q) (by omega) zk25_0 (T := TX8) (n := 17) rfl [.int (nI 9)] 1 rfl (c_X8_empties (l := l) (G := G) (tC := tC) (ad := ad) (N := N) (E := zE25) (q := q) (co := co) (pm := pm) (em := em) (th := th) (se := se) (s := upd (upd (upd (upd (upd (upd (goesF s pg (oldS (latF s) (pg - 1))) 0 (nI (9 + 1))) (8 + 50 * 9 + 0) b) (8 + 50 * 9 + 1) n) (8 + 50 * 9 + 2) p9) (8 + 50 * 9 + 3) (nI 0)) (8 + 50 * 9 + 4) (nI 1)) (k := 9) (by omega) zk25_0 zh25_0 (by first | assumption | omega)) gX8_newPage_X8_empties rfl ⟨rfl, rfl⟩ (by decide +kernel) ⟨Nat.le_of_ble_eq_true rfl, Nat.le_of_ble_eq_true rfl⟩ (rest := []) rfl (Nat.le_of_ble_eq_true rfl) dX8_newPage_105 ⟨Nat.zero_le _, Nat.zero_le _⟩ (fun zE26 zH26 zL26 zp26 zw26 => ?_)
    obtain ⟨zg26_0, zf26⟩ := zp26
    have zh26_0 : zE26 (q + 1) = eI G 508 (empF (upd (upd (upd (upd (upd (upd (goesF s pg (oldS (latF s) (pg - 1))) 0 (nI (9 + 1))) (8 + 50 * 9 + 0) b) (8 + 50 * 9 + 1) n) (8 + 50 * 9 + 2) p9) (8 + 50 * 9 + 3) (nI 0)) (8 + 50 * 9 + 4) (nI 1)) 9) := zg26_0
    have zk26_0 : zE26 q = .inr (5, [.int th, .ref (ad (q + 1)), .long se, .ref (ad (q + 2)), .ref (ad (q + 3)), .int (nI co), .ref (ad (q + 4)), .int (nI pm), .ref (ad (q + 5)), .ref (ad (q + 6)), .ref (ad (q + 7)), .ref (ad (q + 8)), .int (nI em), .ref (ad (q + 9)), .ref (ad (q + 10)), .ref (ad (q + 11)), .ref (ad (q + 12))]) := (zf26 _ (by omega)).trans zk25_0
    have zfr26 : ∀ j, j ≠ (q + 1) → zE26 j = E j := fun j zm0 => (zf26 j zm0).trans (zfr25 j zm0)
    refine lv_iload hx hb dX8_newPage_108 (lv_at hl 0 rfl) ?_
    exact r_iret C zw26 dX8_newPage_110 ⟨(zh26_0.trans (by rw [newF, newB, newK, if_pos zc8, if_pos zc8, zc8]; rfl)), (fun j zm0 => zfr26 j zm0), (by rw [newK, if_pos zc8])⟩

