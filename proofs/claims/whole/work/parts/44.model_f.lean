set_option maxHeartbeats 4000000 in
set_option maxRecDepth 100000 in
theorem c_X8_isBetter {l : Launch} {G : vG} {tC : Nat} {ad : Nat → Nat} {N : Nat} {E : Nat → va_E} {q co pm em : Nat} {th : Int32} {se : Int64} {pg : Nat} {s : Nat → Int32} {og le : Nat → Int32} {rho k o : Nat} {tm : Int32} (hN0 : q + 13 ≤ N) (hE0 : E q = .inr (5, [.int th, .ref (ad (q + 1)), .long se, .ref (ad (q + 2)), .ref (ad (q + 3)), .int (nI co), .ref (ad (q + 4)), .int (nI pm), .ref (ad (q + 5)), .ref (ad (q + 6)), .ref (ad (q + 7)), .ref (ad (q + 8)), .int (nI em), .ref (ad (q + 9)), .ref (ad (q + 10)), .ref (ad (q + 11)), .ref (ad (q + 12))])) (hE1 : E (q + 1) = eI G 508 s) (hE2 : E (q + 10) = eI G 10 og) (hE3 : E (q + 11) = eI G 10 le) (hk : k < 10) (ho : o < 10) (hr : rho ≤ 3) : MI l yX8_isBetter wsX8_isBetter ({ frames := 4, cells := 0, slots := 0, locals := 88 } : Room) G tC ad N E [.ref (ad q), .int (nI rho), .int (nI k), .int (nI o), .int tm] (fun r E2 => E2 = E ∧ r = if btr (lenF s) (wtF s) og le tm rho k o then 1 else 0) := by
  refine MI_of RX8 rfl (by decide) rfl (Nat.le_of_ble_eq_true rfl) ?_
  intro pp_ ee_ ss_ mm_ aa_ bb_ me_ cc_ A ls C hw hl
  have hx := C.1
  have hb := C.2.1
  have hown := C.2.2.2.2.1
  have hts := C.2.2.2.2.2.1
  have hl : lv_has ls 7 [(0, .ref (ad q)), (1, .int (nI rho)), (2, .int (nI k)), (3, .int (nI o)), (4, .int tm)] := hl
  have hinX8 : ∀ w ∈ u_ws RX8 TX8 17, w ∈ wsX8_isBetter := by decide +kernel
  refine lv_iload_n hx hb dX8_isBetter_0 rfl (lv_at hl 1 rfl) ?_
  refine lv_iconst (v := nI 1) hx hb dX8_isBetter_1 rfl ?_
  refine n_icmp_ne (tgt := 50) hx hb dX8_isBetter_2 (by decide) (by omega) (by omega) (fun zc2 => ?_) (fun zc2 => ?_)
  · refine lv_aload_n hx hb dX8_isBetter_50 rfl (lv_at hl 0 rfl) ?_
    refine r_get C hw RX8 TX8 17 5 hinX8 (i := q) (by omega) hE0 rfl 14 (by decide) (by decide +kernel) rfl (v := .ref (ad (q + 10))) rfl dX8_isBetter_51 ?_
    refine lv_iload_n hx hb dX8_isBetter_54 rfl (lv_at hl 2 rfl) ?_
    refine r_iaN C hw (i := (q + 10)) (by omega) hE2 (j := k) (by omega) (by omega) dX8_isBetter_55 ?_
    refine lv_iconst (v := nI 1) hx hb dX8_isBetter_56 rfl ?_
    refine lv_iadd hx hb dX8_isBetter_57 ?_
    refine lv_aload_n hx hb dX8_isBetter_58 rfl (lv_at hl 0 rfl) ?_
    refine lv_iload_n hx hb dX8_isBetter_59 rfl (lv_at hl 2 rfl) ?_
    refine r_vI C hw hl.1 (i := q) (by omega) hE0 (T := TX8) (n := 17) rfl [.int (nI k)] 1 rfl (c_X8_lengthOf (l := l) (G := G) (tC := tC) (ad := ad) (N := N) (E := E) (q := q) (co := co) (pm := pm) (em := em) (th := th) (se := se) (s := s) (k := k) (by omega) hE0 hE1 (by first | assumption | omega)) gX8_isBetter_X8_lengthOf rfl ⟨rfl, rfl⟩ (by decide +kernel) ⟨Nat.le_of_ble_eq_true rfl, Nat.le_of_ble_eq_true rfl⟩ (rest := [.int ((og k) + (nI 1))]) rfl (Nat.le_of_ble_eq_true rfl) dX8_isBetter_60 ⟨Nat.zero_le _, Nat.zero_le _⟩ (fun zr1 zE1 zH1 zL1 zp1 zw1 => ?_)
    obtain ⟨ze1, zq1⟩ := zp1
    rw [ze1] at zw1
    clear ze1
    rw [zq1]
    refine lv_imul hx hb dX8_isBetter_63 ?_
    refine lv_istore (lv' := [(5, .int (((og k) + (nI 1)) * (nI (lenN (lkL s k) (ltF s k))))), (0, .ref (ad q)), (1, .int (nI rho)), (2, .int (nI k)), (3, .int (nI o)), (4, .int tm)]) hx hb dX8_isBetter_64 hl (by decide) rfl (fun ls hl => ?_)
    refine lv_aload_n hx hb dX8_isBetter_66 rfl (lv_at hl 1 rfl) ?_
    refine r_get C zw1 RX8 TX8 17 5 hinX8 (i := q) (by omega) hE0 rfl 14 (by decide) (by decide +kernel) rfl (v := .ref (ad (q + 10))) rfl dX8_isBetter_67 ?_
    refine lv_iload_n hx hb dX8_isBetter_70 rfl (lv_at hl 4 rfl) ?_
    refine r_iaN C zw1 (i := (q + 10)) (by omega) hE2 (j := o) (by omega) (by omega) dX8_isBetter_71 ?_
    refine lv_iconst (v := nI 1) hx hb dX8_isBetter_72 rfl ?_
    refine lv_iadd hx hb dX8_isBetter_73 ?_
    refine lv_aload_n hx hb dX8_isBetter_74 rfl (lv_at hl 1 rfl) ?_
    refine lv_iload_n hx hb dX8_isBetter_75 rfl (lv_at hl 4 rfl) ?_
    refine r_vI C zw1 hl.1 (i := q) (by omega) hE0 (T := TX8) (n := 17) rfl [.int (nI o)] 1 rfl (c_X8_lengthOf (l := l) (G := G) (tC := tC) (ad := ad) (N := N) (E := E) (q := q) (co := co) (pm := pm) (em := em) (th := th) (se := se) (s := s) (k := o) (by omega) hE0 hE1 (by first | assumption | omega)) gX8_isBetter_X8_lengthOf rfl ⟨rfl, rfl⟩ (by decide +kernel) ⟨Nat.le_of_ble_eq_true rfl, Nat.le_of_ble_eq_true rfl⟩ (rest := [.int ((og o) + (nI 1))]) rfl (Nat.le_of_ble_eq_true rfl) dX8_isBetter_76 ⟨Nat.zero_le _, Nat.zero_le _⟩ (fun zr2 zE2 zH2 zL2 zp2 zw2 => ?_)
    obtain ⟨ze2, zq2⟩ := zp2
    rw [ze2] at zw2
    clear ze2
    rw [zq2]
    refine lv_imul hx hb dX8_isBetter_79 ?_
    refine lv_istore (lv' := [(6, .int (((og o) + (nI 1)) * (nI (lenN (lkL s o) (ltF s o))))), (5, .int (((og k) + (nI 1)) * (nI (lenN (lkL s k) (ltF s k))))), (0, .ref (ad q)), (1, .int (nI rho)), (2, .int (nI k)), (3, .int (nI o)), (4, .int tm)]) hx hb dX8_isBetter_80 hl (by decide) rfl (fun ls hl => ?_)
    refine lv_iload_n hx hb dX8_isBetter_82 rfl (lv_at hl 3 rfl) ?_
    refine lv_iconst (v := nI 2) hx hb dX8_isBetter_83 rfl ?_
    refine n_icmp_ne (tgt := 116) hx hb dX8_isBetter_84 (by decide) (by omega) (by omega) (fun zc84 => ?_) (fun zc84 => ?_)
    · refine lv_iload hx hb dX8_isBetter_116 (lv_at hl 1 rfl) ?_
      refine lv_iload hx hb dX8_isBetter_118 (lv_at hl 0 rfl) ?_
      refine lv_icmp_ge (tgt := 127) hx hb dX8_isBetter_120 (by decide) (fun zc120 => ?_) (fun zc120 => ?_)
      · refine lv_iconst (v := nI 0) hx hb dX8_isBetter_127 rfl ?_
        exact r_zret C zw2 dX8_isBetter_128 (Or.inl rfl) ⟨rfl, (by rw [if_neg (fun zq => zq.elim (fun z => zc2 z.1) (fun z => z.elim (fun z => zc84 z.1) (fun z => Int32.not_lt.mpr zc120 z.2.2)))]; rfl)⟩
      · refine lv_iconst (v := nI 1) hx hb dX8_isBetter_123 rfl ?_
        refine lv_goto (tgt := 128) hx hb dX8_isBetter_124 (by decide) ?_
        exact r_zret C zw2 dX8_isBetter_128 (Or.inr rfl) ⟨rfl, (by rw [if_pos (Or.inr (Or.inr ⟨zc2, zc84, Int32.not_le.mp zc120⟩))]; rfl)⟩
    · refine lv_iload hx hb dX8_isBetter_87 (lv_at hl 1 rfl) ?_
      refine lv_aload_n hx hb dX8_isBetter_89 rfl (lv_at hl 2 rfl) ?_
      refine lv_iload_n hx hb dX8_isBetter_90 rfl (lv_at hl 5 rfl) ?_
      refine lv_iconst (v := nI 4) hx hb dX8_isBetter_91 rfl ?_
      refine r_vI C zw2 hl.1 (i := q) (by omega) hE0 (T := TX8) (n := 17) rfl [.int (nI o), .int (nI 4)] 2 rfl (c_X8_of (l := l) (G := G) (tC := tC) (ad := ad) (N := N) (E := E) (q := q) (co := co) (pm := pm) (em := em) (th := th) (se := se) (s := s) (k := o) (w := 4) (by omega) hE0 hE1 (by first | assumption | omega)) gX8_isBetter_X8_of rfl ⟨rfl, rfl⟩ (by decide +kernel) ⟨Nat.le_of_ble_eq_true rfl, Nat.le_of_ble_eq_true rfl⟩ (rest := [.int (((og k) + (nI 1)) * (nI (lenN (lkL s k) (ltF s k))))]) rfl (Nat.le_of_ble_eq_true rfl) dX8_isBetter_92 ⟨Nat.zero_le _, Nat.zero_le _⟩ (fun zr3 zE3 zH3 zL3 zp3 zw3 => ?_)
      obtain ⟨ze3, zq3⟩ := zp3
      rw [ze3] at zw3
      clear ze3
      rw [zq3]
      refine lv_imul hx hb dX8_isBetter_95 ?_
      refine lv_iload hx hb dX8_isBetter_96 (lv_at hl 0 rfl) ?_
      refine lv_aload_n hx hb dX8_isBetter_98 rfl (lv_at hl 2 rfl) ?_
      refine lv_iload_n hx hb dX8_isBetter_99 rfl (lv_at hl 4 rfl) ?_
      refine lv_iconst (v := nI 4) hx hb dX8_isBetter_100 rfl ?_
      refine r_vI C zw3 hl.1 (i := q) (by omega) hE0 (T := TX8) (n := 17) rfl [.int (nI k), .int (nI 4)] 2 rfl (c_X8_of (l := l) (G := G) (tC := tC) (ad := ad) (N := N) (E := E) (q := q) (co := co) (pm := pm) (em := em) (th := th) (se := se) (s := s) (k := k) (w := 4) (by omega) hE0 hE1 (by first | assumption | omega)) gX8_isBetter_X8_of rfl ⟨rfl, rfl⟩ (by decide +kernel) ⟨Nat.le_of_ble_eq_true rfl, Nat.le_of_ble_eq_true rfl⟩ (rest := [.int (((og o) + (nI 1)) * (nI (lenN (lkL s o) (ltF s o)))), .int ((((og k) + (nI 1)) * (nI (lenN (lkL s k) (ltF s k)))) * (s (8 + 50 * o + 4)))]) rfl (Nat.le_of_ble_eq_true rfl) dX8_isBetter_101 ⟨Nat.zero_le _, Nat.zero_le _⟩ (fun zr4 zE4 zH4 zL4 zp4 zw4 => ?_)
      obtain ⟨ze4, zq4⟩ := zp4
      rw [ze4] at zw4
      clear ze4
      rw [zq4]
      refine lv_imul hx hb dX8_isBetter_104 ?_
      refine lv_icmp_ge (tgt := 112) hx hb dX8_isBetter_105 (by decide) (fun zc105 => ?_) (fun zc105 => ?_)
      · refine lv_iconst (v := nI 0) hx hb dX8_isBetter_112 rfl ?_
        refine lv_goto (tgt := 128) hx hb dX8_isBetter_113 (by decide) ?_
        exact r_zret C zw4 dX8_isBetter_128 (Or.inl rfl) ⟨rfl, (by rw [if_neg (fun zq => zq.elim (fun z => zc2 z.1) (fun z => z.elim (fun z => Int32.not_lt.mpr zc105 z.2) (fun z => z.2.1 zc84)))]; rfl)⟩
      · refine lv_iconst (v := nI 1) hx hb dX8_isBetter_108 rfl ?_
        refine lv_goto (tgt := 128) hx hb dX8_isBetter_109 (by decide) ?_
        exact r_zret C zw4 dX8_isBetter_128 (Or.inr rfl) ⟨rfl, (by rw [if_pos (Or.inr (Or.inl ⟨zc84, Int32.not_le.mp zc105⟩))]; rfl)⟩
  · refine lv_aload_n hx hb dX8_isBetter_5 rfl (lv_at hl 0 rfl) ?_
    refine lv_iload_n hx hb dX8_isBetter_6 rfl (lv_at hl 2 rfl) ?_
    refine lv_iconst (v := nI 4) hx hb dX8_isBetter_7 rfl ?_
    refine r_vI C hw hl.1 (i := q) (by omega) hE0 (T := TX8) (n := 17) rfl [.int (nI k), .int (nI 4)] 2 rfl (c_X8_of (l := l) (G := G) (tC := tC) (ad := ad) (N := N) (E := E) (q := q) (co := co) (pm := pm) (em := em) (th := th) (se := se) (s := s) (k := k) (w := 4) (by omega) hE0 hE1 (by first | assumption | omega)) gX8_isBetter_X8_of rfl ⟨rfl, rfl⟩ (by decide +kernel) ⟨Nat.le_of_ble_eq_true rfl, Nat.le_of_ble_eq_true rfl⟩ (rest := []) rfl (Nat.le_of_ble_eq_true rfl) dX8_isBetter_8 ⟨Nat.zero_le _, Nat.zero_le _⟩ (fun zr5 zE5 zH5 zL5 zp5 zw5 => ?_)
    obtain ⟨ze5, zq5⟩ := zp5
    rw [ze5] at zw5
    clear ze5
    rw [zq5]
    refine lv_iload hx hb dX8_isBetter_11 (lv_at hl 4 rfl) ?_
    refine lv_aload_n hx hb dX8_isBetter_13 rfl (lv_at hl 0 rfl) ?_
    refine r_get C zw5 RX8 TX8 17 5 hinX8 (i := q) (by omega) hE0 rfl 15 (by decide) (by decide +kernel) rfl (v := .ref (ad (q + 11))) rfl dX8_isBetter_14 ?_
    refine lv_iload_n hx hb dX8_isBetter_17 rfl (lv_at hl 2 rfl) ?_
    refine r_iaN C zw5 (i := (q + 11)) (by omega) hE3 (j := k) (by omega) (by omega) dX8_isBetter_18 ?_
    refine lv_isub hx hb dX8_isBetter_19 ?_
    refine lv_iconst (v := nI 1) hx hb dX8_isBetter_20 rfl ?_
    refine lv_iadd hx hb dX8_isBetter_21 ?_
    refine lv_imul hx hb dX8_isBetter_22 ?_
    refine lv_aload_n hx hb dX8_isBetter_23 rfl (lv_at hl 0 rfl) ?_
    refine lv_iload_n hx hb dX8_isBetter_24 rfl (lv_at hl 3 rfl) ?_
    refine lv_iconst (v := nI 4) hx hb dX8_isBetter_25 rfl ?_
    refine r_vI C zw5 hl.1 (i := q) (by omega) hE0 (T := TX8) (n := 17) rfl [.int (nI o), .int (nI 4)] 2 rfl (c_X8_of (l := l) (G := G) (tC := tC) (ad := ad) (N := N) (E := E) (q := q) (co := co) (pm := pm) (em := em) (th := th) (se := se) (s := s) (k := o) (w := 4) (by omega) hE0 hE1 (by first | assumption | omega)) gX8_isBetter_X8_of rfl ⟨rfl, rfl⟩ (by decide +kernel) ⟨Nat.le_of_ble_eq_true rfl, Nat.le_of_ble_eq_true rfl⟩ (rest := [.int ((s (8 + 50 * k + 4)) * ((tm - (le k)) + (nI 1)))]) rfl (Nat.le_of_ble_eq_true rfl) dX8_isBetter_26 ⟨Nat.zero_le _, Nat.zero_le _⟩ (fun zr6 zE6 zH6 zL6 zp6 zw6 => ?_)
    obtain ⟨ze6, zq6⟩ := zp6
    rw [ze6] at zw6
    clear ze6
    rw [zq6]
    refine lv_iload hx hb dX8_isBetter_29 (lv_at hl 4 rfl) ?_
    refine lv_aload_n hx hb dX8_isBetter_31 rfl (lv_at hl 0 rfl) ?_
    refine r_get C zw6 RX8 TX8 17 5 hinX8 (i := q) (by omega) hE0 rfl 15 (by decide) (by decide +kernel) rfl (v := .ref (ad (q + 11))) rfl dX8_isBetter_32 ?_
    refine lv_iload_n hx hb dX8_isBetter_35 rfl (lv_at hl 3 rfl) ?_
    refine r_iaN C zw6 (i := (q + 11)) (by omega) hE3 (j := o) (by omega) (by omega) dX8_isBetter_36 ?_
    refine lv_isub hx hb dX8_isBetter_37 ?_
    refine lv_iconst (v := nI 1) hx hb dX8_isBetter_38 rfl ?_
    refine lv_iadd hx hb dX8_isBetter_39 ?_
    refine lv_imul hx hb dX8_isBetter_40 ?_
    refine lv_icmp_le (tgt := 48) hx hb dX8_isBetter_41 (by decide) (fun zc41 => ?_) (fun zc41 => ?_)
    · refine lv_iconst (v := nI 0) hx hb dX8_isBetter_48 rfl ?_
      exact r_zret C zw6 dX8_isBetter_49 (Or.inl rfl) ⟨rfl, (by rw [if_neg (fun zq => zq.elim (fun z => Int32.not_lt.mpr zc41 z.2) (fun z => z.elim (fun z => absurd z.1 (by omega)) (fun z => z.1 zc2)))]; rfl)⟩
    · refine lv_iconst (v := nI 1) hx hb dX8_isBetter_44 rfl ?_
      refine lv_goto (tgt := 49) hx hb dX8_isBetter_45 (by decide) ?_
      exact r_zret C zw6 dX8_isBetter_49 (Or.inr rfl) ⟨rfl, (by rw [if_pos (Or.inl ⟨zc2, Int32.not_le.mp zc41⟩)]; rfl)⟩

set_option maxHeartbeats 4000000 in
set_option maxRecDepth 100000 in
theorem c_X8_waited {l : Launch} {G : vG} {tC : Nat} {ad : Nat → Nat} {N : Nat} {E : Nat → va_E} {q co pm em : Nat} {th : Int32} {se : Int64} {le wa : Nat → Int32} {k : Nat} {tm : Int32} (hN0 : q + 13 ≤ N) (hE0 : E q = .inr (5, [.int th, .ref (ad (q + 1)), .long se, .ref (ad (q + 2)), .ref (ad (q + 3)), .int (nI co), .ref (ad (q + 4)), .int (nI pm), .ref (ad (q + 5)), .ref (ad (q + 6)), .ref (ad (q + 7)), .ref (ad (q + 8)), .int (nI em), .ref (ad (q + 9)), .ref (ad (q + 10)), .ref (ad (q + 11)), .ref (ad (q + 12))])) (hE1 : E (q + 11) = eI G 10 le) (hE2 : E (q + 12) = eI G 10 wa) (hk : k < 10) : MV l yX8_waited wsX8_waited ({ frames := 0, cells := 0, slots := 0, locals := 0 } : Room) G tC ad N E [.ref (ad q), .int (nI k), .int tm] (fun E2 => E2 (q + 12) = eI G 10 (upd wa k (mxI (wa k) (tm - le k))) ∧ (∀ j, j ≠ (q + 12) → E2 j = E j)) := by
  refine MV_of RX8 rfl (by decide) rfl (Nat.le_of_ble_eq_true rfl) ?_
  intro pp_ ee_ ss_ mm_ aa_ bb_ me_ cc_ A ls C hw hl
  have hx := C.1
  have hb := C.2.1
  have hown := C.2.2.2.2.1
  have hts := C.2.2.2.2.2.1
  have hl : lv_has ls 3 [(0, .ref (ad q)), (1, .int (nI k)), (2, .int tm)] := hl
  have hinX8 : ∀ w ∈ u_ws RX8 TX8 17, w ∈ wsX8_waited := by decide +kernel
  refine lv_aload_n hx hb dX8_waited_0 rfl (lv_at hl 0 rfl) ?_
  refine r_get C hw RX8 TX8 17 5 hinX8 (i := q) (by omega) hE0 rfl 16 (by decide) (by decide +kernel) rfl (v := .ref (ad (q + 12))) rfl dX8_waited_1 ?_
  refine lv_iload_n hx hb dX8_waited_4 rfl (lv_at hl 1 rfl) ?_
  refine lv_iload_n hx hb dX8_waited_5 rfl (lv_at hl 2 rfl) ?_
  refine lv_aload_n hx hb dX8_waited_6 rfl (lv_at hl 0 rfl) ?_
  refine r_get C hw RX8 TX8 17 5 hinX8 (i := q) (by omega) hE0 rfl 15 (by decide) (by decide +kernel) rfl (v := .ref (ad (q + 11))) rfl dX8_waited_7 ?_
  refine lv_iload_n hx hb dX8_waited_10 rfl (lv_at hl 1 rfl) ?_
  refine r_iaN C hw (i := (q + 11)) (by omega) hE1 (j := k) (by omega) (by omega) dX8_waited_11 ?_
  refine lv_isub hx hb dX8_waited_12 ?_
  refine lv_aload_n hx hb dX8_waited_13 rfl (lv_at hl 0 rfl) ?_
  refine r_get C hw RX8 TX8 17 5 hinX8 (i := q) (by omega) hE0 rfl 16 (by decide) (by decide +kernel) rfl (v := .ref (ad (q + 12))) rfl dX8_waited_14 ?_
  refine lv_iload_n hx hb dX8_waited_17 rfl (lv_at hl 1 rfl) ?_
  refine r_iaN C hw (i := (q + 12)) (by omega) hE2 (j := k) (by omega) (by omega) dX8_waited_18 ?_
  refine lv_icmp_le (tgt := 33) hx hb dX8_waited_19 (by decide) (fun zc19 => ?_) (fun zc19 => ?_)
  · refine lv_aload_n hx hb dX8_waited_33 rfl (lv_at hl 0 rfl) ?_
    refine r_get C hw RX8 TX8 17 5 hinX8 (i := q) (by omega) hE0 rfl 16 (by decide) (by decide +kernel) rfl (v := .ref (ad (q + 12))) rfl dX8_waited_34 ?_
    refine lv_iload_n hx hb dX8_waited_37 rfl (lv_at hl 1 rfl) ?_
    refine r_iaN C hw (i := (q + 12)) (by omega) hE2 (j := k) (by omega) (by omega) dX8_waited_38 ?_
    refine r_iasN C hw (i := (q + 12)) (by omega) hE2 (j := k) (by omega) (by omega) dX8_waited_39 (fun zE1 zH1 zL1 zg1 zf1 zw1 => ?_)
    have zh1_0 : zE1 (q + 12) = eI G 10 (upd wa k (wa k)) := zg1
    have zk1_0 : zE1 q = .inr (5, [.int th, .ref (ad (q + 1)), .long se, .ref (ad (q + 2)), .ref (ad (q + 3)), .int (nI co), .ref (ad (q + 4)), .int (nI pm), .ref (ad (q + 5)), .ref (ad (q + 6)), .ref (ad (q + 7)), .ref (ad (q + 8)), .int (nI em), .ref (ad (q + 9)), .ref (ad (q + 10)), .ref (ad (q + 11)), .ref (ad (q + 12))]) := (zf1 _ (by omega)).trans hE0
    have zk1_1 : zE1 (q + 11) = eI G 10 le := (zf1 _ (by omega)).trans hE1
    have zfr1 : ∀ j, j ≠ (q + 12) → zE1 j = E j := fun j zm0 => zf1 j zm0
    exact r_vret C zw1 dX8_waited_40 ⟨(zh1_0.trans (by first | rw [mxI, if_pos (Int32.not_le.mp zc19)] | rw [mxI, if_neg (Int32.not_lt.mpr zc19)])), (fun j zm0 => zfr1 j zm0)⟩
  · refine lv_iload_n hx hb dX8_waited_22 rfl (lv_at hl 2 rfl) ?_
    refine lv_aload_n hx hb dX8_waited_23 rfl (lv_at hl 0 rfl) ?_
    refine r_get C hw RX8 TX8 17 5 hinX8 (i := q) (by omega) hE0 rfl 15 (by decide) (by decide +kernel) rfl (v := .ref (ad (q + 11))) rfl dX8_waited_24 ?_
    refine lv_iload_n hx hb dX8_waited_27 rfl (lv_at hl 1 rfl) ?_
    refine r_iaN C hw (i := (q + 11)) (by omega) hE1 (j := k) (by omega) (by omega) dX8_waited_28 ?_
    refine lv_isub hx hb dX8_waited_29 ?_
    refine lv_goto (tgt := 39) hx hb dX8_waited_30 (by decide) ?_
    refine r_iasN C hw (i := (q + 12)) (by omega) hE2 (j := k) (by omega) (by omega) dX8_waited_39 (fun zE2 zH2 zL2 zg2 zf2 zw2 => ?_)
    have zh2_0 : zE2 (q + 12) = eI G 10 (upd wa k (tm - (le k))) := zg2
    have zk2_0 : zE2 q = .inr (5, [.int th, .ref (ad (q + 1)), .long se, .ref (ad (q + 2)), .ref (ad (q + 3)), .int (nI co), .ref (ad (q + 4)), .int (nI pm), .ref (ad (q + 5)), .ref (ad (q + 6)), .ref (ad (q + 7)), .ref (ad (q + 8)), .int (nI em), .ref (ad (q + 9)), .ref (ad (q + 10)), .ref (ad (q + 11)), .ref (ad (q + 12))]) := (zf2 _ (by omega)).trans hE0
    have zk2_1 : zE2 (q + 11) = eI G 10 le := (zf2 _ (by omega)).trans hE1
    have zfr2 : ∀ j, j ≠ (q + 12) → zE2 j = E j := fun j zm0 => zf2 j zm0
    exact r_vret C zw2 dX8_waited_40 ⟨(zh2_0.trans (by first | rw [mxI, if_pos (Int32.not_le.mp zc19)] | rw [mxI, if_neg (Int32.not_lt.mpr zc19)])), (fun j zm0 => zfr2 j zm0)⟩

set_option maxHeartbeats 4000000 in
set_option maxRecDepth 100000 in
theorem c_X8_sends {l : Launch} {G : vG} {tC : Nat} {ad : Nat → Nat} {N : Nat} {E : Nat → va_E} {q co pm em : Nat} {th : Int32} {se : Int64} {pg : Nat} {s : Nat → Int32} {od og le wa : Nat → Int32} {rho n : Nat} (hN0 : q + 13 ≤ N) (hE0 : E q = .inr (5, [.int th, .ref (ad (q + 1)), .long se, .ref (ad (q + 2)), .ref (ad (q + 3)), .int (nI co), .ref (ad (q + 4)), .int (nI pm), .ref (ad (q + 5)), .ref (ad (q + 6)), .ref (ad (q + 7)), .ref (ad (q + 8)), .int (nI em), .ref (ad (q + 9)), .ref (ad (q + 10)), .ref (ad (q + 11)), .ref (ad (q + 12))])) (hE1 : E (q + 1) = eI G 508 s) (hE2 : E (q + 9) = eI G 60 od) (hE3 : E (q + 10) = eI G 10 og) (hE4 : E (q + 11) = eI G 10 le) (hE5 : E (q + 12) = eI G 10 wa) (hs0 : s 0 = nI pg) (hpg : pg ≤ 10) (hr : rho ≤ 3) (hp1 : 0 < pg) (hn : n ≤ 60) : MV l yX8_sends wsX8_sends ({ frames := 5, cells := 0, slots := 0, locals := 114 } : Room) G tC ad N E [.ref (ad q), .int (nI rho), .int (nI n)] (fun E2 => ∃ od2 : Nat → Int32, ∃ og2 : Nat → Int32, ∃ le2 : Nat → Int32, E2 (q + 9) = eI G 60 od2 ∧ E2 (q + 10) = eI G 10 og2 ∧ E2 (q + 11) = eI G 10 le2 ∧ E2 (q + 12) = eI G 10 (waitF (lenF s) (wtF s) rho pg n) ∧ (∀ j, j ≠ (q + 9) → j ≠ (q + 10) → j ≠ (q + 11) → j ≠ (q + 12) → E2 j = E j) ∧ (∀ j, j < n → od2 j = nI (sentK (lenF s) (wtF s) rho pg j))) := by
  refine MV_of RX8 rfl (by decide) rfl (Nat.le_of_ble_eq_true rfl) ?_
  intro pp_ ee_ ss_ mm_ aa_ bb_ me_ cc_ A ls C hw hl
  have hx := C.1
  have hb := C.2.1
  have hown := C.2.2.2.2.1
  have hts := C.2.2.2.2.2.1
  have hl : lv_has ls 7 [(0, .ref (ad q)), (1, .int (nI rho)), (2, .int (nI n))] := hl
  have hinX8 : ∀ w ∈ u_ws RX8 TX8 17, w ∈ wsX8_sends := by decide +kernel
  refine lv_iconst (v := nI 0) hx hb dX8_sends_0 rfl ?_
  refine lv_istore_n (lv' := [(3, .int (nI 0)), (0, .ref (ad q)), (1, .int (nI rho)), (2, .int (nI n))]) hx hb dX8_sends_1 rfl hl (by decide) rfl (fun ls hl => ?_)
  have zlp2 : ∀ (zn : Nat) (z : Nat) (f1 f2 f3 : Nat → Int32), 10 - z < zn → (z ≤ 10) → (f1 = fillF og 0 z (nI 0)) → (f2 = fillF le 0 z (nI 0)) → (f3 = fillF wa 0 z (nI 0)) → ∀ (E9 : Nat → va_E) (H9 : Heap) (L9 : List Loc), E9 q = .inr (5, [.int th, .ref (ad (q + 1)), .long se, .ref (ad (q + 2)), .ref (ad (q + 3)), .int (nI co), .ref (ad (q + 4)), .int (nI pm), .ref (ad (q + 5)), .ref (ad (q + 6)), .ref (ad (q + 7)), .ref (ad (q + 8)), .int (nI em), .ref (ad (q + 9)), .ref (ad (q + 10)), .ref (ad (q + 11)), .ref (ad (q + 12))]) → E9 (q + 1) = eI G 508 s → E9 (q + 9) = eI G 60 od → E9 (q + 10) = eI G 10 f1 → E9 (q + 11) = eI G 10 f2 → E9 (q + 12) = eI G 10 f3 → (∀ j, j ≠ (q + 10) → j ≠ (q + 11) → j ≠ (q + 12) → E9 j = E j) → Wd G A ss_.heap H9 L9 ad E9 N → ∀ (ls : Array Slot), lv_has ls 7 [(0, .ref (ad q)), (1, .int (nI rho)), (2, .int (nI n)), (3, .int (nI z))] → W pp_ l ee_ ({ frames := 5, cells := 0, slots := 0, locals := 114 } : Room) ss_ mm_ aa_ bb_ me_ cc_ H9 L9 0 0 (QV bb_ aa_ ss_ G ad N A (fun E2 => ∃ od2 : Nat → Int32, ∃ og2 : Nat → Int32, ∃ le2 : Nat → Int32, E2 (q + 9) = eI G 60 od2 ∧ E2 (q + 10) = eI G 10 og2 ∧ E2 (q + 11) = eI G 10 le2 ∧ E2 (q + 12) = eI G 10 (waitF (lenF s) (wtF s) rho pg n) ∧ (∀ j, j ≠ (q + 9) → j ≠ (q + 10) → j ≠ (q + 11) → j ≠ (q + 12) → E2 j = E j) ∧ (∀ j, j < n → od2 j = nI (sentK (lenF s) (wtF s) rho pg j)))) (F0 mm_ 2 ls []) := by
    intro zn
    induction zn with
    | zero => intro z f1 f2 f3 zhm; exact absurd zhm (Nat.not_lt_zero _)
    | succ zn zih2 =>
      intro z f1 f2 f3 zhm2 hz hf1 hf2 hf3 zE_2 zH_2 zL_2 zl2_0 zl2_1 zl2_2 zl2_3 zl2_4 zl2_5 zlf2  zlw2 ls hl
      refine lv_iload_n hx hb dX8_sends_2 rfl (lv_at hl 3 rfl) ?_
      refine lv_bipush (v := nI 10) hx hb dX8_sends_3 rfl ?_
      refine n_icmp_ge (tgt := 35) hx hb dX8_sends_5 (by decide) (by omega) (by omega) (fun zc5 => ?_) (fun zc5 => ?_)
      · refine r_congI zlw2 (i := (q + 10)) (by omega) zl2_3 (f2 := fun _ => nI 0) (fun j hj => by rw [hf1, show z = 10 by omega, fillF, if_pos ⟨Nat.zero_le _, hj⟩]) (fun zE1 zg1 zf1 zw1 => ?_)
        have zh1_0 : zE1 (q + 10) = eI G 10 (fun _ => nI 0) := zg1
        have zk1_0 : zE1 q = .inr (5, [.int th, .ref (ad (q + 1)), .long se, .ref (ad (q + 2)), .ref (ad (q + 3)), .int (nI co), .ref (ad (q + 4)), .int (nI pm), .ref (ad (q + 5)), .ref (ad (q + 6)), .ref (ad (q + 7)), .ref (ad (q + 8)), .int (nI em), .ref (ad (q + 9)), .ref (ad (q + 10)), .ref (ad (q + 11)), .ref (ad (q + 12))]) := (zf1 _ (by omega)).trans zl2_0
        have zk1_1 : zE1 (q + 1) = eI G 508 s := (zf1 _ (by omega)).trans zl2_1
        have zk1_2 : zE1 (q + 9) = eI G 60 od := (zf1 _ (by omega)).trans zl2_2
        have zk1_3 : zE1 (q + 11) = eI G 10 f2 := (zf1 _ (by omega)).trans zl2_4
        have zk1_4 : zE1 (q + 12) = eI G 10 f3 := (zf1 _ (by omega)).trans zl2_5
        have zfr1 : ∀ j, j ≠ (q + 10) → j ≠ (q + 11) → j ≠ (q + 12) → zE1 j = E j := fun j zm0 zm1 zm2 => (zf1 j zm0).trans (zlf2 j zm0 zm1 zm2)
        refine r_congI zw1 (i := (q + 11)) (by omega) zk1_3 (f2 := fun _ => nI 0) (fun j hj => by rw [hf2, show z = 10 by omega, fillF, if_pos ⟨Nat.zero_le _, hj⟩]) (fun zE2 zg2 zf2 zw2 => ?_)
        have zh2_0 : zE2 (q + 11) = eI G 10 (fun _ => nI 0) := zg2
        have zk2_0 : zE2 q = .inr (5, [.int th, .ref (ad (q + 1)), .long se, .ref (ad (q + 2)), .ref (ad (q + 3)), .int (nI co), .ref (ad (q + 4)), .int (nI pm), .ref (ad (q + 5)), .ref (ad (q + 6)), .ref (ad (q + 7)), .ref (ad (q + 8)), .int (nI em), .ref (ad (q + 9)), .ref (ad (q + 10)), .ref (ad (q + 11)), .ref (ad (q + 12))]) := (zf2 _ (by omega)).trans zk1_0
        have zk2_1 : zE2 (q + 1) = eI G 508 s := (zf2 _ (by omega)).trans zk1_1
        have zk2_2 : zE2 (q + 9) = eI G 60 od := (zf2 _ (by omega)).trans zk1_2
        have zk2_3 : zE2 (q + 12) = eI G 10 f3 := (zf2 _ (by omega)).trans zk1_4
        have zk2_4 : zE2 (q + 10) = eI G 10 (fun _ => nI 0) := (zf2 _ (by omega)).trans zh1_0
        have zfr2 : ∀ j, j ≠ (q + 10) → j ≠ (q + 11) → j ≠ (q + 12) → zE2 j = E j := fun j zm0 zm1 zm2 => (zf2 j zm1).trans (zfr1 j zm0 zm1 zm2)
        refine r_congI zw2 (i := (q + 12)) (by omega) zk2_3 (f2 := fun _ => nI 0) (fun j hj => by rw [hf3, show z = 10 by omega, fillF, if_pos ⟨Nat.zero_le _, hj⟩]) (fun zE3 zg3 zf3 zw3 => ?_)
        have zh3_0 : zE3 (q + 12) = eI G 10 (fun _ => nI 0) := zg3
        have zk3_0 : zE3 q = .inr (5, [.int th, .ref (ad (q + 1)), .long se, .ref (ad (q + 2)), .ref (ad (q + 3)), .int (nI co), .ref (ad (q + 4)), .int (nI pm), .ref (ad (q + 5)), .ref (ad (q + 6)), .ref (ad (q + 7)), .ref (ad (q + 8)), .int (nI em), .ref (ad (q + 9)), .ref (ad (q + 10)), .ref (ad (q + 11)), .ref (ad (q + 12))]) := (zf3 _ (by omega)).trans zk2_0
        have zk3_1 : zE3 (q + 1) = eI G 508 s := (zf3 _ (by omega)).trans zk2_1
        have zk3_2 : zE3 (q + 9) = eI G 60 od := (zf3 _ (by omega)).trans zk2_2
        have zk3_3 : zE3 (q + 10) = eI G 10 (fun _ => nI 0) := (zf3 _ (by omega)).trans zk2_4
        have zk3_4 : zE3 (q + 11) = eI G 10 (fun _ => nI 0) := (zf3 _ (by omega)).trans zh2_0
        have zfr3 : ∀ j, j ≠ (q + 10) → j ≠ (q + 11) → j ≠ (q + 12) → zE3 j = E j := fun j zm0 zm1 zm2 => (zf3 j zm2).trans (zfr2 j zm0 zm1 zm2)
        refine lv_iconst (v := nI 0) hx hb dX8_sends_35 rfl ?_
        refine lv_istore_n (lv' := [(3, .int (nI 0)), (0, .ref (ad q)), (1, .int (nI rho)), (2, .int (nI n))]) hx hb dX8_sends_36 rfl hl (by decide) rfl (fun ls hl => ?_)
        refine lv_iconst (v := nI 0) hx hb dX8_sends_37 rfl ?_
        refine lv_istore (lv' := [(4, .int (nI 0)), (3, .int (nI 0)), (0, .ref (ad q)), (1, .int (nI rho)), (2, .int (nI n))]) hx hb dX8_sends_38 hl (by decide) rfl (fun ls hl => ?_)
        have zlp40 : ∀ (zn : Nat) (i : Nat) (tm : Int32) (g9 g0 g1 g2 : Nat → Int32), n - i < zn → (i ≤ n) → ((tm, g0, g1, g2) = rs (lenF s) (wtF s) rho pg i) → (∀ j, j < i → g9 j = nI (sentK (lenF s) (wtF s) rho pg j)) → ∀ (E9 : Nat → va_E) (H9 : Heap) (L9 : List Loc), E9 q = .inr (5, [.int th, .ref (ad (q + 1)), .long se, .ref (ad (q + 2)), .ref (ad (q + 3)), .int (nI co), .ref (ad (q + 4)), .int (nI pm), .ref (ad (q + 5)), .ref (ad (q + 6)), .ref (ad (q + 7)), .ref (ad (q + 8)), .int (nI em), .ref (ad (q + 9)), .ref (ad (q + 10)), .ref (ad (q + 11)), .ref (ad (q + 12))]) → E9 (q + 1) = eI G 508 s → E9 (q + 9) = eI G 60 g9 → E9 (q + 10) = eI G 10 g0 → E9 (q + 11) = eI G 10 g1 → E9 (q + 12) = eI G 10 g2 → (∀ j, j ≠ (q + 10) → j ≠ (q + 11) → j ≠ (q + 12) → j ≠ (q + 9) → E9 j = E j) → Wd G A ss_.heap H9 L9 ad E9 N → ∀ (ls : Array Slot), lv_has ls 7 [(0, .ref (ad q)), (1, .int (nI rho)), (2, .int (nI n)), (3, .int tm), (4, .int (nI i))] → W pp_ l ee_ ({ frames := 5, cells := 0, slots := 0, locals := 114 } : Room) ss_ mm_ aa_ bb_ me_ cc_ H9 L9 0 0 (QV bb_ aa_ ss_ G ad N A (fun E2 => ∃ od2 : Nat → Int32, ∃ og2 : Nat → Int32, ∃ le2 : Nat → Int32, E2 (q + 9) = eI G 60 od2 ∧ E2 (q + 10) = eI G 10 og2 ∧ E2 (q + 11) = eI G 10 le2 ∧ E2 (q + 12) = eI G 10 (waitF (lenF s) (wtF s) rho pg n) ∧ (∀ j, j ≠ (q + 9) → j ≠ (q + 10) → j ≠ (q + 11) → j ≠ (q + 12) → E2 j = E j) ∧ (∀ j, j < n → od2 j = nI (sentK (lenF s) (wtF s) rho pg j)))) (F0 mm_ 40 ls []) := by
          intro zn
          induction zn with
          | zero => intro i tm g9 g0 g1 g2 zhm; exact absurd zhm (Nat.not_lt_zero _)
          | succ zn zih40 =>
            intro i tm g9 g0 g1 g2 zhm40 hi hT hO zE_40 zH_40 zL_40 zl40_0 zl40_1 zl40_2 zl40_3 zl40_4 zl40_5 zlf40  zlw40 ls hl
            refine lv_iload hx hb dX8_sends_40 (lv_at hl 4 rfl) ?_
            refine lv_iload_n hx hb dX8_sends_42 rfl (lv_at hl 2 rfl) ?_
            refine n_icmp_ge (tgt := 161) hx hb dX8_sends_43 (by decide) (by omega) (by omega) (fun zc43 => ?_) (fun zc43 => ?_)
            · refine lv_iconst (v := nI 0) hx hb dX8_sends_161 rfl ?_
              refine lv_istore (lv' := [(4, .int (nI 0)), (0, .ref (ad q)), (1, .int (nI rho)), (2, .int (nI n)), (3, .int tm)]) hx hb dX8_sends_162 hl (by decide) rfl (fun ls hl => ?_)
              have zlp164 : ∀ (zn : Nat) (k : Nat) (g3 : Nat → Int32), pg - k < zn → (k ≤ pg) → (g3 = fwF tm g1 g2 k) → ∀ (E9 : Nat → va_E) (H9 : Heap) (L9 : List Loc), E9 q = .inr (5, [.int th, .ref (ad (q + 1)), .long se, .ref (ad (q + 2)), .ref (ad (q + 3)), .int (nI co), .ref (ad (q + 4)), .int (nI pm), .ref (ad (q + 5)), .ref (ad (q + 6)), .ref (ad (q + 7)), .ref (ad (q + 8)), .int (nI em), .ref (ad (q + 9)), .ref (ad (q + 10)), .ref (ad (q + 11)), .ref (ad (q + 12))]) → E9 (q + 1) = eI G 508 s → E9 (q + 9) = eI G 60 g9 → E9 (q + 10) = eI G 10 g0 → E9 (q + 11) = eI G 10 g1 → E9 (q + 12) = eI G 10 g3 → (∀ j, j ≠ (q + 10) → j ≠ (q + 11) → j ≠ (q + 12) → j ≠ (q + 9) → E9 j = E j) → Wd G A ss_.heap H9 L9 ad E9 N → ∀ (ls : Array Slot), lv_has ls 7 [(0, .ref (ad q)), (1, .int (nI rho)), (2, .int (nI n)), (3, .int tm), (4, .int (nI k))] → W pp_ l ee_ ({ frames := 5, cells := 0, slots := 0, locals := 114 } : Room) ss_ mm_ aa_ bb_ me_ cc_ H9 L9 0 0 (QV bb_ aa_ ss_ G ad N A (fun E2 => ∃ od2 : Nat → Int32, ∃ og2 : Nat → Int32, ∃ le2 : Nat → Int32, E2 (q + 9) = eI G 60 od2 ∧ E2 (q + 10) = eI G 10 og2 ∧ E2 (q + 11) = eI G 10 le2 ∧ E2 (q + 12) = eI G 10 (waitF (lenF s) (wtF s) rho pg n) ∧ (∀ j, j ≠ (q + 9) → j ≠ (q + 10) → j ≠ (q + 11) → j ≠ (q + 12) → E2 j = E j) ∧ (∀ j, j < n → od2 j = nI (sentK (lenF s) (wtF s) rho pg j)))) (F0 mm_ 164 ls []) := by
                intro zn
                induction zn with
                | zero => intro k g3 zhm; exact absurd zhm (Nat.not_lt_zero _)
                | succ zn zih164 =>
                  intro k g3 zhm164 hk h3 zE_164 zH_164 zL_164 zl164_0 zl164_1 zl164_2 zl164_3 zl164_4 zl164_5 zlf164  zlw164 ls hl
                  refine lv_iload hx hb dX8_sends_164 (lv_at hl 4 rfl) ?_
                  refine lv_aload_n hx hb dX8_sends_166 rfl (lv_at hl 0 rfl) ?_
                  refine r_get C zlw164 RX8 TX8 17 5 hinX8 (i := q) (by omega) zl164_0 rfl 1 (by decide) (by decide +kernel) rfl (v := .ref (ad (q + 1))) rfl dX8_sends_167 ?_
                  refine lv_iconst (v := nI 0) hx hb dX8_sends_170 rfl ?_
                  refine r_iaN C zlw164 (i := (q + 1)) (by omega) zl164_1 (j := 0) (by omega) (by omega) dX8_sends_171 ?_
                  refine r_nat pg hs0 ?_
                  refine n_icmp_ge (tgt := 188) hx hb dX8_sends_172 (by decide) (by omega) (by omega) (fun zc172 => ?_) (fun zc172 => ?_)
                  · exact r_vret C zlw164 dX8_sends_188 ⟨g9, g0, g1, zl164_2, zl164_3, zl164_4, (zl164_5.trans (by rw [h3, show k = pg by omega, waitF]; have zn : n = i := (by omega); rw [zn, ← hT])), (fun j zm0 zm1 zm2 zm3 => zlf164 j zm1 zm2 zm3 zm0), (by have zn : n = i := (by omega); rw [zn]; exact hO)⟩
                  · refine lv_aload_n hx hb dX8_sends_175 rfl (lv_at hl 0 rfl) ?_
                    refine lv_iload hx hb dX8_sends_176 (lv_at hl 4 rfl) ?_
                    refine lv_iload_n hx hb dX8_sends_178 rfl (lv_at hl 3 rfl) ?_
                    refine r_vV C zlw164 hl.1 (i := q) (by omega) zl164_0 (T := TX8) (n := 17) rfl [.int (nI k), .int tm] 2 rfl (c_X8_waited (l := l) (G := G) (tC := tC) (ad := ad) (N := N) (E := zE_164) (q := q) (co := co) (pm := pm) (em := em) (th := th) (se := se) (le := g1) (wa := g3) (k := k) (tm := tm) (by omega) zl164_0 zl164_4 zl164_5 (by first | assumption | omega)) gX8_sends_X8_waited rfl ⟨rfl, rfl⟩ (by decide +kernel) ⟨Nat.le_of_ble_eq_true rfl, Nat.le_of_ble_eq_true rfl⟩ (rest := []) rfl (Nat.le_of_ble_eq_true rfl) dX8_sends_179 ⟨Nat.zero_le _, Nat.zero_le _⟩ (fun zE4 zH4 zL4 zp4 zw4 => ?_)
                    obtain ⟨zg4_0, zf4⟩ := zp4
                    have zh4_0 : zE4 (q + 12) = eI G 10 (upd g3 k (mxI (g3 k) (tm - g1 k))) := zg4_0
                    have zk4_0 : zE4 q = .inr (5, [.int th, .ref (ad (q + 1)), .long se, .ref (ad (q + 2)), .ref (ad (q + 3)), .int (nI co), .ref (ad (q + 4)), .int (nI pm), .ref (ad (q + 5)), .ref (ad (q + 6)), .ref (ad (q + 7)), .ref (ad (q + 8)), .int (nI em), .ref (ad (q + 9)), .ref (ad (q + 10)), .ref (ad (q + 11)), .ref (ad (q + 12))]) := (zf4 _ (by omega)).trans zl164_0
                    have zk4_1 : zE4 (q + 1) = eI G 508 s := (zf4 _ (by omega)).trans zl164_1
                    have zk4_2 : zE4 (q + 9) = eI G 60 g9 := (zf4 _ (by omega)).trans zl164_2
                    have zk4_3 : zE4 (q + 10) = eI G 10 g0 := (zf4 _ (by omega)).trans zl164_3
                    have zk4_4 : zE4 (q + 11) = eI G 10 g1 := (zf4 _ (by omega)).trans zl164_4
                    have zfr4 : ∀ j, j ≠ (q + 10) → j ≠ (q + 11) → j ≠ (q + 12) → j ≠ (q + 9) → zE4 j = E j := fun j zm0 zm1 zm2 zm3 => (zf4 j zm2).trans (zlf164 j zm0 zm1 zm2 zm3)
                    refine lv_iinc (v := nI (k + 1)) (lv' := [(4, .int (nI (k + 1))), (0, .ref (ad q)), (1, .int (nI rho)), (2, .int (nI n)), (3, .int tm)]) hx hb dX8_sends_182 hl (k := 4) rfl (by rw [show Int32.ofInt 1 = nI 1 from rfl, nI_add]) (by decide) rfl (fun ls hl => ?_)
                    refine lv_goto (tgt := 164) hx hb dX8_sends_185 (by decide) ?_
                    exact zih164 (k + 1) (upd g3 k (mxI (g3 k) (tm - g1 k))) (by omega) (by omega) (by rw [h3]; exact fwF_s _ _ _ _) _ _ _ zk4_0 zk4_1 zk4_2 zk4_3 zk4_4 zh4_0 (fun j zm0 zm1 zm2 zm3 => zfr4 j zm0 zm1 zm2 zm3) zw4 _ (lv_sub hl [1, 2, 3, 4, 0] rfl)
              exact zlp164 _ 0 g2 (Nat.lt_succ_self _) (by omega) (by exact (fwF_0 _ _ _).symm) _ _ _ zl40_0 zl40_1 zl40_2 zl40_3 zl40_4 zl40_5 (fun j zm0 zm1 zm2 zm3 => zlf40 j zm0 zm1 zm2 zm3) zlw40 _ (lv_sub hl [1, 2, 3, 4, 0] rfl)
            · refine lv_iload_n hx hb dX8_sends_46 rfl (lv_at hl 1 rfl) ?_
              refine n_if_ne (tgt := 62) hx hb dX8_sends_47 (by decide) (by omega) (fun zc47 => ?_) (fun zc47 => ?_)
              · refine lv_iconst (v := nI 0) hx hb dX8_sends_62 rfl ?_
                refine lv_istore (lv' := [(5, .int (nI 0)), (0, .ref (ad q)), (1, .int (nI rho)), (2, .int (nI n)), (3, .int tm), (4, .int (nI i))]) hx hb dX8_sends_63 hl (by decide) rfl (fun ls hl => ?_)
                refine lv_iconst (v := nI 1) hx hb dX8_sends_65 rfl ?_
                refine lv_istore (lv' := [(6, .int (nI 1)), (5, .int (nI 0)), (0, .ref (ad q)), (1, .int (nI rho)), (2, .int (nI n)), (3, .int tm), (4, .int (nI i))]) hx hb dX8_sends_66 hl (by decide) rfl (fun ls hl => ?_)
                have zlp68 : ∀ (zn : Nat) (k w : Nat), pg - k < zn → (1 ≤ k) → (k ≤ pg) → ((rho = 0 → w = i % pg) ∧ (¬ rho = 0 → w = fore (lenF s) (wtF s) g0 g1 tm rho (k - 1))) → (w < pg) → ∀ (E9 : Nat → va_E) (H9 : Heap) (L9 : List Loc), E9 q = .inr (5, [.int th, .ref (ad (q + 1)), .long se, .ref (ad (q + 2)), .ref (ad (q + 3)), .int (nI co), .ref (ad (q + 4)), .int (nI pm), .ref (ad (q + 5)), .ref (ad (q + 6)), .ref (ad (q + 7)), .ref (ad (q + 8)), .int (nI em), .ref (ad (q + 9)), .ref (ad (q + 10)), .ref (ad (q + 11)), .ref (ad (q + 12))]) → E9 (q + 1) = eI G 508 s → E9 (q + 9) = eI G 60 g9 → E9 (q + 10) = eI G 10 g0 → E9 (q + 11) = eI G 10 g1 → E9 (q + 12) = eI G 10 g2 → (∀ j, j ≠ (q + 10) → j ≠ (q + 11) → j ≠ (q + 12) → j ≠ (q + 9) → E9 j = E j) → Wd G A ss_.heap H9 L9 ad E9 N → ∀ (ls : Array Slot), lv_has ls 7 [(0, .ref (ad q)), (1, .int (nI rho)), (2, .int (nI n)), (3, .int tm), (4, .int (nI i)), (5, .int (nI w)), (6, .int (nI k))] → W pp_ l ee_ ({ frames := 5, cells := 0, slots := 0, locals := 114 } : Room) ss_ mm_ aa_ bb_ me_ cc_ H9 L9 0 0 (QV bb_ aa_ ss_ G ad N A (fun E2 => ∃ od2 : Nat → Int32, ∃ og2 : Nat → Int32, ∃ le2 : Nat → Int32, E2 (q + 9) = eI G 60 od2 ∧ E2 (q + 10) = eI G 10 og2 ∧ E2 (q + 11) = eI G 10 le2 ∧ E2 (q + 12) = eI G 10 (waitF (lenF s) (wtF s) rho pg n) ∧ (∀ j, j ≠ (q + 9) → j ≠ (q + 10) → j ≠ (q + 11) → j ≠ (q + 12) → E2 j = E j) ∧ (∀ j, j < n → od2 j = nI (sentK (lenF s) (wtF s) rho pg j)))) (F0 mm_ 68 ls []) := by
                  intro zn
                  induction zn with
                  | zero => intro k w zhm; exact absurd zhm (Nat.not_lt_zero _)
                  | succ zn zih68 =>
                    intro k w zhm68 hk1 hk2 hw hwl zE_68 zH_68 zL_68 zl68_0 zl68_1 zl68_2 zl68_3 zl68_4 zl68_5 zlf68  zlw68 ls hl
                    refine lv_iload hx hb dX8_sends_68 (lv_at hl 6 rfl) ?_
                    refine lv_aload_n hx hb dX8_sends_70 rfl (lv_at hl 0 rfl) ?_
                    refine r_get C zlw68 RX8 TX8 17 5 hinX8 (i := q) (by omega) zl68_0 rfl 1 (by decide) (by decide +kernel) rfl (v := .ref (ad (q + 1))) rfl dX8_sends_71 ?_
                    refine lv_iconst (v := nI 0) hx hb dX8_sends_74 rfl ?_
                    refine r_iaN C zlw68 (i := (q + 1)) (by omega) zl68_1 (j := 0) (by omega) (by omega) dX8_sends_75 ?_
                    refine r_nat pg hs0 ?_
                    refine n_icmp_ge (tgt := 111) hx hb dX8_sends_76 (by decide) (by omega) (by omega) (fun zc76 => ?_) (fun zc76 => ?_)
                    · have zk9 : w = rsK (lenF s) (wtF s) rho pg i (tm, g0, g1, g2) := by
                        unfold rsK nxt
                        by_cases z : rho = 0
                        · rw [if_pos z]; exact hw.1 z
                        · rw [if_neg z]; first | exact (by rw [show pg - 1 = k - 1 by omega]; exact hw.2 z) | exact absurd z (by omega)
                      refine lv_aload_n hx hb dX8_sends_111 rfl (lv_at hl 0 rfl) ?_
                      refine r_get C zlw68 RX8 TX8 17 5 hinX8 (i := q) (by omega) zl68_0 rfl 13 (by decide) (by decide +kernel) rfl (v := .ref (ad (q + 9))) rfl dX8_sends_112 ?_
                      refine lv_iload hx hb dX8_sends_115 (lv_at hl 4 rfl) ?_
                      refine lv_iload hx hb dX8_sends_117 (lv_at hl 5 rfl) ?_
                      refine r_iasN C zlw68 (i := (q + 9)) (by omega) zl68_2 (j := i) (by omega) (by omega) dX8_sends_119 (fun zE5 zH5 zL5 zg5 zf5 zw5 => ?_)
                      have zh5_0 : zE5 (q + 9) = eI G 60 (upd g9 i (nI w)) := zg5
                      have zk5_0 : zE5 q = .inr (5, [.int th, .ref (ad (q + 1)), .long se, .ref (ad (q + 2)), .ref (ad (q + 3)), .int (nI co), .ref (ad (q + 4)), .int (nI pm), .ref (ad (q + 5)), .ref (ad (q + 6)), .ref (ad (q + 7)), .ref (ad (q + 8)), .int (nI em), .ref (ad (q + 9)), .ref (ad (q + 10)), .ref (ad (q + 11)), .ref (ad (q + 12))]) := (zf5 _ (by omega)).trans zl68_0
                      have zk5_1 : zE5 (q + 1) = eI G 508 s := (zf5 _ (by omega)).trans zl68_1
                      have zk5_2 : zE5 (q + 10) = eI G 10 g0 := (zf5 _ (by omega)).trans zl68_3
                      have zk5_3 : zE5 (q + 11) = eI G 10 g1 := (zf5 _ (by omega)).trans zl68_4
                      have zk5_4 : zE5 (q + 12) = eI G 10 g2 := (zf5 _ (by omega)).trans zl68_5
                      have zfr5 : ∀ j, j ≠ (q + 10) → j ≠ (q + 11) → j ≠ (q + 12) → j ≠ (q + 9) → zE5 j = E j := fun j zm0 zm1 zm2 zm3 => (zf5 j zm3).trans (zlf68 j zm0 zm1 zm2 zm3)
                      refine lv_iload_n hx hb dX8_sends_120 rfl (lv_at hl 3 rfl) ?_
                      refine lv_aload_n hx hb dX8_sends_121 rfl (lv_at hl 0 rfl) ?_
                      refine lv_iload hx hb dX8_sends_122 (lv_at hl 5 rfl) ?_
                      refine r_vI C zw5 hl.1 (i := q) (by omega) zk5_0 (T := TX8) (n := 17) rfl [.int (nI w)] 1 rfl (c_X8_lengthOf (l := l) (G := G) (tC := tC) (ad := ad) (N := N) (E := zE5) (q := q) (co := co) (pm := pm) (em := em) (th := th) (se := se) (s := s) (k := w) (by omega) zk5_0 zk5_1 (by first | assumption | omega)) gX8_sends_X8_lengthOf rfl ⟨rfl, rfl⟩ (by decide +kernel) ⟨Nat.le_of_ble_eq_true rfl, Nat.le_of_ble_eq_true rfl⟩ (rest := [.int tm]) rfl (Nat.le_of_ble_eq_true rfl) dX8_sends_124 ⟨Nat.zero_le _, Nat.zero_le _⟩ (fun zr6 zE6 zH6 zL6 zp6 zw6 => ?_)
                      obtain ⟨ze6, zq6⟩ := zp6
                      rw [ze6] at zw6
                      clear ze6
                      rw [zq6]
                      refine lv_iadd hx hb dX8_sends_127 ?_
                      refine lv_istore_n (lv' := [(3, .int (tm + (nI (lenN (lkL s w) (ltF s w))))), (0, .ref (ad q)), (1, .int (nI rho)), (2, .int (nI n)), (4, .int (nI i)), (5, .int (nI w)), (6, .int (nI k))]) hx hb dX8_sends_128 rfl hl (by decide) rfl (fun ls hl => ?_)
                      refine lv_aload_n hx hb dX8_sends_129 rfl (lv_at hl 1 rfl) ?_
                      refine lv_iload hx hb dX8_sends_130 (lv_at hl 5 rfl) ?_
                      refine lv_iload_n hx hb dX8_sends_132 rfl (lv_at hl 0 rfl) ?_
                      refine r_vV C zw6 hl.1 (i := q) (by omega) zk5_0 (T := TX8) (n := 17) rfl [.int (nI w), .int (tm + (nI (lenN (lkL s w) (ltF s w))))] 2 rfl (c_X8_waited (l := l) (G := G) (tC := tC) (ad := ad) (N := N) (E := zE5) (q := q) (co := co) (pm := pm) (em := em) (th := th) (se := se) (le := g1) (wa := g2) (k := w) (tm := tm + (nI (lenN (lkL s w) (ltF s w)))) (by omega) zk5_0 zk5_3 zk5_4 (by first | assumption | omega)) gX8_sends_X8_waited rfl ⟨rfl, rfl⟩ (by decide +kernel) ⟨Nat.le_of_ble_eq_true rfl, Nat.le_of_ble_eq_true rfl⟩ (rest := []) rfl (Nat.le_of_ble_eq_true rfl) dX8_sends_133 ⟨Nat.zero_le _, Nat.zero_le _⟩ (fun zE7 zH7 zL7 zp7 zw7 => ?_)
                      obtain ⟨zg7_0, zf7⟩ := zp7
                      have zh7_0 : zE7 (q + 12) = eI G 10 (upd g2 w (mxI (g2 w) ((tm + (nI (lenN (lkL s w) (ltF s w)))) - g1 w))) := zg7_0
                      have zk7_0 : zE7 q = .inr (5, [.int th, .ref (ad (q + 1)), .long se, .ref (ad (q + 2)), .ref (ad (q + 3)), .int (nI co), .ref (ad (q + 4)), .int (nI pm), .ref (ad (q + 5)), .ref (ad (q + 6)), .ref (ad (q + 7)), .ref (ad (q + 8)), .int (nI em), .ref (ad (q + 9)), .ref (ad (q + 10)), .ref (ad (q + 11)), .ref (ad (q + 12))]) := (zf7 _ (by omega)).trans zk5_0
                      have zk7_1 : zE7 (q + 1) = eI G 508 s := (zf7 _ (by omega)).trans zk5_1
                      have zk7_2 : zE7 (q + 10) = eI G 10 g0 := (zf7 _ (by omega)).trans zk5_2
                      have zk7_3 : zE7 (q + 11) = eI G 10 g1 := (zf7 _ (by omega)).trans zk5_3
                      have zk7_4 : zE7 (q + 9) = eI G 60 (upd g9 i (nI w)) := (zf7 _ (by omega)).trans zh5_0
                      have zfr7 : ∀ j, j ≠ (q + 10) → j ≠ (q + 11) → j ≠ (q + 12) → j ≠ (q + 9) → zE7 j = E j := fun j zm0 zm1 zm2 zm3 => (zf7 j zm2).trans (zfr5 j zm0 zm1 zm2 zm3)
                      refine lv_aload_n hx hb dX8_sends_136 rfl (lv_at hl 1 rfl) ?_
                      refine r_get C zw7 RX8 TX8 17 5 hinX8 (i := q) (by omega) zk7_0 rfl 15 (by decide) (by decide +kernel) rfl (v := .ref (ad (q + 11))) rfl dX8_sends_137 ?_
                      refine lv_iload hx hb dX8_sends_140 (lv_at hl 5 rfl) ?_
                      refine lv_iload_n hx hb dX8_sends_142 rfl (lv_at hl 0 rfl) ?_
                      refine r_iasN C zw7 (i := (q + 11)) (by omega) zk7_3 (j := w) (by omega) (by omega) dX8_sends_143 (fun zE8 zH8 zL8 zg8 zf8 zw8 => ?_)
                      have zh8_0 : zE8 (q + 11) = eI G 10 (upd g1 w (tm + (nI (lenN (lkL s w) (ltF s w))))) := zg8
                      have zk8_0 : zE8 q = .inr (5, [.int th, .ref (ad (q + 1)), .long se, .ref (ad (q + 2)), .ref (ad (q + 3)), .int (nI co), .ref (ad (q + 4)), .int (nI pm), .ref (ad (q + 5)), .ref (ad (q + 6)), .ref (ad (q + 7)), .ref (ad (q + 8)), .int (nI em), .ref (ad (q + 9)), .ref (ad (q + 10)), .ref (ad (q + 11)), .ref (ad (q + 12))]) := (zf8 _ (by omega)).trans zk7_0
                      have zk8_1 : zE8 (q + 1) = eI G 508 s := (zf8 _ (by omega)).trans zk7_1
                      have zk8_2 : zE8 (q + 10) = eI G 10 g0 := (zf8 _ (by omega)).trans zk7_2
                      have zk8_3 : zE8 (q + 9) = eI G 60 (upd g9 i (nI w)) := (zf8 _ (by omega)).trans zk7_4
                      have zk8_4 : zE8 (q + 12) = eI G 10 (upd g2 w (mxI (g2 w) ((tm + (nI (lenN (lkL s w) (ltF s w)))) - g1 w))) := (zf8 _ (by omega)).trans zh7_0
                      have zfr8 : ∀ j, j ≠ (q + 10) → j ≠ (q + 11) → j ≠ (q + 12) → j ≠ (q + 9) → zE8 j = E j := fun j zm0 zm1 zm2 zm3 => (zf8 j zm1).trans (zfr7 j zm0 zm1 zm2 zm3)
                      refine lv_aload_n hx hb dX8_sends_144 rfl (lv_at hl 1 rfl) ?_
                      refine r_get C zw8 RX8 TX8 17 5 hinX8 (i := q) (by omega) zk8_0 rfl 14 (by decide) (by decide +kernel) rfl (v := .ref (ad (q + 10))) rfl dX8_sends_145 ?_
                      refine lv_iload hx hb dX8_sends_148 (lv_at hl 5 rfl) ?_
                      refine lv_dup2_11 hx hb dX8_sends_150 rfl rfl ?_
                      refine r_iaN C zw8 (i := (q + 10)) (by omega) zk8_2 (j := w) (by omega) (by omega) dX8_sends_151 ?_
                      refine lv_iconst (v := nI 1) hx hb dX8_sends_152 rfl ?_
                      refine lv_iadd hx hb dX8_sends_153 ?_
                      refine r_iasN C zw8 (i := (q + 10)) (by omega) zk8_2 (j := w) (by omega) (by omega) dX8_sends_154 (fun zE9 zH9 zL9 zg9 zf9 zw9 => ?_)
                      have zh9_0 : zE9 (q + 10) = eI G 10 (upd g0 w ((g0 w) + (nI 1))) := zg9
                      have zk9_0 : zE9 q = .inr (5, [.int th, .ref (ad (q + 1)), .long se, .ref (ad (q + 2)), .ref (ad (q + 3)), .int (nI co), .ref (ad (q + 4)), .int (nI pm), .ref (ad (q + 5)), .ref (ad (q + 6)), .ref (ad (q + 7)), .ref (ad (q + 8)), .int (nI em), .ref (ad (q + 9)), .ref (ad (q + 10)), .ref (ad (q + 11)), .ref (ad (q + 12))]) := (zf9 _ (by omega)).trans zk8_0
                      have zk9_1 : zE9 (q + 1) = eI G 508 s := (zf9 _ (by omega)).trans zk8_1
                      have zk9_2 : zE9 (q + 9) = eI G 60 (upd g9 i (nI w)) := (zf9 _ (by omega)).trans zk8_3
                      have zk9_3 : zE9 (q + 12) = eI G 10 (upd g2 w (mxI (g2 w) ((tm + (nI (lenN (lkL s w) (ltF s w)))) - g1 w))) := (zf9 _ (by omega)).trans zk8_4
                      have zk9_4 : zE9 (q + 11) = eI G 10 (upd g1 w (tm + (nI (lenN (lkL s w) (ltF s w))))) := (zf9 _ (by omega)).trans zh8_0
                      have zfr9 : ∀ j, j ≠ (q + 10) → j ≠ (q + 11) → j ≠ (q + 12) → j ≠ (q + 9) → zE9 j = E j := fun j zm0 zm1 zm2 zm3 => (zf9 j zm0).trans (zfr8 j zm0 zm1 zm2 zm3)
                      refine lv_iinc (v := nI (i + 1)) (lv' := [(4, .int (nI (i + 1))), (3, .int (tm + (nI (lenN (lkL s w) (ltF s w))))), (0, .ref (ad q)), (1, .int (nI rho)), (2, .int (nI n)), (5, .int (nI w)), (6, .int (nI k))]) hx hb dX8_sends_155 hl (k := 4) rfl (by rw [show Int32.ofInt 1 = nI 1 from rfl, nI_add]) (by decide) rfl (fun ls hl => ?_)
                      refine lv_goto (tgt := 40) hx hb dX8_sends_158 (by decide) ?_
                      exact zih40 (i + 1) (tm + (nI (lenN (lkL s w) (ltF s w)))) (upd g9 i (nI w)) (upd g0 w ((g0 w) + (nI 1))) (upd g1 w (tm + (nI (lenN (lkL s w) (ltF s w))))) (upd g2 w (mxI (g2 w) ((tm + (nI (lenN (lkL s w) (ltF s w)))) - g1 w))) (by omega) (by omega) (by rw [rs, ← hT, ← zk9]; rfl) (by exact ord_s (f := sentK (lenF s) (wtF s) rho pg) hO (by rw [sentK, ← hT, ← zk9])) _ _ _ zk9_0 zk9_1 zk9_2 zh9_0 zk9_4 zk9_3 (fun j zm0 zm1 zm2 zm3 => zfr9 j zm0 zm1 zm2 zm3) zw9 _ (lv_sub hl [2, 3, 4, 1, 0] rfl)
                    · refine lv_iload_n hx hb dX8_sends_79 rfl (lv_at hl 1 rfl) ?_
                      refine n_if_le (tgt := 111) hx hb dX8_sends_80 (by decide) (by omega) (fun zc80 => ?_) (fun zc80 => ?_)
                      · have zk9 : w = rsK (lenF s) (wtF s) rho pg i (tm, g0, g1, g2) := by
                          unfold rsK nxt
                          by_cases z : rho = 0
                          · rw [if_pos z]; exact hw.1 z
                          · rw [if_neg z]; first | exact (by rw [show pg - 1 = k - 1 by omega]; exact hw.2 z) | exact absurd z (by omega)
                        refine lv_aload_n hx hb dX8_sends_111 rfl (lv_at hl 0 rfl) ?_
                        refine r_get C zlw68 RX8 TX8 17 5 hinX8 (i := q) (by omega) zl68_0 rfl 13 (by decide) (by decide +kernel) rfl (v := .ref (ad (q + 9))) rfl dX8_sends_112 ?_
                        refine lv_iload hx hb dX8_sends_115 (lv_at hl 4 rfl) ?_
                        refine lv_iload hx hb dX8_sends_117 (lv_at hl 5 rfl) ?_
                        refine r_iasN C zlw68 (i := (q + 9)) (by omega) zl68_2 (j := i) (by omega) (by omega) dX8_sends_119 (fun zE10 zH10 zL10 zg10 zf10 zw10 => ?_)
                        have zh10_0 : zE10 (q + 9) = eI G 60 (upd g9 i (nI w)) := zg10
                        have zk10_0 : zE10 q = .inr (5, [.int th, .ref (ad (q + 1)), .long se, .ref (ad (q + 2)), .ref (ad (q + 3)), .int (nI co), .ref (ad (q + 4)), .int (nI pm), .ref (ad (q + 5)), .ref (ad (q + 6)), .ref (ad (q + 7)), .ref (ad (q + 8)), .int (nI em), .ref (ad (q + 9)), .ref (ad (q + 10)), .ref (ad (q + 11)), .ref (ad (q + 12))]) := (zf10 _ (by omega)).trans zl68_0
                        have zk10_1 : zE10 (q + 1) = eI G 508 s := (zf10 _ (by omega)).trans zl68_1
                        have zk10_2 : zE10 (q + 10) = eI G 10 g0 := (zf10 _ (by omega)).trans zl68_3
                        have zk10_3 : zE10 (q + 11) = eI G 10 g1 := (zf10 _ (by omega)).trans zl68_4
                        have zk10_4 : zE10 (q + 12) = eI G 10 g2 := (zf10 _ (by omega)).trans zl68_5
                        have zfr10 : ∀ j, j ≠ (q + 10) → j ≠ (q + 11) → j ≠ (q + 12) → j ≠ (q + 9) → zE10 j = E j := fun j zm0 zm1 zm2 zm3 => (zf10 j zm3).trans (zlf68 j zm0 zm1 zm2 zm3)
                        refine lv_iload_n hx hb dX8_sends_120 rfl (lv_at hl 3 rfl) ?_
                        refine lv_aload_n hx hb dX8_sends_121 rfl (lv_at hl 0 rfl) ?_
                        refine lv_iload hx hb dX8_sends_122 (lv_at hl 5 rfl) ?_
                        refine r_vI C zw10 hl.1 (i := q) (by omega) zk10_0 (T := TX8) (n := 17) rfl [.int (nI w)] 1 rfl (c_X8_lengthOf (l := l) (G := G) (tC := tC) (ad := ad) (N := N) (E := zE10) (q := q) (co := co) (pm := pm) (em := em) (th := th) (se := se) (s := s) (k := w) (by omega) zk10_0 zk10_1 (by first | assumption | omega)) gX8_sends_X8_lengthOf rfl ⟨rfl, rfl⟩ (by decide +kernel) ⟨Nat.le_of_ble_eq_true rfl, Nat.le_of_ble_eq_true rfl⟩ (rest := [.int tm]) rfl (Nat.le_of_ble_eq_true rfl) dX8_sends_124 ⟨Nat.zero_le _, Nat.zero_le _⟩ (fun zr11 zE11 zH11 zL11 zp11 zw11 => ?_)
                        obtain ⟨ze11, zq11⟩ := zp11
                        rw [ze11] at zw11
                        clear ze11
                        rw [zq11]
                        refine lv_iadd hx hb dX8_sends_127 ?_
                        refine lv_istore_n (lv' := [(3, .int (tm + (nI (lenN (lkL s w) (ltF s w))))), (0, .ref (ad q)), (1, .int (nI rho)), (2, .int (nI n)), (4, .int (nI i)), (5, .int (nI w)), (6, .int (nI k))]) hx hb dX8_sends_128 rfl hl (by decide) rfl (fun ls hl => ?_)
                        refine lv_aload_n hx hb dX8_sends_129 rfl (lv_at hl 1 rfl) ?_
                        refine lv_iload hx hb dX8_sends_130 (lv_at hl 5 rfl) ?_
                        refine lv_iload_n hx hb dX8_sends_132 rfl (lv_at hl 0 rfl) ?_
                        refine r_vV C zw11 hl.1 (i := q) (by omega) zk10_0 (T := TX8) (n := 17) rfl [.int (nI w), .int (tm + (nI (lenN (lkL s w) (ltF s w))))] 2 rfl (c_X8_waited (l := l) (G := G) (tC := tC) (ad := ad) (N := N) (E := zE10) (q := q) (co := co) (pm := pm) (em := em) (th := th) (se := se) (le := g1) (wa := g2) (k := w) (tm := tm + (nI (lenN (lkL s w) (ltF s w)))) (by omega) zk10_0 zk10_3 zk10_4 (by first | assumption | omega)) gX8_sends_X8_waited rfl ⟨rfl, rfl⟩ (by decide +kernel) ⟨Nat.le_of_ble_eq_true rfl, Nat.le_of_ble_eq_true rfl⟩ (rest := []) rfl (Nat.le_of_ble_eq_true rfl) dX8_sends_133 ⟨Nat.zero_le _, Nat.zero_le _⟩ (fun zE12 zH12 zL12 zp12 zw12 => ?_)
                        obtain ⟨zg12_0, zf12⟩ := zp12
                        have zh12_0 : zE12 (q + 12) = eI G 10 (upd g2 w (mxI (g2 w) ((tm + (nI (lenN (lkL s w) (ltF s w)))) - g1 w))) := zg12_0
                        have zk12_0 : zE12 q = .inr (5, [.int th, .ref (ad (q + 1)), .long se, .ref (ad (q + 2)), .ref (ad (q + 3)), .int (nI co), .ref (ad (q + 4)), .int (nI pm), .ref (ad (q + 5)), .ref (ad (q + 6)), .ref (ad (q + 7)), .ref (ad (q + 8)), .int (nI em), .ref (ad (q + 9)), .ref (ad (q + 10)), .ref (ad (q + 11)), .ref (ad (q + 12))]) := (zf12 _ (by omega)).trans zk10_0
                        have zk12_1 : zE12 (q + 1) = eI G 508 s := (zf12 _ (by omega)).trans zk10_1
                        have zk12_2 : zE12 (q + 10) = eI G 10 g0 := (zf12 _ (by omega)).trans zk10_2
                        have zk12_3 : zE12 (q + 11) = eI G 10 g1 := (zf12 _ (by omega)).trans zk10_3
                        have zk12_4 : zE12 (q + 9) = eI G 60 (upd g9 i (nI w)) := (zf12 _ (by omega)).trans zh10_0
                        have zfr12 : ∀ j, j ≠ (q + 10) → j ≠ (q + 11) → j ≠ (q + 12) → j ≠ (q + 9) → zE12 j = E j := fun j zm0 zm1 zm2 zm3 => (zf12 j zm2).trans (zfr10 j zm0 zm1 zm2 zm3)
                        refine lv_aload_n hx hb dX8_sends_136 rfl (lv_at hl 1 rfl) ?_
                        refine r_get C zw12 RX8 TX8 17 5 hinX8 (i := q) (by omega) zk12_0 rfl 15 (by decide) (by decide +kernel) rfl (v := .ref (ad (q + 11))) rfl dX8_sends_137 ?_
                        refine lv_iload hx hb dX8_sends_140 (lv_at hl 5 rfl) ?_
                        refine lv_iload_n hx hb dX8_sends_142 rfl (lv_at hl 0 rfl) ?_
                        refine r_iasN C zw12 (i := (q + 11)) (by omega) zk12_3 (j := w) (by omega) (by omega) dX8_sends_143 (fun zE13 zH13 zL13 zg13 zf13 zw13 => ?_)
                        have zh13_0 : zE13 (q + 11) = eI G 10 (upd g1 w (tm + (nI (lenN (lkL s w) (ltF s w))))) := zg13
                        have zk13_0 : zE13 q = .inr (5, [.int th, .ref (ad (q + 1)), .long se, .ref (ad (q + 2)), .ref (ad (q + 3)), .int (nI co), .ref (ad (q + 4)), .int (nI pm), .ref (ad (q + 5)), .ref (ad (q + 6)), .ref (ad (q + 7)), .ref (ad (q + 8)), .int (nI em), .ref (ad (q + 9)), .ref (ad (q + 10)), .ref (ad (q + 11)), .ref (ad (q + 12))]) := (zf13 _ (by omega)).trans zk12_0
                        have zk13_1 : zE13 (q + 1) = eI G 508 s := (zf13 _ (by omega)).trans zk12_1
                        have zk13_2 : zE13 (q + 10) = eI G 10 g0 := (zf13 _ (by omega)).trans zk12_2
                        have zk13_3 : zE13 (q + 9) = eI G 60 (upd g9 i (nI w)) := (zf13 _ (by omega)).trans zk12_4
                        have zk13_4 : zE13 (q + 12) = eI G 10 (upd g2 w (mxI (g2 w) ((tm + (nI (lenN (lkL s w) (ltF s w)))) - g1 w))) := (zf13 _ (by omega)).trans zh12_0
                        have zfr13 : ∀ j, j ≠ (q + 10) → j ≠ (q + 11) → j ≠ (q + 12) → j ≠ (q + 9) → zE13 j = E j := fun j zm0 zm1 zm2 zm3 => (zf13 j zm1).trans (zfr12 j zm0 zm1 zm2 zm3)
                        refine lv_aload_n hx hb dX8_sends_144 rfl (lv_at hl 1 rfl) ?_
                        refine r_get C zw13 RX8 TX8 17 5 hinX8 (i := q) (by omega) zk13_0 rfl 14 (by decide) (by decide +kernel) rfl (v := .ref (ad (q + 10))) rfl dX8_sends_145 ?_
                        refine lv_iload hx hb dX8_sends_148 (lv_at hl 5 rfl) ?_
                        refine lv_dup2_11 hx hb dX8_sends_150 rfl rfl ?_
                        refine r_iaN C zw13 (i := (q + 10)) (by omega) zk13_2 (j := w) (by omega) (by omega) dX8_sends_151 ?_
                        refine lv_iconst (v := nI 1) hx hb dX8_sends_152 rfl ?_
                        refine lv_iadd hx hb dX8_sends_153 ?_
                        refine r_iasN C zw13 (i := (q + 10)) (by omega) zk13_2 (j := w) (by omega) (by omega) dX8_sends_154 (fun zE14 zH14 zL14 zg14 zf14 zw14 => ?_)
                        have zh14_0 : zE14 (q + 10) = eI G 10 (upd g0 w ((g0 w) + (nI 1))) := zg14
                        have zk14_0 : zE14 q = .inr (5, [.int th, .ref (ad (q + 1)), .long se, .ref (ad (q + 2)), .ref (ad (q + 3)), .int (nI co), .ref (ad (q + 4)), .int (nI pm), .ref (ad (q + 5)), .ref (ad (q + 6)), .ref (ad (q + 7)), .ref (ad (q + 8)), .int (nI em), .ref (ad (q + 9)), .ref (ad (q + 10)), .ref (ad (q + 11)), .ref (ad (q + 12))]) := (zf14 _ (by omega)).trans zk13_0
                        have zk14_1 : zE14 (q + 1) = eI G 508 s := (zf14 _ (by omega)).trans zk13_1
                        have zk14_2 : zE14 (q + 9) = eI G 60 (upd g9 i (nI w)) := (zf14 _ (by omega)).trans zk13_3
                        have zk14_3 : zE14 (q + 12) = eI G 10 (upd g2 w (mxI (g2 w) ((tm + (nI (lenN (lkL s w) (ltF s w)))) - g1 w))) := (zf14 _ (by omega)).trans zk13_4
                        have zk14_4 : zE14 (q + 11) = eI G 10 (upd g1 w (tm + (nI (lenN (lkL s w) (ltF s w))))) := (zf14 _ (by omega)).trans zh13_0
                        have zfr14 : ∀ j, j ≠ (q + 10) → j ≠ (q + 11) → j ≠ (q + 12) → j ≠ (q + 9) → zE14 j = E j := fun j zm0 zm1 zm2 zm3 => (zf14 j zm0).trans (zfr13 j zm0 zm1 zm2 zm3)
                        refine lv_iinc (v := nI (i + 1)) (lv' := [(4, .int (nI (i + 1))), (3, .int (tm + (nI (lenN (lkL s w) (ltF s w))))), (0, .ref (ad q)), (1, .int (nI rho)), (2, .int (nI n)), (5, .int (nI w)), (6, .int (nI k))]) hx hb dX8_sends_155 hl (k := 4) rfl (by rw [show Int32.ofInt 1 = nI 1 from rfl, nI_add]) (by decide) rfl (fun ls hl => ?_)
                        refine lv_goto (tgt := 40) hx hb dX8_sends_158 (by decide) ?_
                        exact zih40 (i + 1) (tm + (nI (lenN (lkL s w) (ltF s w)))) (upd g9 i (nI w)) (upd g0 w ((g0 w) + (nI 1))) (upd g1 w (tm + (nI (lenN (lkL s w) (ltF s w))))) (upd g2 w (mxI (g2 w) ((tm + (nI (lenN (lkL s w) (ltF s w)))) - g1 w))) (by omega) (by omega) (by rw [rs, ← hT, ← zk9]; rfl) (by exact ord_s (f := sentK (lenF s) (wtF s) rho pg) hO (by rw [sentK, ← hT, ← zk9])) _ _ _ zk14_0 zk14_1 zk14_2 zh14_0 zk14_4 zk14_3 (fun j zm0 zm1 zm2 zm3 => zfr14 j zm0 zm1 zm2 zm3) zw14 _ (lv_sub hl [2, 3, 4, 1, 0] rfl)
                      · refine lv_aload_n hx hb dX8_sends_83 rfl (lv_at hl 0 rfl) ?_
                        refine lv_iload_n hx hb dX8_sends_84 rfl (lv_at hl 1 rfl) ?_
                        refine lv_iload hx hb dX8_sends_85 (lv_at hl 6 rfl) ?_
                        refine lv_iload hx hb dX8_sends_87 (lv_at hl 5 rfl) ?_
                        refine lv_iload_n hx hb dX8_sends_89 rfl (lv_at hl 3 rfl) ?_
                        refine r_vI C zlw68 hl.1 (i := q) (by omega) zl68_0 (T := TX8) (n := 17) rfl [.int (nI rho), .int (nI k), .int (nI w), .int tm] 4 rfl (c_X8_isBetter (l := l) (G := G) (tC := tC) (ad := ad) (N := N) (E := zE_68) (q := q) (co := co) (pm := pm) (em := em) (th := th) (se := se) (pg := pg) (s := s) (og := g0) (le := g1) (rho := rho) (k := k) (o := w) (tm := tm) (by omega) zl68_0 zl68_1 zl68_3 zl68_4 (by first | assumption | omega) (by first | assumption | omega) (by first | assumption | omega)) gX8_sends_X8_isBetter rfl ⟨rfl, rfl⟩ (by decide +kernel) ⟨Nat.le_of_ble_eq_true rfl, Nat.le_of_ble_eq_true rfl⟩ (rest := []) rfl (Nat.le_of_ble_eq_true rfl) dX8_sends_90 ⟨Nat.zero_le _, Nat.zero_le _⟩ (fun zr15 zE15 zH15 zL15 zp15 zw15 => ?_)
                        obtain ⟨ze15, zq15⟩ := zp15
                        rw [ze15] at zw15
                        clear ze15
                        rw [zq15]
                        refine b_if_eq (tgt := 101) hx hb dX8_sends_93 (by decide) (fun zc93 => ?_) (fun zc93 => ?_)
                        · refine lv_iload hx hb dX8_sends_101 (lv_at hl 5 rfl) ?_
                          refine lv_istore (lv' := [(5, .int (nI w)), (0, .ref (ad q)), (1, .int (nI rho)), (2, .int (nI n)), (3, .int tm), (4, .int (nI i)), (6, .int (nI k))]) hx hb dX8_sends_103 hl (by decide) rfl (fun ls hl => ?_)
                          refine lv_iinc (v := nI (k + 1)) (lv' := [(6, .int (nI (k + 1))), (5, .int (nI w)), (0, .ref (ad q)), (1, .int (nI rho)), (2, .int (nI n)), (3, .int tm), (4, .int (nI i))]) hx hb dX8_sends_105 hl (k := 6) rfl (by rw [show Int32.ofInt 1 = nI 1 from rfl, nI_add]) (by decide) rfl (fun ls hl => ?_)
                          refine lv_goto (tgt := 68) hx hb dX8_sends_108 (by decide) ?_
                          exact zih68 (k + 1) w (by omega) (by omega) (by omega) (by refine ⟨fun z => absurd z (by omega), fun z => ?_⟩; rw [show k + 1 - 1 = (k - 1) + 1 by omega, fore, show k - 1 + 1 = k by omega, ← hw.2 z]; first | rw [if_pos zc93] | rw [if_neg zc93]) (by omega) _ _ _ zl68_0 zl68_1 zl68_2 zl68_3 zl68_4 zl68_5 (fun j zm0 zm1 zm2 zm3 => zlf68 j zm0 zm1 zm2 zm3) zw15 _ (lv_sub hl [2, 3, 4, 5, 6, 1, 0] rfl)
                        · refine lv_iload hx hb dX8_sends_96 (lv_at hl 6 rfl) ?_
                          refine lv_goto (tgt := 103) hx hb dX8_sends_98 (by decide) ?_
                          refine lv_istore (lv' := [(5, .int (nI k)), (0, .ref (ad q)), (1, .int (nI rho)), (2, .int (nI n)), (3, .int tm), (4, .int (nI i)), (6, .int (nI k))]) hx hb dX8_sends_103 hl (by decide) rfl (fun ls hl => ?_)
                          refine lv_iinc (v := nI (k + 1)) (lv' := [(6, .int (nI (k + 1))), (5, .int (nI k)), (0, .ref (ad q)), (1, .int (nI rho)), (2, .int (nI n)), (3, .int tm), (4, .int (nI i))]) hx hb dX8_sends_105 hl (k := 6) rfl (by rw [show Int32.ofInt 1 = nI 1 from rfl, nI_add]) (by decide) rfl (fun ls hl => ?_)
                          refine lv_goto (tgt := 68) hx hb dX8_sends_108 (by decide) ?_
                          exact zih68 (k + 1) k (by omega) (by omega) (by omega) (by refine ⟨fun z => absurd z (by omega), fun z => ?_⟩; rw [show k + 1 - 1 = (k - 1) + 1 by omega, fore, show k - 1 + 1 = k by omega, ← hw.2 z]; first | rw [if_pos zc93] | rw [if_neg zc93]) (by omega) _ _ _ zl68_0 zl68_1 zl68_2 zl68_3 zl68_4 zl68_5 (fun j zm0 zm1 zm2 zm3 => zlf68 j zm0 zm1 zm2 zm3) zw15 _ (lv_sub hl [2, 3, 4, 5, 6, 1, 0] rfl)
                exact zlp68 _ 1 0 (Nat.lt_succ_self _) (by omega) (by omega) (by first | exact ⟨fun _ => rfl, fun z => absurd zc47 z⟩ | exact ⟨fun z => absurd z zc47, fun _ => rfl⟩) (by first | exact Nat.mod_lt _ hp1 | omega) _ _ _ zl40_0 zl40_1 zl40_2 zl40_3 zl40_4 zl40_5 (fun j zm0 zm1 zm2 zm3 => zlf40 j zm0 zm1 zm2 zm3) zlw40 _ (lv_sub hl [2, 3, 4, 5, 6, 1, 0] rfl)
              · refine lv_iload hx hb dX8_sends_50 (lv_at hl 4 rfl) ?_
                refine lv_aload_n hx hb dX8_sends_52 rfl (lv_at hl 0 rfl) ?_
                refine r_get C zlw40 RX8 TX8 17 5 hinX8 (i := q) (by omega) zl40_0 rfl 1 (by decide) (by decide +kernel) rfl (v := .ref (ad (q + 1))) rfl dX8_sends_53 ?_
                refine lv_iconst (v := nI 0) hx hb dX8_sends_56 rfl ?_
                refine r_iaN C zlw40 (i := (q + 1)) (by omega) zl40_1 (j := 0) (by omega) (by omega) dX8_sends_57 ?_
                refine r_nat pg hs0 ?_
                refine lv_irem hx hb dX8_sends_58 (fun zq => by have z1 := (nI_eq (a := pg) (b := 0) (by omega) (by omega)).mp zq; omega) ?_
                refine r_nat (i % pg) (pk_rem (by omega) (by omega) (by omega)) ?_
                refine lv_goto (tgt := 63) hx hb dX8_sends_59 (by decide) ?_
                refine lv_istore (lv' := [(5, .int (nI (i % pg))), (0, .ref (ad q)), (1, .int (nI rho)), (2, .int (nI n)), (3, .int tm), (4, .int (nI i))]) hx hb dX8_sends_63 hl (by decide) rfl (fun ls hl => ?_)
                refine lv_iconst (v := nI 1) hx hb dX8_sends_65 rfl ?_
                refine lv_istore (lv' := [(6, .int (nI 1)), (5, .int (nI (i % pg))), (0, .ref (ad q)), (1, .int (nI rho)), (2, .int (nI n)), (3, .int tm), (4, .int (nI i))]) hx hb dX8_sends_66 hl (by decide) rfl (fun ls hl => ?_)
                have zlp68 : ∀ (zn : Nat) (k w : Nat), pg - k < zn → (1 ≤ k) → (k ≤ pg) → ((rho = 0 → w = i % pg) ∧ (¬ rho = 0 → w = fore (lenF s) (wtF s) g0 g1 tm rho (k - 1))) → (w < pg) → ∀ (E9 : Nat → va_E) (H9 : Heap) (L9 : List Loc), E9 q = .inr (5, [.int th, .ref (ad (q + 1)), .long se, .ref (ad (q + 2)), .ref (ad (q + 3)), .int (nI co), .ref (ad (q + 4)), .int (nI pm), .ref (ad (q + 5)), .ref (ad (q + 6)), .ref (ad (q + 7)), .ref (ad (q + 8)), .int (nI em), .ref (ad (q + 9)), .ref (ad (q + 10)), .ref (ad (q + 11)), .ref (ad (q + 12))]) → E9 (q + 1) = eI G 508 s → E9 (q + 9) = eI G 60 g9 → E9 (q + 10) = eI G 10 g0 → E9 (q + 11) = eI G 10 g1 → E9 (q + 12) = eI G 10 g2 → (∀ j, j ≠ (q + 10) → j ≠ (q + 11) → j ≠ (q + 12) → j ≠ (q + 9) → E9 j = E j) → Wd G A ss_.heap H9 L9 ad E9 N → ∀ (ls : Array Slot), lv_has ls 7 [(0, .ref (ad q)), (1, .int (nI rho)), (2, .int (nI n)), (3, .int tm), (4, .int (nI i)), (5, .int (nI w)), (6, .int (nI k))] → W pp_ l ee_ ({ frames := 5, cells := 0, slots := 0, locals := 114 } : Room) ss_ mm_ aa_ bb_ me_ cc_ H9 L9 0 0 (QV bb_ aa_ ss_ G ad N A (fun E2 => ∃ od2 : Nat → Int32, ∃ og2 : Nat → Int32, ∃ le2 : Nat → Int32, E2 (q + 9) = eI G 60 od2 ∧ E2 (q + 10) = eI G 10 og2 ∧ E2 (q + 11) = eI G 10 le2 ∧ E2 (q + 12) = eI G 10 (waitF (lenF s) (wtF s) rho pg n) ∧ (∀ j, j ≠ (q + 9) → j ≠ (q + 10) → j ≠ (q + 11) → j ≠ (q + 12) → E2 j = E j) ∧ (∀ j, j < n → od2 j = nI (sentK (lenF s) (wtF s) rho pg j)))) (F0 mm_ 68 ls []) := by
                  intro zn
                  induction zn with
                  | zero => intro k w zhm; exact absurd zhm (Nat.not_lt_zero _)
                  | succ zn zih68 =>
                    intro k w zhm68 hk1 hk2 hw hwl zE_68 zH_68 zL_68 zl68_0 zl68_1 zl68_2 zl68_3 zl68_4 zl68_5 zlf68  zlw68 ls hl
                    refine lv_iload hx hb dX8_sends_68 (lv_at hl 6 rfl) ?_
                    refine lv_aload_n hx hb dX8_sends_70 rfl (lv_at hl 0 rfl) ?_
                    refine r_get C zlw68 RX8 TX8 17 5 hinX8 (i := q) (by omega) zl68_0 rfl 1 (by decide) (by decide +kernel) rfl (v := .ref (ad (q + 1))) rfl dX8_sends_71 ?_
                    refine lv_iconst (v := nI 0) hx hb dX8_sends_74 rfl ?_
                    refine r_iaN C zlw68 (i := (q + 1)) (by omega) zl68_1 (j := 0) (by omega) (by omega) dX8_sends_75 ?_
                    refine r_nat pg hs0 ?_
                    refine n_icmp_ge (tgt := 111) hx hb dX8_sends_76 (by decide) (by omega) (by omega) (fun zc76 => ?_) (fun zc76 => ?_)
                    · have zk9 : w = rsK (lenF s) (wtF s) rho pg i (tm, g0, g1, g2) := by
                        unfold rsK nxt
                        by_cases z : rho = 0
                        · rw [if_pos z]; exact hw.1 z
                        · rw [if_neg z]; first | exact (by rw [show pg - 1 = k - 1 by omega]; exact hw.2 z) | exact absurd z (by omega)
                      refine lv_aload_n hx hb dX8_sends_111 rfl (lv_at hl 0 rfl) ?_
                      refine r_get C zlw68 RX8 TX8 17 5 hinX8 (i := q) (by omega) zl68_0 rfl 13 (by decide) (by decide +kernel) rfl (v := .ref (ad (q + 9))) rfl dX8_sends_112 ?_
                      refine lv_iload hx hb dX8_sends_115 (lv_at hl 4 rfl) ?_
                      refine lv_iload hx hb dX8_sends_117 (lv_at hl 5 rfl) ?_
                      refine r_iasN C zlw68 (i := (q + 9)) (by omega) zl68_2 (j := i) (by omega) (by omega) dX8_sends_119 (fun zE16 zH16 zL16 zg16 zf16 zw16 => ?_)
                      have zh16_0 : zE16 (q + 9) = eI G 60 (upd g9 i (nI w)) := zg16
                      have zk16_0 : zE16 q = .inr (5, [.int th, .ref (ad (q + 1)), .long se, .ref (ad (q + 2)), .ref (ad (q + 3)), .int (nI co), .ref (ad (q + 4)), .int (nI pm), .ref (ad (q + 5)), .ref (ad (q + 6)), .ref (ad (q + 7)), .ref (ad (q + 8)), .int (nI em), .ref (ad (q + 9)), .ref (ad (q + 10)), .ref (ad (q + 11)), .ref (ad (q + 12))]) := (zf16 _ (by omega)).trans zl68_0
                      have zk16_1 : zE16 (q + 1) = eI G 508 s := (zf16 _ (by omega)).trans zl68_1
                      have zk16_2 : zE16 (q + 10) = eI G 10 g0 := (zf16 _ (by omega)).trans zl68_3
                      have zk16_3 : zE16 (q + 11) = eI G 10 g1 := (zf16 _ (by omega)).trans zl68_4
                      have zk16_4 : zE16 (q + 12) = eI G 10 g2 := (zf16 _ (by omega)).trans zl68_5
                      have zfr16 : ∀ j, j ≠ (q + 10) → j ≠ (q + 11) → j ≠ (q + 12) → j ≠ (q + 9) → zE16 j = E j := fun j zm0 zm1 zm2 zm3 => (zf16 j zm3).trans (zlf68 j zm0 zm1 zm2 zm3)
                      refine lv_iload_n hx hb dX8_sends_120 rfl (lv_at hl 3 rfl) ?_
                      refine lv_aload_n hx hb dX8_sends_121 rfl (lv_at hl 0 rfl) ?_
                      refine lv_iload hx hb dX8_sends_122 (lv_at hl 5 rfl) ?_
                      refine r_vI C zw16 hl.1 (i := q) (by omega) zk16_0 (T := TX8) (n := 17) rfl [.int (nI w)] 1 rfl (c_X8_lengthOf (l := l) (G := G) (tC := tC) (ad := ad) (N := N) (E := zE16) (q := q) (co := co) (pm := pm) (em := em) (th := th) (se := se) (s := s) (k := w) (by omega) zk16_0 zk16_1 (by first | assumption | omega)) gX8_sends_X8_lengthOf rfl ⟨rfl, rfl⟩ (by decide +kernel) ⟨Nat.le_of_ble_eq_true rfl, Nat.le_of_ble_eq_true rfl⟩ (rest := [.int tm]) rfl (Nat.le_of_ble_eq_true rfl) dX8_sends_124 ⟨Nat.zero_le _, Nat.zero_le _⟩ (fun zr17 zE17 zH17 zL17 zp17 zw17 => ?_)
                      obtain ⟨ze17, zq17⟩ := zp17
                      rw [ze17] at zw17
                      clear ze17
                      rw [zq17]
                      refine lv_iadd hx hb dX8_sends_127 ?_
                      refine lv_istore_n (lv' := [(3, .int (tm + (nI (lenN (lkL s w) (ltF s w))))), (0, .ref (ad q)), (1, .int (nI rho)), (2, .int (nI n)), (4, .int (nI i)), (5, .int (nI w)), (6, .int (nI k))]) hx hb dX8_sends_128 rfl hl (by decide) rfl (fun ls hl => ?_)
                      refine lv_aload_n hx hb dX8_sends_129 rfl (lv_at hl 1 rfl) ?_
                      refine lv_iload hx hb dX8_sends_130 (lv_at hl 5 rfl) ?_
                      refine lv_iload_n hx hb dX8_sends_132 rfl (lv_at hl 0 rfl) ?_
                      refine r_vV C zw17 hl.1 (i := q) (by omega) zk16_0 (T := TX8) (n := 17) rfl [.int (nI w), .int (tm + (nI (lenN (lkL s w) (ltF s w))))] 2 rfl (c_X8_waited (l := l) (G := G) (tC := tC) (ad := ad) (N := N) (E := zE16) (q := q) (co := co) (pm := pm) (em := em) (th := th) (se := se) (le := g1) (wa := g2) (k := w) (tm := tm + (nI (lenN (lkL s w) (ltF s w)))) (by omega) zk16_0 zk16_3 zk16_4 (by first | assumption | omega)) gX8_sends_X8_waited rfl ⟨rfl, rfl⟩ (by decide +kernel) ⟨Nat.le_of_ble_eq_true rfl, Nat.le_of_ble_eq_true rfl⟩ (rest := []) rfl (Nat.le_of_ble_eq_true rfl) dX8_sends_133 ⟨Nat.zero_le _, Nat.zero_le _⟩ (fun zE18 zH18 zL18 zp18 zw18 => ?_)
                      obtain ⟨zg18_0, zf18⟩ := zp18
                      have zh18_0 : zE18 (q + 12) = eI G 10 (upd g2 w (mxI (g2 w) ((tm + (nI (lenN (lkL s w) (ltF s w)))) - g1 w))) := zg18_0
                      have zk18_0 : zE18 q = .inr (5, [.int th, .ref (ad (q + 1)), .long se, .ref (ad (q + 2)), .ref (ad (q + 3)), .int (nI co), .ref (ad (q + 4)), .int (nI pm), .ref (ad (q + 5)), .ref (ad (q + 6)), .ref (ad (q + 7)), .ref (ad (q + 8)), .int (nI em), .ref (ad (q + 9)), .ref (ad (q + 10)), .ref (ad (q + 11)), .ref (ad (q + 12))]) := (zf18 _ (by omega)).trans zk16_0
                      have zk18_1 : zE18 (q + 1) = eI G 508 s := (zf18 _ (by omega)).trans zk16_1
                      have zk18_2 : zE18 (q + 10) = eI G 10 g0 := (zf18 _ (by omega)).trans zk16_2
                      have zk18_3 : zE18 (q + 11) = eI G 10 g1 := (zf18 _ (by omega)).trans zk16_3
                      have zk18_4 : zE18 (q + 9) = eI G 60 (upd g9 i (nI w)) := (zf18 _ (by omega)).trans zh16_0
                      have zfr18 : ∀ j, j ≠ (q + 10) → j ≠ (q + 11) → j ≠ (q + 12) → j ≠ (q + 9) → zE18 j = E j := fun j zm0 zm1 zm2 zm3 => (zf18 j zm2).trans (zfr16 j zm0 zm1 zm2 zm3)
                      refine lv_aload_n hx hb dX8_sends_136 rfl (lv_at hl 1 rfl) ?_
                      refine r_get C zw18 RX8 TX8 17 5 hinX8 (i := q) (by omega) zk18_0 rfl 15 (by decide) (by decide +kernel) rfl (v := .ref (ad (q + 11))) rfl dX8_sends_137 ?_
                      refine lv_iload hx hb dX8_sends_140 (lv_at hl 5 rfl) ?_
                      refine lv_iload_n hx hb dX8_sends_142 rfl (lv_at hl 0 rfl) ?_
                      refine r_iasN C zw18 (i := (q + 11)) (by omega) zk18_3 (j := w) (by omega) (by omega) dX8_sends_143 (fun zE19 zH19 zL19 zg19 zf19 zw19 => ?_)
                      have zh19_0 : zE19 (q + 11) = eI G 10 (upd g1 w (tm + (nI (lenN (lkL s w) (ltF s w))))) := zg19
                      have zk19_0 : zE19 q = .inr (5, [.int th, .ref (ad (q + 1)), .long se, .ref (ad (q + 2)), .ref (ad (q + 3)), .int (nI co), .ref (ad (q + 4)), .int (nI pm), .ref (ad (q + 5)), .ref (ad (q + 6)), .ref (ad (q + 7)), .ref (ad (q + 8)), .int (nI em), .ref (ad (q + 9)), .ref (ad (q + 10)), .ref (ad (q + 11)), .ref (ad (q + 12))]) := (zf19 _ (by omega)).trans zk18_0
                      have zk19_1 : zE19 (q + 1) = eI G 508 s := (zf19 _ (by omega)).trans zk18_1
                      have zk19_2 : zE19 (q + 10) = eI G 10 g0 := (zf19 _ (by omega)).trans zk18_2
                      have zk19_3 : zE19 (q + 9) = eI G 60 (upd g9 i (nI w)) := (zf19 _ (by omega)).trans zk18_4
                      have zk19_4 : zE19 (q + 12) = eI G 10 (upd g2 w (mxI (g2 w) ((tm + (nI (lenN (lkL s w) (ltF s w)))) - g1 w))) := (zf19 _ (by omega)).trans zh18_0
                      have zfr19 : ∀ j, j ≠ (q + 10) → j ≠ (q + 11) → j ≠ (q + 12) → j ≠ (q + 9) → zE19 j = E j := fun j zm0 zm1 zm2 zm3 => (zf19 j zm1).trans (zfr18 j zm0 zm1 zm2 zm3)
                      refine lv_aload_n hx hb dX8_sends_144 rfl (lv_at hl 1 rfl) ?_
                      refine r_get C zw19 RX8 TX8 17 5 hinX8 (i := q) (by omega) zk19_0 rfl 14 (by decide) (by decide +kernel) rfl (v := .ref (ad (q + 10))) rfl dX8_sends_145 ?_
                      refine lv_iload hx hb dX8_sends_148 (lv_at hl 5 rfl) ?_
                      refine lv_dup2_11 hx hb dX8_sends_150 rfl rfl ?_
                      refine r_iaN C zw19 (i := (q + 10)) (by omega) zk19_2 (j := w) (by omega) (by omega) dX8_sends_151 ?_
                      refine lv_iconst (v := nI 1) hx hb dX8_sends_152 rfl ?_
                      refine lv_iadd hx hb dX8_sends_153 ?_
                      refine r_iasN C zw19 (i := (q + 10)) (by omega) zk19_2 (j := w) (by omega) (by omega) dX8_sends_154 (fun zE20 zH20 zL20 zg20 zf20 zw20 => ?_)
                      have zh20_0 : zE20 (q + 10) = eI G 10 (upd g0 w ((g0 w) + (nI 1))) := zg20
                      have zk20_0 : zE20 q = .inr (5, [.int th, .ref (ad (q + 1)), .long se, .ref (ad (q + 2)), .ref (ad (q + 3)), .int (nI co), .ref (ad (q + 4)), .int (nI pm), .ref (ad (q + 5)), .ref (ad (q + 6)), .ref (ad (q + 7)), .ref (ad (q + 8)), .int (nI em), .ref (ad (q + 9)), .ref (ad (q + 10)), .ref (ad (q + 11)), .ref (ad (q + 12))]) := (zf20 _ (by omega)).trans zk19_0
                      have zk20_1 : zE20 (q + 1) = eI G 508 s := (zf20 _ (by omega)).trans zk19_1
                      have zk20_2 : zE20 (q + 9) = eI G 60 (upd g9 i (nI w)) := (zf20 _ (by omega)).trans zk19_3
                      have zk20_3 : zE20 (q + 12) = eI G 10 (upd g2 w (mxI (g2 w) ((tm + (nI (lenN (lkL s w) (ltF s w)))) - g1 w))) := (zf20 _ (by omega)).trans zk19_4
                      have zk20_4 : zE20 (q + 11) = eI G 10 (upd g1 w (tm + (nI (lenN (lkL s w) (ltF s w))))) := (zf20 _ (by omega)).trans zh19_0
                      have zfr20 : ∀ j, j ≠ (q + 10) → j ≠ (q + 11) → j ≠ (q + 12) → j ≠ (q + 9) → zE20 j = E j := fun j zm0 zm1 zm2 zm3 => (zf20 j zm0).trans (zfr19 j zm0 zm1 zm2 zm3)
                      refine lv_iinc (v := nI (i + 1)) (lv' := [(4, .int (nI (i + 1))), (3, .int (tm + (nI (lenN (lkL s w) (ltF s w))))), (0, .ref (ad q)), (1, .int (nI rho)), (2, .int (nI n)), (5, .int (nI w)), (6, .int (nI k))]) hx hb dX8_sends_155 hl (k := 4) rfl (by rw [show Int32.ofInt 1 = nI 1 from rfl, nI_add]) (by decide) rfl (fun ls hl => ?_)
                      refine lv_goto (tgt := 40) hx hb dX8_sends_158 (by decide) ?_
                      exact zih40 (i + 1) (tm + (nI (lenN (lkL s w) (ltF s w)))) (upd g9 i (nI w)) (upd g0 w ((g0 w) + (nI 1))) (upd g1 w (tm + (nI (lenN (lkL s w) (ltF s w))))) (upd g2 w (mxI (g2 w) ((tm + (nI (lenN (lkL s w) (ltF s w)))) - g1 w))) (by omega) (by omega) (by rw [rs, ← hT, ← zk9]; rfl) (by exact ord_s (f := sentK (lenF s) (wtF s) rho pg) hO (by rw [sentK, ← hT, ← zk9])) _ _ _ zk20_0 zk20_1 zk20_2 zh20_0 zk20_4 zk20_3 (fun j zm0 zm1 zm2 zm3 => zfr20 j zm0 zm1 zm2 zm3) zw20 _ (lv_sub hl [2, 3, 4, 1, 0] rfl)
                    · refine lv_iload_n hx hb dX8_sends_79 rfl (lv_at hl 1 rfl) ?_
                      refine n_if_le (tgt := 111) hx hb dX8_sends_80 (by decide) (by omega) (fun zc80 => ?_) (fun zc80 => ?_)
                      · have zk9 : w = rsK (lenF s) (wtF s) rho pg i (tm, g0, g1, g2) := by
                          unfold rsK nxt
                          by_cases z : rho = 0
                          · rw [if_pos z]; exact hw.1 z
                          · rw [if_neg z]; first | exact (by rw [show pg - 1 = k - 1 by omega]; exact hw.2 z) | exact absurd z (by omega)
                        refine lv_aload_n hx hb dX8_sends_111 rfl (lv_at hl 0 rfl) ?_
                        refine r_get C zlw68 RX8 TX8 17 5 hinX8 (i := q) (by omega) zl68_0 rfl 13 (by decide) (by decide +kernel) rfl (v := .ref (ad (q + 9))) rfl dX8_sends_112 ?_
                        refine lv_iload hx hb dX8_sends_115 (lv_at hl 4 rfl) ?_
                        refine lv_iload hx hb dX8_sends_117 (lv_at hl 5 rfl) ?_
                        refine r_iasN C zlw68 (i := (q + 9)) (by omega) zl68_2 (j := i) (by omega) (by omega) dX8_sends_119 (fun zE21 zH21 zL21 zg21 zf21 zw21 => ?_)
                        have zh21_0 : zE21 (q + 9) = eI G 60 (upd g9 i (nI w)) := zg21
                        have zk21_0 : zE21 q = .inr (5, [.int th, .ref (ad (q + 1)), .long se, .ref (ad (q + 2)), .ref (ad (q + 3)), .int (nI co), .ref (ad (q + 4)), .int (nI pm), .ref (ad (q + 5)), .ref (ad (q + 6)), .ref (ad (q + 7)), .ref (ad (q + 8)), .int (nI em), .ref (ad (q + 9)), .ref (ad (q + 10)), .ref (ad (q + 11)), .ref (ad (q + 12))]) := (zf21 _ (by omega)).trans zl68_0
                        have zk21_1 : zE21 (q + 1) = eI G 508 s := (zf21 _ (by omega)).trans zl68_1
                        have zk21_2 : zE21 (q + 10) = eI G 10 g0 := (zf21 _ (by omega)).trans zl68_3
                        have zk21_3 : zE21 (q + 11) = eI G 10 g1 := (zf21 _ (by omega)).trans zl68_4
                        have zk21_4 : zE21 (q + 12) = eI G 10 g2 := (zf21 _ (by omega)).trans zl68_5
                        have zfr21 : ∀ j, j ≠ (q + 10) → j ≠ (q + 11) → j ≠ (q + 12) → j ≠ (q + 9) → zE21 j = E j := fun j zm0 zm1 zm2 zm3 => (zf21 j zm3).trans (zlf68 j zm0 zm1 zm2 zm3)
                        refine lv_iload_n hx hb dX8_sends_120 rfl (lv_at hl 3 rfl) ?_
                        refine lv_aload_n hx hb dX8_sends_121 rfl (lv_at hl 0 rfl) ?_
                        refine lv_iload hx hb dX8_sends_122 (lv_at hl 5 rfl) ?_
                        refine r_vI C zw21 hl.1 (i := q) (by omega) zk21_0 (T := TX8) (n := 17) rfl [.int (nI w)] 1 rfl (c_X8_lengthOf (l := l) (G := G) (tC := tC) (ad := ad) (N := N) (E := zE21) (q := q) (co := co) (pm := pm) (em := em) (th := th) (se := se) (s := s) (k := w) (by omega) zk21_0 zk21_1 (by first | assumption | omega)) gX8_sends_X8_lengthOf rfl ⟨rfl, rfl⟩ (by decide +kernel) ⟨Nat.le_of_ble_eq_true rfl, Nat.le_of_ble_eq_true rfl⟩ (rest := [.int tm]) rfl (Nat.le_of_ble_eq_true rfl) dX8_sends_124 ⟨Nat.zero_le _, Nat.zero_le _⟩ (fun zr22 zE22 zH22 zL22 zp22 zw22 => ?_)
                        obtain ⟨ze22, zq22⟩ := zp22
                        rw [ze22] at zw22
                        clear ze22
                        rw [zq22]
                        refine lv_iadd hx hb dX8_sends_127 ?_
                        refine lv_istore_n (lv' := [(3, .int (tm + (nI (lenN (lkL s w) (ltF s w))))), (0, .ref (ad q)), (1, .int (nI rho)), (2, .int (nI n)), (4, .int (nI i)), (5, .int (nI w)), (6, .int (nI k))]) hx hb dX8_sends_128 rfl hl (by decide) rfl (fun ls hl => ?_)
                        refine lv_aload_n hx hb dX8_sends_129 rfl (lv_at hl 1 rfl) ?_
                        refine lv_iload hx hb dX8_sends_130 (lv_at hl 5 rfl) ?_
                        refine lv_iload_n hx hb dX8_sends_132 rfl (lv_at hl 0 rfl) ?_
                        refine r_vV C zw22 hl.1 (i := q) (by omega) zk21_0 (T := TX8) (n := 17) rfl [.int (nI w), .int (tm + (nI (lenN (lkL s w) (ltF s w))))] 2 rfl (c_X8_waited (l := l) (G := G) (tC := tC) (ad := ad) (N := N) (E := zE21) (q := q) (co := co) (pm := pm) (em := em) (th := th) (se := se) (le := g1) (wa := g2) (k := w) (tm := tm + (nI (lenN (lkL s w) (ltF s w)))) (by omega) zk21_0 zk21_3 zk21_4 (by first | assumption | omega)) gX8_sends_X8_waited rfl ⟨rfl, rfl⟩ (by decide +kernel) ⟨Nat.le_of_ble_eq_true rfl, Nat.le_of_ble_eq_true rfl⟩ (rest := []) rfl (Nat.le_of_ble_eq_true rfl) dX8_sends_133 ⟨Nat.zero_le _, Nat.zero_le _⟩ (fun zE23 zH23 zL23 zp23 zw23 => ?_)
                        obtain ⟨zg23_0, zf23⟩ := zp23
                        have zh23_0 : zE23 (q + 12) = eI G 10 (upd g2 w (mxI (g2 w) ((tm + (nI (lenN (lkL s w) (ltF s w)))) - g1 w))) := zg23_0
                        have zk23_0 : zE23 q = .inr (5, [.int th, .ref (ad (q + 1)), .long se, .ref (ad (q + 2)), .ref (ad (q + 3)), .int (nI co), .ref (ad (q + 4)), .int (nI pm), .ref (ad (q + 5)), .ref (ad (q + 6)), .ref (ad (q + 7)), .ref (ad (q + 8)), .int (nI em), .ref (ad (q + 9)), .ref (ad (q + 10)), .ref (ad (q + 11)), .ref (ad (q + 12))]) := (zf23 _ (by omega)).trans zk21_0
                        have zk23_1 : zE23 (q + 1) = eI G 508 s := (zf23 _ (by omega)).trans zk21_1
                        have zk23_2 : zE23 (q + 10) = eI G 10 g0 := (zf23 _ (by omega)).trans zk21_2
                        have zk23_3 : zE23 (q + 11) = eI G 10 g1 := (zf23 _ (by omega)).trans zk21_3
                        have zk23_4 : zE23 (q + 9) = eI G 60 (upd g9 i (nI w)) := (zf23 _ (by omega)).trans zh21_0
                        have zfr23 : ∀ j, j ≠ (q + 10) → j ≠ (q + 11) → j ≠ (q + 12) → j ≠ (q + 9) → zE23 j = E j := fun j zm0 zm1 zm2 zm3 => (zf23 j zm2).trans (zfr21 j zm0 zm1 zm2 zm3)
                        refine lv_aload_n hx hb dX8_sends_136 rfl (lv_at hl 1 rfl) ?_
                        refine r_get C zw23 RX8 TX8 17 5 hinX8 (i := q) (by omega) zk23_0 rfl 15 (by decide) (by decide +kernel) rfl (v := .ref (ad (q + 11))) rfl dX8_sends_137 ?_
                        refine lv_iload hx hb dX8_sends_140 (lv_at hl 5 rfl) ?_
                        refine lv_iload_n hx hb dX8_sends_142 rfl (lv_at hl 0 rfl) ?_
                        refine r_iasN C zw23 (i := (q + 11)) (by omega) zk23_3 (j := w) (by omega) (by omega) dX8_sends_143 (fun zE24 zH24 zL24 zg24 zf24 zw24 => ?_)
                        have zh24_0 : zE24 (q + 11) = eI G 10 (upd g1 w (tm + (nI (lenN (lkL s w) (ltF s w))))) := zg24
                        have zk24_0 : zE24 q = .inr (5, [.int th, .ref (ad (q + 1)), .long se, .ref (ad (q + 2)), .ref (ad (q + 3)), .int (nI co), .ref (ad (q + 4)), .int (nI pm), .ref (ad (q + 5)), .ref (ad (q + 6)), .ref (ad (q + 7)), .ref (ad (q + 8)), .int (nI em), .ref (ad (q + 9)), .ref (ad (q + 10)), .ref (ad (q + 11)), .ref (ad (q + 12))]) := (zf24 _ (by omega)).trans zk23_0
                        have zk24_1 : zE24 (q + 1) = eI G 508 s := (zf24 _ (by omega)).trans zk23_1
                        have zk24_2 : zE24 (q + 10) = eI G 10 g0 := (zf24 _ (by omega)).trans zk23_2
                        have zk24_3 : zE24 (q + 9) = eI G 60 (upd g9 i (nI w)) := (zf24 _ (by omega)).trans zk23_4
                        have zk24_4 : zE24 (q + 12) = eI G 10 (upd g2 w (mxI (g2 w) ((tm + (nI (lenN (lkL s w) (ltF s w)))) - g1 w))) := (zf24 _ (by omega)).trans zh23_0
                        have zfr24 : ∀ j, j ≠ (q + 10) → j ≠ (q + 11) → j ≠ (q + 12) → j ≠ (q + 9) → zE24 j = E j := fun j zm0 zm1 zm2 zm3 => (zf24 j zm1).trans (zfr23 j zm0 zm1 zm2 zm3)
                        refine lv_aload_n hx hb dX8_sends_144 rfl (lv_at hl 1 rfl) ?_
                        refine r_get C zw24 RX8 TX8 17 5 hinX8 (i := q) (by omega) zk24_0 rfl 14 (by decide) (by decide +kernel) rfl (v := .ref (ad (q + 10))) rfl dX8_sends_145 ?_
                        refine lv_iload hx hb dX8_sends_148 (lv_at hl 5 rfl) ?_
                        refine lv_dup2_11 hx hb dX8_sends_150 rfl rfl ?_
                        refine r_iaN C zw24 (i := (q + 10)) (by omega) zk24_2 (j := w) (by omega) (by omega) dX8_sends_151 ?_
                        refine lv_iconst (v := nI 1) hx hb dX8_sends_152 rfl ?_
                        refine lv_iadd hx hb dX8_sends_153 ?_
                        refine r_iasN C zw24 (i := (q + 10)) (by omega) zk24_2 (j := w) (by omega) (by omega) dX8_sends_154 (fun zE25 zH25 zL25 zg25 zf25 zw25 => ?_)
                        have zh25_0 : zE25 (q + 10) = eI G 10 (upd g0 w ((g0 w) + (nI 1))) := zg25
                        have zk25_0 : zE25 q = .inr (5, [.int th, .ref (ad (q + 1)), .long se, .ref (ad (q + 2)), .ref (ad (q + 3)), .int (nI co), .ref (ad (q + 4)), .int (nI pm), .ref (ad (q + 5)), .ref (ad (q + 6)), .ref (ad (q + 7)), .ref (ad (q + 8)), .int (nI em), .ref (ad (q + 9)), .ref (ad (q + 10)), .ref (ad (q + 11)), .ref (ad (q + 12))]) := (zf25 _ (by omega)).trans zk24_0
                        have zk25_1 : zE25 (q + 1) = eI G 508 s := (zf25 _ (by omega)).trans zk24_1
                        have zk25_2 : zE25 (q + 9) = eI G 60 (upd g9 i (nI w)) := (zf25 _ (by omega)).trans zk24_3
                        have zk25_3 : zE25 (q + 12) = eI G 10 (upd g2 w (mxI (g2 w) ((tm + (nI (lenN (lkL s w) (ltF s w)))) - g1 w))) := (zf25 _ (by omega)).trans zk24_4
                        have zk25_4 : zE25 (q + 11) = eI G 10 (upd g1 w (tm + (nI (lenN (lkL s w) (ltF s w))))) := (zf25 _ (by omega)).trans zh24_0
                        have zfr25 : ∀ j, j ≠ (q + 10) → j ≠ (q + 11) → j ≠ (q + 12) → j ≠ (q + 9) → zE25 j = E j := fun j zm0 zm1 zm2 zm3 => (zf25 j zm0).trans (zfr24 j zm0 zm1 zm2 zm3)
                        refine lv_iinc (v := nI (i + 1)) (lv' := [(4, .int (nI (i + 1))), (3, .int (tm + (nI (lenN (lkL s w) (ltF s w))))), (0, .ref (ad q)), (1, .int (nI rho)), (2, .int (nI n)), (5, .int (nI w)), (6, .int (nI k))]) hx hb dX8_sends_155 hl (k := 4) rfl (by rw [show Int32.ofInt 1 = nI 1 from rfl, nI_add]) (by decide) rfl (fun ls hl => ?_)
                        refine lv_goto (tgt := 40) hx hb dX8_sends_158 (by decide) ?_
                        exact zih40 (i + 1) (tm + (nI (lenN (lkL s w) (ltF s w)))) (upd g9 i (nI w)) (upd g0 w ((g0 w) + (nI 1))) (upd g1 w (tm + (nI (lenN (lkL s w) (ltF s w))))) (upd g2 w (mxI (g2 w) ((tm + (nI (lenN (lkL s w) (ltF s w)))) - g1 w))) (by omega) (by omega) (by rw [rs, ← hT, ← zk9]; rfl) (by exact ord_s (f := sentK (lenF s) (wtF s) rho pg) hO (by rw [sentK, ← hT, ← zk9])) _ _ _ zk25_0 zk25_1 zk25_2 zh25_0 zk25_4 zk25_3 (fun j zm0 zm1 zm2 zm3 => zfr25 j zm0 zm1 zm2 zm3) zw25 _ (lv_sub hl [2, 3, 4, 1, 0] rfl)
                      · refine lv_aload_n hx hb dX8_sends_83 rfl (lv_at hl 0 rfl) ?_
                        refine lv_iload_n hx hb dX8_sends_84 rfl (lv_at hl 1 rfl) ?_
                        refine lv_iload hx hb dX8_sends_85 (lv_at hl 6 rfl) ?_
                        refine lv_iload hx hb dX8_sends_87 (lv_at hl 5 rfl) ?_
                        refine lv_iload_n hx hb dX8_sends_89 rfl (lv_at hl 3 rfl) ?_
                        refine r_vI C zlw68 hl.1 (i := q) (by omega) zl68_0 (T := TX8) (n := 17) rfl [.int (nI rho), .int (nI k), .int (nI w), .int tm] 4 rfl (c_X8_isBetter (l := l) (G := G) (tC := tC) (ad := ad) (N := N) (E := zE_68) (q := q) (co := co) (pm := pm) (em := em) (th := th) (se := se) (pg := pg) (s := s) (og := g0) (le := g1) (rho := rho) (k := k) (o := w) (tm := tm) (by omega) zl68_0 zl68_1 zl68_3 zl68_4 (by first | assumption | omega) (by first | assumption | omega) (by first | assumption | omega)) gX8_sends_X8_isBetter rfl ⟨rfl, rfl⟩ (by decide +kernel) ⟨Nat.le_of_ble_eq_true rfl, Nat.le_of_ble_eq_true rfl⟩ (rest := []) rfl (Nat.le_of_ble_eq_true rfl) dX8_sends_90 ⟨Nat.zero_le _, Nat.zero_le _⟩ (fun zr26 zE26 zH26 zL26 zp26 zw26 => ?_)
                        obtain ⟨ze26, zq26⟩ := zp26
                        rw [ze26] at zw26
                        clear ze26
                        rw [zq26]
                        refine b_if_eq (tgt := 101) hx hb dX8_sends_93 (by decide) (fun zc93 => ?_) (fun zc93 => ?_)
                        · refine lv_iload hx hb dX8_sends_101 (lv_at hl 5 rfl) ?_
                          refine lv_istore (lv' := [(5, .int (nI w)), (0, .ref (ad q)), (1, .int (nI rho)), (2, .int (nI n)), (3, .int tm), (4, .int (nI i)), (6, .int (nI k))]) hx hb dX8_sends_103 hl (by decide) rfl (fun ls hl => ?_)
                          refine lv_iinc (v := nI (k + 1)) (lv' := [(6, .int (nI (k + 1))), (5, .int (nI w)), (0, .ref (ad q)), (1, .int (nI rho)), (2, .int (nI n)), (3, .int tm), (4, .int (nI i))]) hx hb dX8_sends_105 hl (k := 6) rfl (by rw [show Int32.ofInt 1 = nI 1 from rfl, nI_add]) (by decide) rfl (fun ls hl => ?_)
                          refine lv_goto (tgt := 68) hx hb dX8_sends_108 (by decide) ?_
                          exact zih68 (k + 1) w (by omega) (by omega) (by omega) (by refine ⟨fun z => absurd z (by omega), fun z => ?_⟩; rw [show k + 1 - 1 = (k - 1) + 1 by omega, fore, show k - 1 + 1 = k by omega, ← hw.2 z]; first | rw [if_pos zc93] | rw [if_neg zc93]) (by omega) _ _ _ zl68_0 zl68_1 zl68_2 zl68_3 zl68_4 zl68_5 (fun j zm0 zm1 zm2 zm3 => zlf68 j zm0 zm1 zm2 zm3) zw26 _ (lv_sub hl [2, 3, 4, 5, 6, 1, 0] rfl)
                        · refine lv_iload hx hb dX8_sends_96 (lv_at hl 6 rfl) ?_
                          refine lv_goto (tgt := 103) hx hb dX8_sends_98 (by decide) ?_
                          refine lv_istore (lv' := [(5, .int (nI k)), (0, .ref (ad q)), (1, .int (nI rho)), (2, .int (nI n)), (3, .int tm), (4, .int (nI i)), (6, .int (nI k))]) hx hb dX8_sends_103 hl (by decide) rfl (fun ls hl => ?_)
                          refine lv_iinc (v := nI (k + 1)) (lv' := [(6, .int (nI (k + 1))), (5, .int (nI k)), (0, .ref (ad q)), (1, .int (nI rho)), (2, .int (nI n)), (3, .int tm), (4, .int (nI i))]) hx hb dX8_sends_105 hl (k := 6) rfl (by rw [show Int32.ofInt 1 = nI 1 from rfl, nI_add]) (by decide) rfl (fun ls hl => ?_)
                          refine lv_goto (tgt := 68) hx hb dX8_sends_108 (by decide) ?_
                          exact zih68 (k + 1) k (by omega) (by omega) (by omega) (by refine ⟨fun z => absurd z (by omega), fun z => ?_⟩; rw [show k + 1 - 1 = (k - 1) + 1 by omega, fore, show k - 1 + 1 = k by omega, ← hw.2 z]; first | rw [if_pos zc93] | rw [if_neg zc93]) (by omega) _ _ _ zl68_0 zl68_1 zl68_2 zl68_3 zl68_4 zl68_5 (fun j zm0 zm1 zm2 zm3 => zlf68 j zm0 zm1 zm2 zm3) zw26 _ (lv_sub hl [2, 3, 4, 5, 6, 1, 0] rfl)
                exact zlp68 _ 1 (i % pg) (Nat.lt_succ_self _) (by omega) (by omega) (by first | exact ⟨fun _ => rfl, fun z => absurd zc47 z⟩ | exact ⟨fun z => absurd z zc47, fun _ => rfl⟩) (by first | exact Nat.mod_lt _ hp1 | omega) _ _ _ zl40_0 zl40_1 zl40_2 zl40_3 zl40_4 zl40_5 (fun j zm0 zm1 zm2 zm3 => zlf40 j zm0 zm1 zm2 zm3) zlw40 _ (lv_sub hl [2, 3, 4, 5, 6, 1, 0] rfl)
        exact zlp40 _ 0 (nI 0) od (fun _ => nI 0) (fun _ => nI 0) (fun _ => nI 0) (Nat.lt_succ_self _) (by omega) (by rfl) (by intro j hj; exact absurd hj (Nat.not_lt_zero j)) _ _ _ zk3_0 zk3_1 zk3_2 zk3_3 zk3_4 zh3_0 (fun j zm0 zm1 zm2 zm3 => zfr3 j zm0 zm1 zm2) zw3 _ (lv_sub hl [2, 3, 4, 1, 0] rfl)
      · refine lv_aload_n hx hb dX8_sends_8 rfl (lv_at hl 0 rfl) ?_
        refine r_get C zlw2 RX8 TX8 17 5 hinX8 (i := q) (by omega) zl2_0 rfl 14 (by decide) (by decide +kernel) rfl (v := .ref (ad (q + 10))) rfl dX8_sends_9 ?_
        refine lv_iload_n hx hb dX8_sends_12 rfl (lv_at hl 3 rfl) ?_
        refine lv_iconst (v := nI 0) hx hb dX8_sends_13 rfl ?_
        refine r_iasN C zlw2 (i := (q + 10)) (by omega) zl2_3 (j := z) (by omega) (by omega) dX8_sends_14 (fun zE27 zH27 zL27 zg27 zf27 zw27 => ?_)
        have zh27_0 : zE27 (q + 10) = eI G 10 (upd f1 z (nI 0)) := zg27
        have zk27_0 : zE27 q = .inr (5, [.int th, .ref (ad (q + 1)), .long se, .ref (ad (q + 2)), .ref (ad (q + 3)), .int (nI co), .ref (ad (q + 4)), .int (nI pm), .ref (ad (q + 5)), .ref (ad (q + 6)), .ref (ad (q + 7)), .ref (ad (q + 8)), .int (nI em), .ref (ad (q + 9)), .ref (ad (q + 10)), .ref (ad (q + 11)), .ref (ad (q + 12))]) := (zf27 _ (by omega)).trans zl2_0
        have zk27_1 : zE27 (q + 1) = eI G 508 s := (zf27 _ (by omega)).trans zl2_1
        have zk27_2 : zE27 (q + 9) = eI G 60 od := (zf27 _ (by omega)).trans zl2_2
        have zk27_3 : zE27 (q + 11) = eI G 10 f2 := (zf27 _ (by omega)).trans zl2_4
        have zk27_4 : zE27 (q + 12) = eI G 10 f3 := (zf27 _ (by omega)).trans zl2_5
        have zfr27 : ∀ j, j ≠ (q + 10) → j ≠ (q + 11) → j ≠ (q + 12) → zE27 j = E j := fun j zm0 zm1 zm2 => (zf27 j zm0).trans (zlf2 j zm0 zm1 zm2)
        refine lv_aload_n hx hb dX8_sends_15 rfl (lv_at hl 0 rfl) ?_
        refine r_get C zw27 RX8 TX8 17 5 hinX8 (i := q) (by omega) zk27_0 rfl 15 (by decide) (by decide +kernel) rfl (v := .ref (ad (q + 11))) rfl dX8_sends_16 ?_
        refine lv_iload_n hx hb dX8_sends_19 rfl (lv_at hl 3 rfl) ?_
        refine lv_iconst (v := nI 0) hx hb dX8_sends_20 rfl ?_
        refine r_iasN C zw27 (i := (q + 11)) (by omega) zk27_3 (j := z) (by omega) (by omega) dX8_sends_21 (fun zE28 zH28 zL28 zg28 zf28 zw28 => ?_)
        have zh28_0 : zE28 (q + 11) = eI G 10 (upd f2 z (nI 0)) := zg28
        have zk28_0 : zE28 q = .inr (5, [.int th, .ref (ad (q + 1)), .long se, .ref (ad (q + 2)), .ref (ad (q + 3)), .int (nI co), .ref (ad (q + 4)), .int (nI pm), .ref (ad (q + 5)), .ref (ad (q + 6)), .ref (ad (q + 7)), .ref (ad (q + 8)), .int (nI em), .ref (ad (q + 9)), .ref (ad (q + 10)), .ref (ad (q + 11)), .ref (ad (q + 12))]) := (zf28 _ (by omega)).trans zk27_0
        have zk28_1 : zE28 (q + 1) = eI G 508 s := (zf28 _ (by omega)).trans zk27_1
        have zk28_2 : zE28 (q + 9) = eI G 60 od := (zf28 _ (by omega)).trans zk27_2
        have zk28_3 : zE28 (q + 12) = eI G 10 f3 := (zf28 _ (by omega)).trans zk27_4
        have zk28_4 : zE28 (q + 10) = eI G 10 (upd f1 z (nI 0)) := (zf28 _ (by omega)).trans zh27_0
        have zfr28 : ∀ j, j ≠ (q + 10) → j ≠ (q + 11) → j ≠ (q + 12) → zE28 j = E j := fun j zm0 zm1 zm2 => (zf28 j zm1).trans (zfr27 j zm0 zm1 zm2)
        refine lv_aload_n hx hb dX8_sends_22 rfl (lv_at hl 0 rfl) ?_
        refine r_get C zw28 RX8 TX8 17 5 hinX8 (i := q) (by omega) zk28_0 rfl 16 (by decide) (by decide +kernel) rfl (v := .ref (ad (q + 12))) rfl dX8_sends_23 ?_
        refine lv_iload_n hx hb dX8_sends_26 rfl (lv_at hl 3 rfl) ?_
        refine lv_iconst (v := nI 0) hx hb dX8_sends_27 rfl ?_
        refine r_iasN C zw28 (i := (q + 12)) (by omega) zk28_3 (j := z) (by omega) (by omega) dX8_sends_28 (fun zE29 zH29 zL29 zg29 zf29 zw29 => ?_)
        have zh29_0 : zE29 (q + 12) = eI G 10 (upd f3 z (nI 0)) := zg29
        have zk29_0 : zE29 q = .inr (5, [.int th, .ref (ad (q + 1)), .long se, .ref (ad (q + 2)), .ref (ad (q + 3)), .int (nI co), .ref (ad (q + 4)), .int (nI pm), .ref (ad (q + 5)), .ref (ad (q + 6)), .ref (ad (q + 7)), .ref (ad (q + 8)), .int (nI em), .ref (ad (q + 9)), .ref (ad (q + 10)), .ref (ad (q + 11)), .ref (ad (q + 12))]) := (zf29 _ (by omega)).trans zk28_0
        have zk29_1 : zE29 (q + 1) = eI G 508 s := (zf29 _ (by omega)).trans zk28_1
        have zk29_2 : zE29 (q + 9) = eI G 60 od := (zf29 _ (by omega)).trans zk28_2
        have zk29_3 : zE29 (q + 10) = eI G 10 (upd f1 z (nI 0)) := (zf29 _ (by omega)).trans zk28_4
        have zk29_4 : zE29 (q + 11) = eI G 10 (upd f2 z (nI 0)) := (zf29 _ (by omega)).trans zh28_0
        have zfr29 : ∀ j, j ≠ (q + 10) → j ≠ (q + 11) → j ≠ (q + 12) → zE29 j = E j := fun j zm0 zm1 zm2 => (zf29 j zm2).trans (zfr28 j zm0 zm1 zm2)
        refine lv_iinc (v := nI (z + 1)) (lv' := [(3, .int (nI (z + 1))), (0, .ref (ad q)), (1, .int (nI rho)), (2, .int (nI n))]) hx hb dX8_sends_29 hl (k := 3) rfl (by rw [show Int32.ofInt 1 = nI 1 from rfl, nI_add]) (by decide) rfl (fun ls hl => ?_)
        refine lv_goto (tgt := 2) hx hb dX8_sends_32 (by decide) ?_
        exact zih2 (z + 1) (upd f1 z (nI 0)) (upd f2 z (nI 0)) (upd f3 z (nI 0)) (by omega) (by omega) (by rw [hf1]; exact fillF_s og _ (Nat.zero_le _)) (by rw [hf2]; exact fillF_s le _ (Nat.zero_le _)) (by rw [hf3]; exact fillF_s wa _ (Nat.zero_le _)) _ _ _ zk29_0 zk29_1 zk29_2 zk29_3 zk29_4 zh29_0 (fun j zm0 zm1 zm2 => zfr29 j zm0 zm1 zm2) zw29 _ (lv_sub hl [1, 2, 3, 0] rfl)
  exact zlp2 _ 0 og le wa (Nat.lt_succ_self _) (by omega) (by exact (fillF_0 og 0 (nI 0)).symm) (by exact (fillF_0 le 0 (nI 0)).symm) (by exact (fillF_0 wa 0 (nI 0)).symm) _ _ _ hE0 hE1 hE2 hE3 hE4 hE5 (fun j _ _ _ => rfl) hw _ (lv_sub hl [1, 2, 3, 0] rfl)

set_option maxHeartbeats 4000000 in
set_option maxRecDepth 100000 in
theorem c_X8_worstBy {l : Launch} {G : vG} {tC : Nat} {ad : Nat → Nat} {N : Nat} {E : Nat → va_E} {q co pm em : Nat} {th : Int32} {se : Int64} {pg : Nat} {s : Nat → Int32} {od og le wa : Nat → Int32} {rho n : Nat} (hN0 : q + 13 ≤ N) (hE0 : E q = .inr (5, [.int th, .ref (ad (q + 1)), .long se, .ref (ad (q + 2)), .ref (ad (q + 3)), .int (nI co), .ref (ad (q + 4)), .int (nI pm), .ref (ad (q + 5)), .ref (ad (q + 6)), .ref (ad (q + 7)), .ref (ad (q + 8)), .int (nI em), .ref (ad (q + 9)), .ref (ad (q + 10)), .ref (ad (q + 11)), .ref (ad (q + 12))])) (hE1 : E (q + 1) = eI G 508 s) (hE2 : E (q + 9) = eI G 60 od) (hE3 : E (q + 10) = eI G 10 og) (hE4 : E (q + 11) = eI G 10 le) (hE5 : E (q + 12) = eI G 10 wa) (hs0 : s 0 = nI pg) (hpg : pg ≤ 10) (hr : rho ≤ 3) (hp1 : 0 < pg) (hn : n ≤ 60) : MI l yX8_worstBy wsX8_worstBy ({ frames := 6, cells := 0, slots := 0, locals := 140 } : Room) G tC ad N E [.ref (ad q), .int (nI rho), .int (nI n)] (fun r E2 => ∃ od2 : Nat → Int32, ∃ og2 : Nat → Int32, ∃ le2 : Nat → Int32, E2 (q + 9) = eI G 60 od2 ∧ E2 (q + 10) = eI G 10 og2 ∧ E2 (q + 11) = eI G 10 le2 ∧ E2 (q + 12) = eI G 10 (waitF (lenF s) (wtF s) rho pg n) ∧ (∀ j, j ≠ (q + 9) → j ≠ (q + 10) → j ≠ (q + 11) → j ≠ (q + 12) → E2 j = E j) ∧ r = wstF (lenF s) (wtF s) rho pg n) := by
  refine MI_of RX8 rfl (by decide) rfl (Nat.le_of_ble_eq_true rfl) ?_
  intro pp_ ee_ ss_ mm_ aa_ bb_ me_ cc_ A ls C hw hl
  have hx := C.1
  have hb := C.2.1
  have hown := C.2.2.2.2.1
  have hts := C.2.2.2.2.2.1
  have hl : lv_has ls 6 [(0, .ref (ad q)), (1, .int (nI rho)), (2, .int (nI n))] := hl
  have hinX8 : ∀ w ∈ u_ws RX8 TX8 17, w ∈ wsX8_worstBy := by decide +kernel
  refine lv_aload_n hx hb dX8_worstBy_0 rfl (lv_at hl 0 rfl) ?_
  refine lv_iload_n hx hb dX8_worstBy_1 rfl (lv_at hl 1 rfl) ?_
  refine lv_iload_n hx hb dX8_worstBy_2 rfl (lv_at hl 2 rfl) ?_
  refine r_vV C hw hl.1 (i := q) (by omega) hE0 (T := TX8) (n := 17) rfl [.int (nI rho), .int (nI n)] 2 rfl (c_X8_sends (l := l) (G := G) (tC := tC) (ad := ad) (N := N) (E := E) (q := q) (co := co) (pm := pm) (em := em) (th := th) (se := se) (pg := pg) (s := s) (od := od) (og := og) (le := le) (wa := wa) (rho := rho) (n := n) (by omega) hE0 hE1 hE2 hE3 hE4 hE5 (by first | assumption | omega) (by first | assumption | omega) (by first | assumption | omega) (by first | assumption | omega) (by first | assumption | omega)) gX8_worstBy_X8_sends rfl ⟨rfl, rfl⟩ (by decide +kernel) ⟨Nat.le_of_ble_eq_true rfl, Nat.le_of_ble_eq_true rfl⟩ (rest := []) rfl (Nat.le_of_ble_eq_true rfl) dX8_worstBy_3 ⟨Nat.zero_le _, Nat.zero_le _⟩ (fun zE1 zH1 zL1 zp1 zw1 => ?_)
  obtain ⟨zod21, zog21, zle21, zg1_0, zg1_1, zg1_2, zg1_3, zf1, zq1⟩ := zp1
  have zh1_0 : zE1 (q + 9) = eI G 60 zod21 := zg1_0
  have zh1_1 : zE1 (q + 10) = eI G 10 zog21 := zg1_1
  have zh1_2 : zE1 (q + 11) = eI G 10 zle21 := zg1_2
  have zh1_3 : zE1 (q + 12) = eI G 10 (waitF (lenF s) (wtF s) rho pg n) := zg1_3
  have zk1_0 : zE1 q = .inr (5, [.int th, .ref (ad (q + 1)), .long se, .ref (ad (q + 2)), .ref (ad (q + 3)), .int (nI co), .ref (ad (q + 4)), .int (nI pm), .ref (ad (q + 5)), .ref (ad (q + 6)), .ref (ad (q + 7)), .ref (ad (q + 8)), .int (nI em), .ref (ad (q + 9)), .ref (ad (q + 10)), .ref (ad (q + 11)), .ref (ad (q + 12))]) := (zf1 _ (by omega) (by omega) (by omega) (by omega)).trans hE0
  have zk1_1 : zE1 (q + 1) = eI G 508 s := (zf1 _ (by omega) (by omega) (by omega) (by omega)).trans hE1
  have zfr1 : ∀ j, j ≠ (q + 9) → j ≠ (q + 10) → j ≠ (q + 11) → j ≠ (q + 12) → zE1 j = E j := fun j zm0 zm1 zm2 zm3 => zf1 j zm0 zm1 zm2 zm3
  refine lv_iconst (v := nI 0) hx hb dX8_worstBy_6 rfl ?_
  refine lv_istore_n (lv' := [(3, .int (nI 0)), (0, .ref (ad q)), (1, .int (nI rho)), (2, .int (nI n))]) hx hb dX8_worstBy_7 rfl hl (by decide) rfl (fun ls hl => ?_)
  refine lv_iconst (v := nI 0) hx hb dX8_worstBy_8 rfl ?_
  refine lv_istore (lv' := [(4, .int (nI 0)), (3, .int (nI 0)), (0, .ref (ad q)), (1, .int (nI rho)), (2, .int (nI n))]) hx hb dX8_worstBy_9 hl (by decide) rfl (fun ls hl => ?_)
  have zlp11 : ∀ (zn : Nat) (k : Nat) (x : Int32), pg - k < zn → (k ≤ pg) → (x = wrst (wtF s) (waitF (lenF s) (wtF s) rho pg n) k) → ∀ (E9 : Nat → va_E) (H9 : Heap) (L9 : List Loc), E9 q = .inr (5, [.int th, .ref (ad (q + 1)), .long se, .ref (ad (q + 2)), .ref (ad (q + 3)), .int (nI co), .ref (ad (q + 4)), .int (nI pm), .ref (ad (q + 5)), .ref (ad (q + 6)), .ref (ad (q + 7)), .ref (ad (q + 8)), .int (nI em), .ref (ad (q + 9)), .ref (ad (q + 10)), .ref (ad (q + 11)), .ref (ad (q + 12))]) → E9 (q + 1) = eI G 508 s → E9 (q + 9) = eI G 60 zod21 → E9 (q + 10) = eI G 10 zog21 → E9 (q + 11) = eI G 10 zle21 → E9 (q + 12) = eI G 10 (waitF (lenF s) (wtF s) rho pg n) → (∀ j, j ≠ (q + 9) → j ≠ (q + 10) → j ≠ (q + 11) → j ≠ (q + 12) → E9 j = E j) → Wd G A ss_.heap H9 L9 ad E9 N → ∀ (ls : Array Slot), lv_has ls 6 [(0, .ref (ad q)), (3, .int x), (4, .int (nI k))] → W pp_ l ee_ ({ frames := 6, cells := 0, slots := 0, locals := 140 } : Room) ss_ mm_ aa_ bb_ me_ cc_ H9 L9 0 0 (QI bb_ aa_ ss_ G ad N A (fun r E2 => ∃ od2 : Nat → Int32, ∃ og2 : Nat → Int32, ∃ le2 : Nat → Int32, E2 (q + 9) = eI G 60 od2 ∧ E2 (q + 10) = eI G 10 og2 ∧ E2 (q + 11) = eI G 10 le2 ∧ E2 (q + 12) = eI G 10 (waitF (lenF s) (wtF s) rho pg n) ∧ (∀ j, j ≠ (q + 9) → j ≠ (q + 10) → j ≠ (q + 11) → j ≠ (q + 12) → E2 j = E j) ∧ r = wstF (lenF s) (wtF s) rho pg n)) (F0 mm_ 11 ls []) := by
    intro zn
    induction zn with
    | zero => intro k x zhm; exact absurd zhm (Nat.not_lt_zero _)
    | succ zn zih11 =>
      intro k x zhm11 hk hx9 zE_11 zH_11 zL_11 zl11_0 zl11_1 zl11_2 zl11_3 zl11_4 zl11_5 zlf11  zlw11 ls hl
      refine lv_iload hx hb dX8_worstBy_11 (lv_at hl 2 rfl) ?_
      refine lv_aload_n hx hb dX8_worstBy_13 rfl (lv_at hl 0 rfl) ?_
      refine r_get C zlw11 RX8 TX8 17 5 hinX8 (i := q) (by omega) zl11_0 rfl 1 (by decide) (by decide +kernel) rfl (v := .ref (ad (q + 1))) rfl dX8_worstBy_14 ?_
      refine lv_iconst (v := nI 0) hx hb dX8_worstBy_17 rfl ?_
      refine r_iaN C zlw11 (i := (q + 1)) (by omega) zl11_1 (j := 0) (by omega) (by omega) dX8_worstBy_18 ?_
      refine r_nat pg hs0 ?_
      refine n_icmp_ge (tgt := 58) hx hb dX8_worstBy_19 (by decide) (by omega) (by omega) (fun zc19 => ?_) (fun zc19 => ?_)
      · refine lv_iload_n hx hb dX8_worstBy_58 rfl (lv_at hl 1 rfl) ?_
        exact r_iret C zlw11 dX8_worstBy_59 ⟨zod21, zog21, zle21, zl11_2, zl11_3, zl11_4, zl11_5, (fun j zm0 zm1 zm2 zm3 => zlf11 j zm0 zm1 zm2 zm3), (by rw [hx9, show k = pg by omega]; rfl)⟩
      · refine lv_aload_n hx hb dX8_worstBy_22 rfl (lv_at hl 0 rfl) ?_
        refine lv_iload hx hb dX8_worstBy_23 (lv_at hl 2 rfl) ?_
        refine lv_iconst (v := nI 4) hx hb dX8_worstBy_25 rfl ?_
        refine r_vI C zlw11 hl.1 (i := q) (by omega) zl11_0 (T := TX8) (n := 17) rfl [.int (nI k), .int (nI 4)] 2 rfl (c_X8_of (l := l) (G := G) (tC := tC) (ad := ad) (N := N) (E := zE_11) (q := q) (co := co) (pm := pm) (em := em) (th := th) (se := se) (s := s) (k := k) (w := 4) (by omega) zl11_0 zl11_1 (by first | assumption | omega)) gX8_worstBy_X8_of rfl ⟨rfl, rfl⟩ (by decide +kernel) ⟨Nat.le_of_ble_eq_true rfl, Nat.le_of_ble_eq_true rfl⟩ (rest := []) rfl (Nat.le_of_ble_eq_true rfl) dX8_worstBy_26 ⟨Nat.zero_le _, Nat.zero_le _⟩ (fun zr2 zE2 zH2 zL2 zp2 zw2 => ?_)
        obtain ⟨ze2, zq2⟩ := zp2
        rw [ze2] at zw2
        clear ze2
        rw [zq2]
        refine lv_aload_n hx hb dX8_worstBy_29 rfl (lv_at hl 0 rfl) ?_
        refine r_get C zw2 RX8 TX8 17 5 hinX8 (i := q) (by omega) zl11_0 rfl 16 (by decide) (by decide +kernel) rfl (v := .ref (ad (q + 12))) rfl dX8_worstBy_30 ?_
        refine lv_iload hx hb dX8_worstBy_33 (lv_at hl 2 rfl) ?_
        refine r_iaN C zw2 (i := (q + 12)) (by omega) zl11_5 (j := k) (by omega) (by omega) dX8_worstBy_35 ?_
        refine lv_imul hx hb dX8_worstBy_36 ?_
        refine lv_istore (lv' := [(5, .int ((s (8 + 50 * k + 4)) * ((waitF (lenF s) (wtF s) rho pg n) k))), (0, .ref (ad q)), (3, .int x), (4, .int (nI k))]) hx hb dX8_worstBy_37 hl (by decide) rfl (fun ls hl => ?_)
        refine lv_iload hx hb dX8_worstBy_39 (lv_at hl 0 rfl) ?_
        refine lv_iload_n hx hb dX8_worstBy_41 rfl (lv_at hl 2 rfl) ?_
        refine lv_icmp_le (tgt := 50) hx hb dX8_worstBy_42 (by decide) (fun zc42 => ?_) (fun zc42 => ?_)
        · refine lv_iload_n hx hb dX8_worstBy_50 rfl (lv_at hl 2 rfl) ?_
          refine lv_istore_n (lv' := [(3, .int x), (5, .int ((s (8 + 50 * k + 4)) * ((waitF (lenF s) (wtF s) rho pg n) k))), (0, .ref (ad q)), (4, .int (nI k))]) hx hb dX8_worstBy_51 rfl hl (by decide) rfl (fun ls hl => ?_)
          refine lv_iinc (v := nI (k + 1)) (lv' := [(4, .int (nI (k + 1))), (3, .int x), (5, .int ((s (8 + 50 * k + 4)) * ((waitF (lenF s) (wtF s) rho pg n) k))), (0, .ref (ad q))]) hx hb dX8_worstBy_52 hl (k := 3) rfl (by rw [show Int32.ofInt 1 = nI 1 from rfl, nI_add]) (by decide) rfl (fun ls hl => ?_)
          refine lv_goto (tgt := 11) hx hb dX8_worstBy_55 (by decide) ?_
          exact zih11 (k + 1) x (by omega) (by omega) (by rw [wrst, mxI, ← hx9]; first | rw [if_pos (Int32.not_le.mp zc42)] | rw [if_neg (Int32.not_lt.mpr zc42)]) _ _ _ zl11_0 zl11_1 zl11_2 zl11_3 zl11_4 zl11_5 (fun j zm0 zm1 zm2 zm3 => zlf11 j zm0 zm1 zm2 zm3) zw2 _ (lv_sub hl [3, 1, 0] rfl)
        · refine lv_iload hx hb dX8_worstBy_45 (lv_at hl 0 rfl) ?_
          refine lv_goto (tgt := 51) hx hb dX8_worstBy_47 (by decide) ?_
          refine lv_istore_n (lv' := [(3, .int ((s (8 + 50 * k + 4)) * ((waitF (lenF s) (wtF s) rho pg n) k))), (5, .int ((s (8 + 50 * k + 4)) * ((waitF (lenF s) (wtF s) rho pg n) k))), (0, .ref (ad q)), (4, .int (nI k))]) hx hb dX8_worstBy_51 rfl hl (by decide) rfl (fun ls hl => ?_)
          refine lv_iinc (v := nI (k + 1)) (lv' := [(4, .int (nI (k + 1))), (3, .int ((s (8 + 50 * k + 4)) * ((waitF (lenF s) (wtF s) rho pg n) k))), (5, .int ((s (8 + 50 * k + 4)) * ((waitF (lenF s) (wtF s) rho pg n) k))), (0, .ref (ad q))]) hx hb dX8_worstBy_52 hl (k := 3) rfl (by rw [show Int32.ofInt 1 = nI 1 from rfl, nI_add]) (by decide) rfl (fun ls hl => ?_)
          refine lv_goto (tgt := 11) hx hb dX8_worstBy_55 (by decide) ?_
          exact zih11 (k + 1) ((s (8 + 50 * k + 4)) * ((waitF (lenF s) (wtF s) rho pg n) k)) (by omega) (by omega) (by rw [wrst, mxI, ← hx9]; first | rw [if_pos (Int32.not_le.mp zc42)] | rw [if_neg (Int32.not_lt.mpr zc42)]) _ _ _ zl11_0 zl11_1 zl11_2 zl11_3 zl11_4 zl11_5 (fun j zm0 zm1 zm2 zm3 => zlf11 j zm0 zm1 zm2 zm3) zw2 _ (lv_sub hl [3, 1, 0] rfl)
  exact zlp11 _ 0 (nI 0) (Nat.lt_succ_self _) (by omega) (by rfl) _ _ _ zk1_0 zk1_1 zh1_0 zh1_1 zh1_2 zh1_3 (fun j zm0 zm1 zm2 zm3 => zfr1 j zm0 zm1 zm2 zm3) zw1 _ (lv_sub hl [2, 1, 0] rfl)

set_option maxHeartbeats 4000000 in
set_option maxRecDepth 100000 in
theorem c_X8_sent {l : Launch} {G : vG} {tC : Nat} {ad : Nat → Nat} {N : Nat} {E : Nat → va_E} {q co pm em : Nat} {th : Int32} {se : Int64} {pg : Nat} {s : Nat → Int32} {od og le wa : Nat → Int32} {rule i : Int32} (hN0 : q + 13 ≤ N) (hE0 : E q = .inr (5, [.int th, .ref (ad (q + 1)), .long se, .ref (ad (q + 2)), .ref (ad (q + 3)), .int (nI co), .ref (ad (q + 4)), .int (nI pm), .ref (ad (q + 5)), .ref (ad (q + 6)), .ref (ad (q + 7)), .ref (ad (q + 8)), .int (nI em), .ref (ad (q + 9)), .ref (ad (q + 10)), .ref (ad (q + 11)), .ref (ad (q + 12))])) (hE1 : E (q + 1) = eI G 508 s) (hE2 : E (q + 9) = eI G 60 od) (hE3 : E (q + 10) = eI G 10 og) (hE4 : E (q + 11) = eI G 10 le) (hE5 : E (q + 12) = eI G 10 wa) (hs0 : s 0 = nI pg) (hpg : pg ≤ 10) : MI l yX8_sent wsX8_sent ({ frames := 6, cells := 0, slots := 0, locals := 140 } : Room) G tC ad N E [.ref (ad q), .int rule, .int i] (fun r E2 => ∃ od2 : Nat → Int32, ∃ og2 : Nat → Int32, ∃ le2 : Nat → Int32, ∃ wa2 : Nat → Int32, E2 q = .inr (5, [.int (nI 0), .ref (ad (q + 1)), .long se, .ref (ad (q + 2)), .ref (ad (q + 3)), .int (nI co), .ref (ad (q + 4)), .int (nI pm), .ref (ad (q + 5)), .ref (ad (q + 6)), .ref (ad (q + 7)), .ref (ad (q + 8)), .int (nI em), .ref (ad (q + 9)), .ref (ad (q + 10)), .ref (ad (q + 11)), .ref (ad (q + 12))]) ∧ E2 (q + 9) = eI G 60 od2 ∧ E2 (q + 10) = eI G 10 og2 ∧ E2 (q + 11) = eI G 10 le2 ∧ E2 (q + 12) = eI G 10 wa2 ∧ (∀ j, j ≠ q → j ≠ (q + 9) → j ≠ (q + 10) → j ≠ (q + 11) → j ≠ (q + 12) → E2 j = E j) ∧ r = a_sent s pg rule i) := by
  refine MI_of RX8 rfl (by decide) rfl (Nat.le_of_ble_eq_true rfl) ?_
  intro pp_ ee_ ss_ mm_ aa_ bb_ me_ cc_ A ls C hw hl
  have hx := C.1
  have hb := C.2.1
  have hown := C.2.2.2.2.1
  have hts := C.2.2.2.2.2.1
  have hl : lv_has ls 3 [(0, .ref (ad q)), (1, .int rule), (2, .int i)] := hl
  have hinX8 : ∀ w ∈ u_ws RX8 TX8 17, w ∈ wsX8_sent := by decide +kernel
  refine lv_aload_n hx hb dX8_sent_0 rfl (lv_at hl 0 rfl) ?_
  refine lv_iconst (v := nI 0) hx hb dX8_sent_1 rfl ?_
  refine r_put C hw RX8 TX8 17 5 hinX8 tyX8 tyX8_ok nmX8 (i := q) (by omega) hE0 rfl 0 (by decide) (by decide +kernel) rfl rfl (v := .int (nI 0)) rfl rfl (Nat.le_of_ble_eq_true rfl) dX8_sent_2 (fun zE1 zH1 zL1 zg1 zf1 zw1 => ?_)
  have zh1_0 : zE1 q = .inr (5, [.int (nI 0), .ref (ad (q + 1)), .long se, .ref (ad (q + 2)), .ref (ad (q + 3)), .int (nI co), .ref (ad (q + 4)), .int (nI pm), .ref (ad (q + 5)), .ref (ad (q + 6)), .ref (ad (q + 7)), .ref (ad (q + 8)), .int (nI em), .ref (ad (q + 9)), .ref (ad (q + 10)), .ref (ad (q + 11)), .ref (ad (q + 12))]) := zg1
  have zk1_0 : zE1 (q + 1) = eI G 508 s := (zf1 _ (by omega)).trans hE1
  have zk1_1 : zE1 (q + 9) = eI G 60 od := (zf1 _ (by omega)).trans hE2
  have zk1_2 : zE1 (q + 10) = eI G 10 og := (zf1 _ (by omega)).trans hE3
  have zk1_3 : zE1 (q + 11) = eI G 10 le := (zf1 _ (by omega)).trans hE4
  have zk1_4 : zE1 (q + 12) = eI G 10 wa := (zf1 _ (by omega)).trans hE5
  have zfr1 : ∀ j, j ≠ q → zE1 j = E j := fun j zm0 => zf1 j zm0
  refine lv_iload_n hx hb dX8_sent_5 rfl (lv_at hl 1 rfl) ?_
  refine lv_i2l (v := rule.toInt64) hx hb dX8_sent_6 rfl ?_
  refine lv_lconst (v := (nI 0).toInt64) hx hb dX8_sent_7 (by decide) ?_
  refine lv_ldc2 (v := 3) hx hb hown (hts (.constantLong RX8 115 (3)) (by decide +kernel)) dX8_sent_8 ?_
  refine r_asL (nI 3).toInt64 (by decide) ?_
  refine r_sI C zw1 hl.1 [.long rule.toInt64, .long ((nI 0).toInt64), .long ((nI 3).toInt64)] 3 rfl (c_X8_in (l := l) (G := G) (tC := tC) (ad := ad) (N := N) (E := zE1) (x := rule) (a := (nI 0)) (b := (nI 3))   ) gX8_sent_X8_in rfl ⟨rfl, rfl⟩ (by decide +kernel) ⟨Nat.le_of_ble_eq_true rfl, Nat.le_of_ble_eq_true rfl⟩ (rest := []) rfl (Nat.le_of_ble_eq_true rfl) dX8_sent_11 ⟨Nat.zero_le _, Nat.zero_le _⟩ (fun zr2 zE2 zH2 zL2 zp2 zw2 => ?_)
  obtain ⟨ze2, zq2⟩ := zp2
  rw [ze2] at zw2
  clear ze2
  rw [zq2]
  refine b_if_eq (tgt := 29) hx hb dX8_sent_14 (by decide) (fun zc14 => ?_) (fun zc14 => ?_)
  · refine lv_ldc (v := -1000000002) hx hb hown (hts (.constant RX8 74 (-1000000002)) (by decide +kernel)) dX8_sent_29 ?_
    exact r_iret C zw2 dX8_sent_31 ⟨od, og, le, wa, zh1_0, zk1_1, zk1_2, zk1_3, zk1_4, (fun j zm0 zm1 zm2 zm3 zm4 => zfr1 j zm0), (by rw [a_sent, if_neg (by first | exact fun zq => zc26 zq.2 | exact fun zq => zc14 zq.1)])⟩
  · obtain ⟨j9, zj9, rfl⟩ := in_of (by omega) zc14
    refine lv_iload_n hx hb dX8_sent_17 rfl (lv_at hl 2 rfl) ?_
    refine lv_i2l (v := i.toInt64) hx hb dX8_sent_18 rfl ?_
    refine lv_lconst (v := (nI 0).toInt64) hx hb dX8_sent_19 (by decide) ?_
    refine lv_ldc2 (v := 59) hx hb hown (hts (.constantLong RX8 207 (59)) (by decide +kernel)) dX8_sent_20 ?_
    refine r_asL (nI 59).toInt64 (by decide) ?_
    refine r_sI C zw2 hl.1 [.long i.toInt64, .long ((nI 0).toInt64), .long ((nI 59).toInt64)] 3 rfl (c_X8_in (l := l) (G := G) (tC := tC) (ad := ad) (N := N) (E := zE1) (x := i) (a := (nI 0)) (b := (nI 59))   ) gX8_sent_X8_in rfl ⟨rfl, rfl⟩ (by decide +kernel) ⟨Nat.le_of_ble_eq_true rfl, Nat.le_of_ble_eq_true rfl⟩ (rest := []) rfl (Nat.le_of_ble_eq_true rfl) dX8_sent_23 ⟨Nat.zero_le _, Nat.zero_le _⟩ (fun zr3 zE3 zH3 zL3 zp3 zw3 => ?_)
    obtain ⟨ze3, zq3⟩ := zp3
    rw [ze3] at zw3
    clear ze3
    rw [zq3]
    refine b_if_ne (tgt := 32) hx hb dX8_sent_26 (by decide) (fun zc26 => ?_) (fun zc26 => ?_)
    · obtain ⟨j8, zj8, rfl⟩ := in_of (by omega) zc26
      refine lv_aload_n hx hb dX8_sent_32 rfl (lv_at hl 0 rfl) ?_
      refine r_get C zw3 RX8 TX8 17 5 hinX8 (i := q) (by omega) zh1_0 rfl 1 (by decide) (by decide +kernel) rfl (v := .ref (ad (q + 1))) rfl dX8_sent_33 ?_
      refine lv_iconst (v := nI 0) hx hb dX8_sent_36 rfl ?_
      refine r_iaN C zw3 (i := (q + 1)) (by omega) zk1_0 (j := 0) (by omega) (by omega) dX8_sent_37 ?_
      refine r_nat pg hs0 ?_
      refine n_if_ne (tgt := 43) hx hb dX8_sent_38 (by decide) (by omega) (fun zc38 => ?_) (fun zc38 => ?_)
      · refine lv_aload_n hx hb dX8_sent_43 rfl (lv_at hl 0 rfl) ?_
        refine lv_iload_n hx hb dX8_sent_44 rfl (lv_at hl 1 rfl) ?_
        refine lv_iload_n hx hb dX8_sent_45 rfl (lv_at hl 2 rfl) ?_
        refine lv_iconst (v := nI 1) hx hb dX8_sent_46 rfl ?_
        refine lv_iadd hx hb dX8_sent_47 ?_
        refine r_nat (j8 + 1) (nI_add _ _) ?_
        refine r_vV C zw3 hl.1 (i := q) (by omega) zh1_0 (T := TX8) (n := 17) rfl [.int (nI j9), .int (nI (j8 + 1))] 2 rfl (c_X8_sends (l := l) (G := G) (tC := tC) (ad := ad) (N := N) (E := zE1) (q := q) (co := co) (pm := pm) (em := em) (th := nI 0) (se := se) (pg := pg) (s := s) (od := od) (og := og) (le := le) (wa := wa) (rho := j9) (n := j8 + 1) (by omega) zh1_0 zk1_0 zk1_1 zk1_2 zk1_3 zk1_4 (by first | assumption | omega) (by first | assumption | omega) (by first | assumption | omega) (by first | assumption | omega) (by first | assumption | omega)) gX8_sent_X8_sends rfl ⟨rfl, rfl⟩ (by decide +kernel) ⟨Nat.le_of_ble_eq_true rfl, Nat.le_of_ble_eq_true rfl⟩ (rest := []) rfl (Nat.le_of_ble_eq_true rfl) dX8_sent_48 ⟨Nat.zero_le _, Nat.zero_le _⟩ (fun zE4 zH4 zL4 zp4 zw4 => ?_)
        obtain ⟨zod24, zog24, zle24, zg4_0, zg4_1, zg4_2, zg4_3, zf4, zq4⟩ := zp4
        have zh4_0 : zE4 (q + 9) = eI G 60 zod24 := zg4_0
        have zh4_1 : zE4 (q + 10) = eI G 10 zog24 := zg4_1
        have zh4_2 : zE4 (q + 11) = eI G 10 zle24 := zg4_2
        have zh4_3 : zE4 (q + 12) = eI G 10 (waitF (lenF s) (wtF s) j9 pg (j8 + 1)) := zg4_3
        have zk4_0 : zE4 (q + 1) = eI G 508 s := (zf4 _ (by omega) (by omega) (by omega) (by omega)).trans zk1_0
        have zk4_1 : zE4 q = .inr (5, [.int (nI 0), .ref (ad (q + 1)), .long se, .ref (ad (q + 2)), .ref (ad (q + 3)), .int (nI co), .ref (ad (q + 4)), .int (nI pm), .ref (ad (q + 5)), .ref (ad (q + 6)), .ref (ad (q + 7)), .ref (ad (q + 8)), .int (nI em), .ref (ad (q + 9)), .ref (ad (q + 10)), .ref (ad (q + 11)), .ref (ad (q + 12))]) := (zf4 _ (by omega) (by omega) (by omega) (by omega)).trans zh1_0
        have zfr4 : ∀ j, j ≠ q → j ≠ (q + 9) → j ≠ (q + 10) → j ≠ (q + 11) → j ≠ (q + 12) → zE4 j = E j := fun j zm0 zm1 zm2 zm3 zm4 => (zf4 j zm1 zm2 zm3 zm4).trans (zfr1 j zm0)
        refine lv_aload_n hx hb dX8_sent_51 rfl (lv_at hl 0 rfl) ?_
        refine r_get C zw4 RX8 TX8 17 5 hinX8 (i := q) (by omega) zk4_1 rfl 13 (by decide) (by decide +kernel) rfl (v := .ref (ad (q + 9))) rfl dX8_sent_52 ?_
        refine lv_iload_n hx hb dX8_sent_55 rfl (lv_at hl 2 rfl) ?_
        refine r_iaN C zw4 (i := (q + 9)) (by omega) zh4_0 (j := j8) (by omega) (by omega) dX8_sent_56 ?_
        exact r_iret C zw4 dX8_sent_57 ⟨zod24, zog24, zle24, waitF (lenF s) (wtF s) j9 pg (j8 + 1), zk4_1, zh4_0, zh4_1, zh4_2, zh4_3, (fun j zm0 zm1 zm2 zm3 zm4 => zfr4 j zm0 zm1 zm2 zm3 zm4), (by rw [a_sent, if_pos ⟨zc14, zc26⟩, if_neg zc38, nI_clamp (by omega), nI_clamp (by omega)]; exact zq4 j8 (by omega))⟩
      · refine lv_iconst (v := -1) hx hb dX8_sent_41 (by decide) ?_
        exact r_iret C zw3 dX8_sent_42 ⟨od, og, le, wa, zh1_0, zk1_1, zk1_2, zk1_3, zk1_4, (fun j zm0 zm1 zm2 zm3 zm4 => zfr1 j zm0), (by rw [a_sent, if_pos ⟨zc14, zc26⟩, if_pos zc38])⟩
    · refine lv_ldc (v := -1000000002) hx hb hown (hts (.constant RX8 74 (-1000000002)) (by decide +kernel)) dX8_sent_29 ?_
      exact r_iret C zw3 dX8_sent_31 ⟨od, og, le, wa, zh1_0, zk1_1, zk1_2, zk1_3, zk1_4, (fun j zm0 zm1 zm2 zm3 zm4 => zfr1 j zm0), (by rw [a_sent, if_neg (by first | exact fun zq => zc26 zq.2 | exact fun zq => zc14 zq.1)])⟩

set_option maxHeartbeats 4000000 in
set_option maxRecDepth 100000 in
theorem c_X8_waits {l : Launch} {G : vG} {tC : Nat} {ad : Nat → Nat} {N : Nat} {E : Nat → va_E} {q co pm em : Nat} {th : Int32} {se : Int64} {pg : Nat} {s : Nat → Int32} {od og le wa : Nat → Int32} {k rule n : Int32} (hN0 : q + 13 ≤ N) (hE0 : E q = .inr (5, [.int th, .ref (ad (q + 1)), .long se, .ref (ad (q + 2)), .ref (ad (q + 3)), .int (nI co), .ref (ad (q + 4)), .int (nI pm), .ref (ad (q + 5)), .ref (ad (q + 6)), .ref (ad (q + 7)), .ref (ad (q + 8)), .int (nI em), .ref (ad (q + 9)), .ref (ad (q + 10)), .ref (ad (q + 11)), .ref (ad (q + 12))])) (hE1 : E (q + 1) = eI G 508 s) (hE2 : E (q + 9) = eI G 60 od) (hE3 : E (q + 10) = eI G 10 og) (hE4 : E (q + 11) = eI G 10 le) (hE5 : E (q + 12) = eI G 10 wa) (hs0 : s 0 = nI pg) (hpg : pg ≤ 10) : MI l yX8_waits wsX8_waits ({ frames := 6, cells := 0, slots := 0, locals := 140 } : Room) G tC ad N E [.ref (ad q), .int k, .int rule, .int n] (fun r E2 => ∃ od2 : Nat → Int32, ∃ og2 : Nat → Int32, ∃ le2 : Nat → Int32, ∃ wa2 : Nat → Int32, E2 q = .inr (5, [.int (nI 0), .ref (ad (q + 1)), .long se, .ref (ad (q + 2)), .ref (ad (q + 3)), .int (nI co), .ref (ad (q + 4)), .int (nI pm), .ref (ad (q + 5)), .ref (ad (q + 6)), .ref (ad (q + 7)), .ref (ad (q + 8)), .int (nI em), .ref (ad (q + 9)), .ref (ad (q + 10)), .ref (ad (q + 11)), .ref (ad (q + 12))]) ∧ E2 (q + 9) = eI G 60 od2 ∧ E2 (q + 10) = eI G 10 og2 ∧ E2 (q + 11) = eI G 10 le2 ∧ E2 (q + 12) = eI G 10 wa2 ∧ (∀ j, j ≠ q → j ≠ (q + 9) → j ≠ (q + 10) → j ≠ (q + 11) → j ≠ (q + 12) → E2 j = E j) ∧ r = a_waits s pg k rule n) := by
  refine MI_of RX8 rfl (by decide) rfl (Nat.le_of_ble_eq_true rfl) ?_
  intro pp_ ee_ ss_ mm_ aa_ bb_ me_ cc_ A ls C hw hl
  have hx := C.1
  have hb := C.2.1
  have hown := C.2.2.2.2.1
  have hts := C.2.2.2.2.2.1
  have hl : lv_has ls 4 [(0, .ref (ad q)), (1, .int k), (2, .int rule), (3, .int n)] := hl
  have hinX8 : ∀ w ∈ u_ws RX8 TX8 17, w ∈ wsX8_waits := by decide +kernel
  refine lv_aload_n hx hb dX8_waits_0 rfl (lv_at hl 0 rfl) ?_
  refine lv_iconst (v := nI 0) hx hb dX8_waits_1 rfl ?_
  refine r_put C hw RX8 TX8 17 5 hinX8 tyX8 tyX8_ok nmX8 (i := q) (by omega) hE0 rfl 0 (by decide) (by decide +kernel) rfl rfl (v := .int (nI 0)) rfl rfl (Nat.le_of_ble_eq_true rfl) dX8_waits_2 (fun zE1 zH1 zL1 zg1 zf1 zw1 => ?_)
  have zh1_0 : zE1 q = .inr (5, [.int (nI 0), .ref (ad (q + 1)), .long se, .ref (ad (q + 2)), .ref (ad (q + 3)), .int (nI co), .ref (ad (q + 4)), .int (nI pm), .ref (ad (q + 5)), .ref (ad (q + 6)), .ref (ad (q + 7)), .ref (ad (q + 8)), .int (nI em), .ref (ad (q + 9)), .ref (ad (q + 10)), .ref (ad (q + 11)), .ref (ad (q + 12))]) := zg1
  have zk1_0 : zE1 (q + 1) = eI G 508 s := (zf1 _ (by omega)).trans hE1
  have zk1_1 : zE1 (q + 9) = eI G 60 od := (zf1 _ (by omega)).trans hE2
  have zk1_2 : zE1 (q + 10) = eI G 10 og := (zf1 _ (by omega)).trans hE3
  have zk1_3 : zE1 (q + 11) = eI G 10 le := (zf1 _ (by omega)).trans hE4
  have zk1_4 : zE1 (q + 12) = eI G 10 wa := (zf1 _ (by omega)).trans hE5
  have zfr1 : ∀ j, j ≠ q → zE1 j = E j := fun j zm0 => zf1 j zm0
  refine lv_aload_n hx hb dX8_waits_5 rfl (lv_at hl 0 rfl) ?_
  refine lv_iload_n hx hb dX8_waits_6 rfl (lv_at hl 1 rfl) ?_
  refine r_vI C zw1 hl.1 (i := q) (by omega) zh1_0 (T := TX8) (n := 17) rfl [.int k] 1 rfl (c_X8_isPage (l := l) (G := G) (tC := tC) (ad := ad) (N := N) (E := zE1) (q := q) (co := co) (pm := pm) (em := em) (th := nI 0) (se := se) (pg := pg) (s := s) (k := k) (by omega) zh1_0 zk1_0 (by first | assumption | omega) (by first | assumption | omega)) gX8_waits_X8_isPage rfl ⟨rfl, rfl⟩ (by decide +kernel) ⟨Nat.le_of_ble_eq_true rfl, Nat.le_of_ble_eq_true rfl⟩ (rest := []) rfl (Nat.le_of_ble_eq_true rfl) dX8_waits_7 ⟨Nat.zero_le _, Nat.zero_le _⟩ (fun zr2 zE2 zH2 zL2 zp2 zw2 => ?_)
  obtain ⟨ze2, zq2⟩ := zp2
  rw [ze2] at zw2
  clear ze2
  rw [zq2]
  refine b_if_ne (tgt := 16) hx hb dX8_waits_10 (by decide) (fun zc10 => ?_) (fun zc10 => ?_)
  · obtain ⟨j9, zj9, rfl⟩ := has_of zc10
    refine lv_iload_n hx hb dX8_waits_16 rfl (lv_at hl 2 rfl) ?_
    refine lv_i2l (v := rule.toInt64) hx hb dX8_waits_17 rfl ?_
    refine lv_lconst (v := (nI 0).toInt64) hx hb dX8_waits_18 (by decide) ?_
    refine lv_ldc2 (v := 3) hx hb hown (hts (.constantLong RX8 115 (3)) (by decide +kernel)) dX8_waits_19 ?_
    refine r_asL (nI 3).toInt64 (by decide) ?_
    refine r_sI C zw2 hl.1 [.long rule.toInt64, .long ((nI 0).toInt64), .long ((nI 3).toInt64)] 3 rfl (c_X8_in (l := l) (G := G) (tC := tC) (ad := ad) (N := N) (E := zE1) (x := rule) (a := (nI 0)) (b := (nI 3))   ) gX8_waits_X8_in rfl ⟨rfl, rfl⟩ (by decide +kernel) ⟨Nat.le_of_ble_eq_true rfl, Nat.le_of_ble_eq_true rfl⟩ (rest := []) rfl (Nat.le_of_ble_eq_true rfl) dX8_waits_22 ⟨Nat.zero_le _, Nat.zero_le _⟩ (fun zr3 zE3 zH3 zL3 zp3 zw3 => ?_)
    obtain ⟨ze3, zq3⟩ := zp3
    rw [ze3] at zw3
    clear ze3
    rw [zq3]
    refine b_if_eq (tgt := 40) hx hb dX8_waits_25 (by decide) (fun zc25 => ?_) (fun zc25 => ?_)
    · refine lv_ldc (v := -1000000002) hx hb hown (hts (.constant RX8 74 (-1000000002)) (by decide +kernel)) dX8_waits_40 ?_
      exact r_iret C zw3 dX8_waits_42 ⟨od, og, le, wa, zh1_0, zk1_1, zk1_2, zk1_3, zk1_4, (fun j zm0 zm1 zm2 zm3 zm4 => zfr1 j zm0), (by rw [a_waits, if_pos zc10, if_neg (by first | exact fun zq => zc37 zq.2 | exact fun zq => zc25 zq.1)])⟩
    · obtain ⟨j8, zj8, rfl⟩ := in_of (by omega) zc25
      refine lv_iload_n hx hb dX8_waits_28 rfl (lv_at hl 3 rfl) ?_
      refine lv_i2l (v := n.toInt64) hx hb dX8_waits_29 rfl ?_
      refine lv_lconst (v := (nI 1).toInt64) hx hb dX8_waits_30 (by decide) ?_
      refine lv_ldc2 (v := 60) hx hb hown (hts (.constantLong RX8 212 (60)) (by decide +kernel)) dX8_waits_31 ?_
      refine r_asL (nI 60).toInt64 (by decide) ?_
      refine r_sI C zw3 hl.1 [.long n.toInt64, .long ((nI 1).toInt64), .long ((nI 60).toInt64)] 3 rfl (c_X8_in (l := l) (G := G) (tC := tC) (ad := ad) (N := N) (E := zE1) (x := n) (a := (nI 1)) (b := (nI 60))   ) gX8_waits_X8_in rfl ⟨rfl, rfl⟩ (by decide +kernel) ⟨Nat.le_of_ble_eq_true rfl, Nat.le_of_ble_eq_true rfl⟩ (rest := []) rfl (Nat.le_of_ble_eq_true rfl) dX8_waits_34 ⟨Nat.zero_le _, Nat.zero_le _⟩ (fun zr4 zE4 zH4 zL4 zp4 zw4 => ?_)
      obtain ⟨ze4, zq4⟩ := zp4
      rw [ze4] at zw4
      clear ze4
      rw [zq4]
      refine b_if_ne (tgt := 43) hx hb dX8_waits_37 (by decide) (fun zc37 => ?_) (fun zc37 => ?_)
      · obtain ⟨j7, zj7, zj6, rfl⟩ := in_of1 (by omega) (by omega) zc37
        refine lv_aload_n hx hb dX8_waits_43 rfl (lv_at hl 0 rfl) ?_
        refine lv_iload_n hx hb dX8_waits_44 rfl (lv_at hl 2 rfl) ?_
        refine lv_iload_n hx hb dX8_waits_45 rfl (lv_at hl 3 rfl) ?_
        refine r_vV C zw4 hl.1 (i := q) (by omega) zh1_0 (T := TX8) (n := 17) rfl [.int (nI j8), .int (nI j7)] 2 rfl (c_X8_sends (l := l) (G := G) (tC := tC) (ad := ad) (N := N) (E := zE1) (q := q) (co := co) (pm := pm) (em := em) (th := nI 0) (se := se) (pg := pg) (s := s) (od := od) (og := og) (le := le) (wa := wa) (rho := j8) (n := j7) (by omega) zh1_0 zk1_0 zk1_1 zk1_2 zk1_3 zk1_4 (by first | assumption | omega) (by first | assumption | omega) (by first | assumption | omega) (by first | assumption | omega) (by first | assumption | omega)) gX8_waits_X8_sends rfl ⟨rfl, rfl⟩ (by decide +kernel) ⟨Nat.le_of_ble_eq_true rfl, Nat.le_of_ble_eq_true rfl⟩ (rest := []) rfl (Nat.le_of_ble_eq_true rfl) dX8_waits_46 ⟨Nat.zero_le _, Nat.zero_le _⟩ (fun zE5 zH5 zL5 zp5 zw5 => ?_)
        obtain ⟨zod25, zog25, zle25, zg5_0, zg5_1, zg5_2, zg5_3, zf5, zq5⟩ := zp5
        have zh5_0 : zE5 (q + 9) = eI G 60 zod25 := zg5_0
        have zh5_1 : zE5 (q + 10) = eI G 10 zog25 := zg5_1
        have zh5_2 : zE5 (q + 11) = eI G 10 zle25 := zg5_2
        have zh5_3 : zE5 (q + 12) = eI G 10 (waitF (lenF s) (wtF s) j8 pg j7) := zg5_3
        have zk5_0 : zE5 (q + 1) = eI G 508 s := (zf5 _ (by omega) (by omega) (by omega) (by omega)).trans zk1_0
        have zk5_1 : zE5 q = .inr (5, [.int (nI 0), .ref (ad (q + 1)), .long se, .ref (ad (q + 2)), .ref (ad (q + 3)), .int (nI co), .ref (ad (q + 4)), .int (nI pm), .ref (ad (q + 5)), .ref (ad (q + 6)), .ref (ad (q + 7)), .ref (ad (q + 8)), .int (nI em), .ref (ad (q + 9)), .ref (ad (q + 10)), .ref (ad (q + 11)), .ref (ad (q + 12))]) := (zf5 _ (by omega) (by omega) (by omega) (by omega)).trans zh1_0
        have zfr5 : ∀ j, j ≠ q → j ≠ (q + 9) → j ≠ (q + 10) → j ≠ (q + 11) → j ≠ (q + 12) → zE5 j = E j := fun j zm0 zm1 zm2 zm3 zm4 => (zf5 j zm1 zm2 zm3 zm4).trans (zfr1 j zm0)
        refine lv_aload_n hx hb dX8_waits_49 rfl (lv_at hl 0 rfl) ?_
        refine r_get C zw5 RX8 TX8 17 5 hinX8 (i := q) (by omega) zk5_1 rfl 16 (by decide) (by decide +kernel) rfl (v := .ref (ad (q + 12))) rfl dX8_waits_50 ?_
        refine lv_iload_n hx hb dX8_waits_53 rfl (lv_at hl 1 rfl) ?_
        refine r_iaN C zw5 (i := (q + 12)) (by omega) zh5_3 (j := j9) (by omega) (by omega) dX8_waits_54 ?_
        exact r_iret C zw5 dX8_waits_55 ⟨zod25, zog25, zle25, waitF (lenF s) (wtF s) j8 pg j7, zk5_1, zh5_0, zh5_1, zh5_2, zh5_3, (fun j zm0 zm1 zm2 zm3 zm4 => zfr5 j zm0 zm1 zm2 zm3 zm4), (by rw [a_waits, if_pos zc10, if_pos ⟨zc25, zc37⟩, nI_clamp (by omega), nI_clamp (by omega), nI_clamp (by omega)])⟩
      · refine lv_ldc (v := -1000000002) hx hb hown (hts (.constant RX8 74 (-1000000002)) (by decide +kernel)) dX8_waits_40 ?_
        exact r_iret C zw4 dX8_waits_42 ⟨od, og, le, wa, zh1_0, zk1_1, zk1_2, zk1_3, zk1_4, (fun j zm0 zm1 zm2 zm3 zm4 => zfr1 j zm0), (by rw [a_waits, if_pos zc10, if_neg (by first | exact fun zq => zc37 zq.2 | exact fun zq => zc25 zq.1)])⟩
  · refine lv_ldc (v := -1000000001) hx hb hown (hts (.constant RX8 156 (-1000000001)) (by decide +kernel)) dX8_waits_13 ?_
    exact r_iret C zw2 dX8_waits_15 ⟨od, og, le, wa, zh1_0, zk1_1, zk1_2, zk1_3, zk1_4, (fun j zm0 zm1 zm2 zm3 zm4 => zfr1 j zm0), (by rw [a_waits, if_neg zc10])⟩

set_option maxHeartbeats 4000000 in
set_option maxRecDepth 100000 in
theorem c_X8_bestRule {l : Launch} {G : vG} {tC : Nat} {ad : Nat → Nat} {N : Nat} {E : Nat → va_E} {q co pm em : Nat} {th : Int32} {se : Int64} {pg : Nat} {s : Nat → Int32} {od og le wa : Nat → Int32} {n : Int32} (hN0 : q + 13 ≤ N) (hE0 : E q = .inr (5, [.int th, .ref (ad (q + 1)), .long se, .ref (ad (q + 2)), .ref (ad (q + 3)), .int (nI co), .ref (ad (q + 4)), .int (nI pm), .ref (ad (q + 5)), .ref (ad (q + 6)), .ref (ad (q + 7)), .ref (ad (q + 8)), .int (nI em), .ref (ad (q + 9)), .ref (ad (q + 10)), .ref (ad (q + 11)), .ref (ad (q + 12))])) (hE1 : E (q + 1) = eI G 508 s) (hE2 : E (q + 9) = eI G 60 od) (hE3 : E (q + 10) = eI G 10 og) (hE4 : E (q + 11) = eI G 10 le) (hE5 : E (q + 12) = eI G 10 wa) (hs0 : s 0 = nI pg) (hpg : pg ≤ 10) : MI l yX8_bestRule wsX8_bestRule ({ frames := 7, cells := 0, slots := 0, locals := 165 } : Room) G tC ad N E [.ref (ad q), .int n] (fun r E2 => ∃ od2 : Nat → Int32, ∃ og2 : Nat → Int32, ∃ le2 : Nat → Int32, ∃ wa2 : Nat → Int32, E2 q = .inr (5, [.int (nI 0), .ref (ad (q + 1)), .long se, .ref (ad (q + 2)), .ref (ad (q + 3)), .int (nI co), .ref (ad (q + 4)), .int (nI pm), .ref (ad (q + 5)), .ref (ad (q + 6)), .ref (ad (q + 7)), .ref (ad (q + 8)), .int (nI em), .ref (ad (q + 9)), .ref (ad (q + 10)), .ref (ad (q + 11)), .ref (ad (q + 12))]) ∧ E2 (q + 9) = eI G 60 od2 ∧ E2 (q + 10) = eI G 10 og2 ∧ E2 (q + 11) = eI G 10 le2 ∧ E2 (q + 12) = eI G 10 wa2 ∧ (∀ j, j ≠ q → j ≠ (q + 9) → j ≠ (q + 10) → j ≠ (q + 11) → j ≠ (q + 12) → E2 j = E j) ∧ r = a_best s pg n) := by
  refine MI_of RX8 rfl (by decide) rfl (Nat.le_of_ble_eq_true rfl) ?_
  intro pp_ ee_ ss_ mm_ aa_ bb_ me_ cc_ A ls C hw hl
  have hx := C.1
  have hb := C.2.1
  have hown := C.2.2.2.2.1
  have hts := C.2.2.2.2.2.1
  have hl : lv_has ls 4 [(0, .ref (ad q)), (1, .int n)] := hl
  have hinX8 : ∀ w ∈ u_ws RX8 TX8 17, w ∈ wsX8_bestRule := by decide +kernel
  refine lv_aload_n hx hb dX8_bestRule_0 rfl (lv_at hl 0 rfl) ?_
  refine lv_iconst (v := nI 0) hx hb dX8_bestRule_1 rfl ?_
  refine r_put C hw RX8 TX8 17 5 hinX8 tyX8 tyX8_ok nmX8 (i := q) (by omega) hE0 rfl 0 (by decide) (by decide +kernel) rfl rfl (v := .int (nI 0)) rfl rfl (Nat.le_of_ble_eq_true rfl) dX8_bestRule_2 (fun zE1 zH1 zL1 zg1 zf1 zw1 => ?_)
  have zh1_0 : zE1 q = .inr (5, [.int (nI 0), .ref (ad (q + 1)), .long se, .ref (ad (q + 2)), .ref (ad (q + 3)), .int (nI co), .ref (ad (q + 4)), .int (nI pm), .ref (ad (q + 5)), .ref (ad (q + 6)), .ref (ad (q + 7)), .ref (ad (q + 8)), .int (nI em), .ref (ad (q + 9)), .ref (ad (q + 10)), .ref (ad (q + 11)), .ref (ad (q + 12))]) := zg1
  have zk1_0 : zE1 (q + 1) = eI G 508 s := (zf1 _ (by omega)).trans hE1
  have zk1_1 : zE1 (q + 9) = eI G 60 od := (zf1 _ (by omega)).trans hE2
  have zk1_2 : zE1 (q + 10) = eI G 10 og := (zf1 _ (by omega)).trans hE3
  have zk1_3 : zE1 (q + 11) = eI G 10 le := (zf1 _ (by omega)).trans hE4
  have zk1_4 : zE1 (q + 12) = eI G 10 wa := (zf1 _ (by omega)).trans hE5
  have zfr1 : ∀ j, j ≠ q → zE1 j = E j := fun j zm0 => zf1 j zm0
  refine lv_iload_n hx hb dX8_bestRule_5 rfl (lv_at hl 1 rfl) ?_
  refine lv_i2l (v := n.toInt64) hx hb dX8_bestRule_6 rfl ?_
  refine lv_lconst (v := (nI 1).toInt64) hx hb dX8_bestRule_7 (by decide) ?_
  refine lv_ldc2 (v := 60) hx hb hown (hts (.constantLong RX8 212 (60)) (by decide +kernel)) dX8_bestRule_8 ?_
  refine r_asL (nI 60).toInt64 (by decide) ?_
  refine r_sI C zw1 hl.1 [.long n.toInt64, .long ((nI 1).toInt64), .long ((nI 60).toInt64)] 3 rfl (c_X8_in (l := l) (G := G) (tC := tC) (ad := ad) (N := N) (E := zE1) (x := n) (a := (nI 1)) (b := (nI 60))   ) gX8_bestRule_X8_in rfl ⟨rfl, rfl⟩ (by decide +kernel) ⟨Nat.le_of_ble_eq_true rfl, Nat.le_of_ble_eq_true rfl⟩ (rest := []) rfl (Nat.le_of_ble_eq_true rfl) dX8_bestRule_11 ⟨Nat.zero_le _, Nat.zero_le _⟩ (fun zr2 zE2 zH2 zL2 zp2 zw2 => ?_)
  obtain ⟨ze2, zq2⟩ := zp2
  rw [ze2] at zw2
  clear ze2
  rw [zq2]
  refine b_if_ne (tgt := 20) hx hb dX8_bestRule_14 (by decide) (fun zc14 => ?_) (fun zc14 => ?_)
  · obtain ⟨j9, zj9, zj8, rfl⟩ := in_of1 (by omega) (by omega) zc14
    refine lv_aload_n hx hb dX8_bestRule_20 rfl (lv_at hl 0 rfl) ?_
    refine r_get C zw2 RX8 TX8 17 5 hinX8 (i := q) (by omega) zh1_0 rfl 1 (by decide) (by decide +kernel) rfl (v := .ref (ad (q + 1))) rfl dX8_bestRule_21 ?_
    refine lv_iconst (v := nI 0) hx hb dX8_bestRule_24 rfl ?_
    refine r_iaN C zw2 (i := (q + 1)) (by omega) zk1_0 (j := 0) (by omega) (by omega) dX8_bestRule_25 ?_
    refine r_nat pg hs0 ?_
    refine n_if_ne (tgt := 31) hx hb dX8_bestRule_26 (by decide) (by omega) (fun zc26 => ?_) (fun zc26 => ?_)
    · refine lv_iconst (v := nI 3) hx hb dX8_bestRule_31 rfl ?_
      refine lv_istore_n (lv' := [(2, .int (nI 3)), (0, .ref (ad q)), (1, .int (nI j9))]) hx hb dX8_bestRule_32 rfl hl (by decide) rfl (fun ls hl => ?_)
      refine lv_iconst (v := nI 2) hx hb dX8_bestRule_33 rfl ?_
      refine r_as (nI 3 - nI 1) (by decide) ?_
      refine lv_istore_n (lv' := [(3, .int (nI 3 - nI 1)), (2, .int (nI 3)), (0, .ref (ad q)), (1, .int (nI j9))]) hx hb dX8_bestRule_34 rfl hl (by decide) rfl (fun ls hl => ?_)
      have zlp35 : ∀ (zn : Nat) (rr b : Nat) (o1 o2 o3 o4 : Nat → Int32), rr < zn → (rr ≤ 3) → (b ≤ 3) → (bstM (fun r => wstF (lenF s) (wtF s) r pg j9) rr b = bstM (fun r => wstF (lenF s) (wtF s) r pg j9) 3 3) → ∀ (E9 : Nat → va_E) (H9 : Heap) (L9 : List Loc), E9 (q + 1) = eI G 508 s → E9 (q + 9) = eI G 60 o1 → E9 (q + 10) = eI G 10 o2 → E9 (q + 11) = eI G 10 o3 → E9 (q + 12) = eI G 10 o4 → E9 q = .inr (5, [.int (nI 0), .ref (ad (q + 1)), .long se, .ref (ad (q + 2)), .ref (ad (q + 3)), .int (nI co), .ref (ad (q + 4)), .int (nI pm), .ref (ad (q + 5)), .ref (ad (q + 6)), .ref (ad (q + 7)), .ref (ad (q + 8)), .int (nI em), .ref (ad (q + 9)), .ref (ad (q + 10)), .ref (ad (q + 11)), .ref (ad (q + 12))]) → (∀ j, j ≠ q → j ≠ (q + 9) → j ≠ (q + 10) → j ≠ (q + 11) → j ≠ (q + 12) → E9 j = E j) → Wd G A ss_.heap H9 L9 ad E9 N → ∀ (ls : Array Slot), lv_has ls 4 [(0, .ref (ad q)), (1, .int (nI j9)), (2, .int (nI b)), (3, .int (nI rr - nI 1))] → W pp_ l ee_ ({ frames := 7, cells := 0, slots := 0, locals := 165 } : Room) ss_ mm_ aa_ bb_ me_ cc_ H9 L9 0 0 (QI bb_ aa_ ss_ G ad N A (fun r E2 => ∃ od2 : Nat → Int32, ∃ og2 : Nat → Int32, ∃ le2 : Nat → Int32, ∃ wa2 : Nat → Int32, E2 q = .inr (5, [.int (nI 0), .ref (ad (q + 1)), .long se, .ref (ad (q + 2)), .ref (ad (q + 3)), .int (nI co), .ref (ad (q + 4)), .int (nI pm), .ref (ad (q + 5)), .ref (ad (q + 6)), .ref (ad (q + 7)), .ref (ad (q + 8)), .int (nI em), .ref (ad (q + 9)), .ref (ad (q + 10)), .ref (ad (q + 11)), .ref (ad (q + 12))]) ∧ E2 (q + 9) = eI G 60 od2 ∧ E2 (q + 10) = eI G 10 og2 ∧ E2 (q + 11) = eI G 10 le2 ∧ E2 (q + 12) = eI G 10 wa2 ∧ (∀ j, j ≠ q → j ≠ (q + 9) → j ≠ (q + 10) → j ≠ (q + 11) → j ≠ (q + 12) → E2 j = E j) ∧ r = a_best s pg (nI j9))) (F0 mm_ 35 ls []) := by
        intro zn
        induction zn with
        | zero => intro rr b o1 o2 o3 o4 zhm; exact absurd zhm (Nat.not_lt_zero _)
        | succ zn zih35 =>
          intro rr b o1 o2 o3 o4 zhm35 hr3 hb3 hbm zE_35 zH_35 zL_35 zl35_0 zl35_1 zl35_2 zl35_3 zl35_4 zl35_5 zlf35  zlw35 ls hl
          refine lv_iload_n hx hb dX8_bestRule_35 rfl (lv_at hl 3 rfl) ?_
          refine lv_if_lt (tgt := 66) hx hb dX8_bestRule_36 (by decide) (fun zc36 => ?_) (fun zc36 => ?_)
          · have zr0 := (lt_m1 rr hr3).mp zc36
            refine lv_iload_n hx hb dX8_bestRule_66 rfl (lv_at hl 2 rfl) ?_
            exact r_iret C zlw35 dX8_bestRule_67 ⟨o1, o2, o3, o4, zl35_5, zl35_1, zl35_2, zl35_3, zl35_4, (fun j zm0 zm1 zm2 zm3 zm4 => zlf35 j zm0 zm1 zm2 zm3 zm4), (by rw [a_best, if_pos zc14, if_neg zc26, nI_clamp (by omega), ← hbm, show rr = 0 by omega]; rfl)⟩
          · have zr1 : 1 ≤ rr := Nat.pos_of_ne_zero (fun zq => zc36 ((lt_m1 rr hr3).mpr zq))
            refine lv_aload_n hx hb dX8_bestRule_39 rfl (lv_at hl 0 rfl) ?_
            refine lv_iload_n hx hb dX8_bestRule_40 rfl (lv_at hl 3 rfl) ?_
            refine r_nat (rr - 1) (pk_sub zr1) ?_
            refine lv_iload_n hx hb dX8_bestRule_41 rfl (lv_at hl 1 rfl) ?_
            refine r_vI C zlw35 hl.1 (i := q) (by omega) zl35_5 (T := TX8) (n := 17) rfl [.int (nI (rr - 1)), .int (nI j9)] 2 rfl (c_X8_worstBy (l := l) (G := G) (tC := tC) (ad := ad) (N := N) (E := zE_35) (q := q) (co := co) (pm := pm) (em := em) (th := nI 0) (se := se) (pg := pg) (s := s) (od := o1) (og := o2) (le := o3) (wa := o4) (rho := rr - 1) (n := j9) (by omega) zl35_5 zl35_0 zl35_1 zl35_2 zl35_3 zl35_4 (by first | assumption | omega) (by first | assumption | omega) (by first | assumption | omega) (by first | assumption | omega) (by first | assumption | omega)) gX8_bestRule_X8_worstBy rfl ⟨rfl, rfl⟩ (by decide +kernel) ⟨Nat.le_of_ble_eq_true rfl, Nat.le_of_ble_eq_true rfl⟩ (rest := []) rfl (Nat.le_of_ble_eq_true rfl) dX8_bestRule_42 ⟨Nat.zero_le _, Nat.zero_le _⟩ (fun zr3 zE3 zH3 zL3 zp3 zw3 => ?_)
            obtain ⟨zod23, zog23, zle23, zg3_0, zg3_1, zg3_2, zg3_3, zf3, zq3⟩ := zp3
            have zh3_0 : zE3 (q + 9) = eI G 60 zod23 := zg3_0
            have zh3_1 : zE3 (q + 10) = eI G 10 zog23 := zg3_1
            have zh3_2 : zE3 (q + 11) = eI G 10 zle23 := zg3_2
            have zh3_3 : zE3 (q + 12) = eI G 10 (waitF (lenF s) (wtF s) (rr - 1) pg j9) := zg3_3
            have zk3_0 : zE3 (q + 1) = eI G 508 s := (zf3 _ (by omega) (by omega) (by omega) (by omega)).trans zl35_0
            have zk3_1 : zE3 q = .inr (5, [.int (nI 0), .ref (ad (q + 1)), .long se, .ref (ad (q + 2)), .ref (ad (q + 3)), .int (nI co), .ref (ad (q + 4)), .int (nI pm), .ref (ad (q + 5)), .ref (ad (q + 6)), .ref (ad (q + 7)), .ref (ad (q + 8)), .int (nI em), .ref (ad (q + 9)), .ref (ad (q + 10)), .ref (ad (q + 11)), .ref (ad (q + 12))]) := (zf3 _ (by omega) (by omega) (by omega) (by omega)).trans zl35_5
            have zfr3 : ∀ j, j ≠ q → j ≠ (q + 9) → j ≠ (q + 10) → j ≠ (q + 11) → j ≠ (q + 12) → zE3 j = E j := fun j zm0 zm1 zm2 zm3 zm4 => (zf3 j zm1 zm2 zm3 zm4).trans (zlf35 j zm0 zm1 zm2 zm3 zm4)
            rw [zq3]
            refine lv_aload_n hx hb dX8_bestRule_45 rfl (lv_at hl 0 rfl) ?_
            refine lv_iload_n hx hb dX8_bestRule_46 rfl (lv_at hl 2 rfl) ?_
            refine lv_iload_n hx hb dX8_bestRule_47 rfl (lv_at hl 1 rfl) ?_
            refine r_vI C zw3 hl.1 (i := q) (by omega) zk3_1 (T := TX8) (n := 17) rfl [.int (nI b), .int (nI j9)] 2 rfl (c_X8_worstBy (l := l) (G := G) (tC := tC) (ad := ad) (N := N) (E := zE3) (q := q) (co := co) (pm := pm) (em := em) (th := nI 0) (se := se) (pg := pg) (s := s) (od := zod23) (og := zog23) (le := zle23) (wa := waitF (lenF s) (wtF s) (rr - 1) pg j9) (rho := b) (n := j9) (by omega) zk3_1 zk3_0 zh3_0 zh3_1 zh3_2 zh3_3 (by first | assumption | omega) (by first | assumption | omega) (by first | assumption | omega) (by first | assumption | omega) (by first | assumption | omega)) gX8_bestRule_X8_worstBy rfl ⟨rfl, rfl⟩ (by decide +kernel) ⟨Nat.le_of_ble_eq_true rfl, Nat.le_of_ble_eq_true rfl⟩ (rest := [.int (wstF (lenF s) (wtF s) (rr - 1) pg j9)]) rfl (Nat.le_of_ble_eq_true rfl) dX8_bestRule_48 ⟨Nat.zero_le _, Nat.zero_le _⟩ (fun zr4 zE4 zH4 zL4 zp4 zw4 => ?_)
            obtain ⟨zod24, zog24, zle24, zg4_0, zg4_1, zg4_2, zg4_3, zf4, zq4⟩ := zp4
            have zh4_0 : zE4 (q + 9) = eI G 60 zod24 := zg4_0
            have zh4_1 : zE4 (q + 10) = eI G 10 zog24 := zg4_1
            have zh4_2 : zE4 (q + 11) = eI G 10 zle24 := zg4_2
            have zh4_3 : zE4 (q + 12) = eI G 10 (waitF (lenF s) (wtF s) b pg j9) := zg4_3
            have zk4_0 : zE4 (q + 1) = eI G 508 s := (zf4 _ (by omega) (by omega) (by omega) (by omega)).trans zk3_0
            have zk4_1 : zE4 q = .inr (5, [.int (nI 0), .ref (ad (q + 1)), .long se, .ref (ad (q + 2)), .ref (ad (q + 3)), .int (nI co), .ref (ad (q + 4)), .int (nI pm), .ref (ad (q + 5)), .ref (ad (q + 6)), .ref (ad (q + 7)), .ref (ad (q + 8)), .int (nI em), .ref (ad (q + 9)), .ref (ad (q + 10)), .ref (ad (q + 11)), .ref (ad (q + 12))]) := (zf4 _ (by omega) (by omega) (by omega) (by omega)).trans zk3_1
            have zfr4 : ∀ j, j ≠ q → j ≠ (q + 9) → j ≠ (q + 10) → j ≠ (q + 11) → j ≠ (q + 12) → zE4 j = E j := fun j zm0 zm1 zm2 zm3 zm4 => (zf4 j zm1 zm2 zm3 zm4).trans (zfr3 j zm0 zm1 zm2 zm3 zm4)
            rw [zq4]
            refine lv_icmp_gt (tgt := 58) hx hb dX8_bestRule_51 (by decide) (fun zc51 => ?_) (fun zc51 => ?_)
            · refine lv_iload_n hx hb dX8_bestRule_58 rfl (lv_at hl 2 rfl) ?_
              refine lv_istore_n (lv' := [(2, .int (nI b)), (0, .ref (ad q)), (1, .int (nI j9)), (3, .int (nI rr - nI 1))]) hx hb dX8_bestRule_59 rfl hl (by decide) rfl (fun ls hl => ?_)
              refine lv_iinc (v := nI (rr - 1) - nI 1) (lv' := [(3, .int (nI (rr - 1) - nI 1)), (2, .int (nI b)), (0, .ref (ad q)), (1, .int (nI j9))]) hx hb dX8_bestRule_60 hl (k := 3) rfl (dec1 zr1) (by decide) rfl (fun ls hl => ?_)
              refine lv_goto (tgt := 35) hx hb dX8_bestRule_63 (by decide) ?_
              exact zih35 (rr - 1) b zod24 zog24 zle24 (waitF (lenF s) (wtF s) b pg j9) (by omega) (by omega) (by omega) (by rw [← hbm, show bstM (fun r => wstF (lenF s) (wtF s) r pg j9) rr b = bstM (fun r => wstF (lenF s) (wtF s) r pg j9) ((rr - 1) + 1) b from by rw [Nat.sub_add_cancel zr1], bstM]; first | rw [if_pos (Int32.not_lt.mp zc51)] | rw [if_neg (Int32.not_le.mpr zc51)]) _ _ _ zk4_0 zh4_0 zh4_1 zh4_2 zh4_3 zk4_1 (fun j zm0 zm1 zm2 zm3 zm4 => zfr4 j zm0 zm1 zm2 zm3 zm4) zw4 _ (lv_sub hl [2, 3, 1, 0] rfl)
            · refine lv_iload_n hx hb dX8_bestRule_54 rfl (lv_at hl 3 rfl) ?_
              refine r_nat (rr - 1) (pk_sub zr1) ?_
              refine lv_goto (tgt := 59) hx hb dX8_bestRule_55 (by decide) ?_
              refine lv_istore_n (lv' := [(2, .int (nI (rr - 1))), (0, .ref (ad q)), (1, .int (nI j9)), (3, .int (nI rr - nI 1))]) hx hb dX8_bestRule_59 rfl hl (by decide) rfl (fun ls hl => ?_)
              refine lv_iinc (v := nI (rr - 1) - nI 1) (lv' := [(3, .int (nI (rr - 1) - nI 1)), (2, .int (nI (rr - 1))), (0, .ref (ad q)), (1, .int (nI j9))]) hx hb dX8_bestRule_60 hl (k := 3) rfl (dec1 zr1) (by decide) rfl (fun ls hl => ?_)
              refine lv_goto (tgt := 35) hx hb dX8_bestRule_63 (by decide) ?_
              exact zih35 (rr - 1) (rr - 1) zod24 zog24 zle24 (waitF (lenF s) (wtF s) b pg j9) (by omega) (by omega) (by omega) (by rw [← hbm, show bstM (fun r => wstF (lenF s) (wtF s) r pg j9) rr b = bstM (fun r => wstF (lenF s) (wtF s) r pg j9) ((rr - 1) + 1) b from by rw [Nat.sub_add_cancel zr1], bstM]; first | rw [if_pos (Int32.not_lt.mp zc51)] | rw [if_neg (Int32.not_le.mpr zc51)]) _ _ _ zk4_0 zh4_0 zh4_1 zh4_2 zh4_3 zk4_1 (fun j zm0 zm1 zm2 zm3 zm4 => zfr4 j zm0 zm1 zm2 zm3 zm4) zw4 _ (lv_sub hl [2, 3, 1, 0] rfl)
      exact zlp35 _ 3 3 od og le wa (Nat.lt_succ_self _) (by omega) (by omega) (by rfl) _ _ _ zk1_0 zk1_1 zk1_2 zk1_3 zk1_4 zh1_0 (fun j zm0 zm1 zm2 zm3 zm4 => zfr1 j zm0) zw2 _ (lv_sub hl [2, 3, 1, 0] rfl)
    · refine lv_iconst (v := -1) hx hb dX8_bestRule_29 (by decide) ?_
      exact r_iret C zw2 dX8_bestRule_30 ⟨od, og, le, wa, zh1_0, zk1_1, zk1_2, zk1_3, zk1_4, (fun j zm0 zm1 zm2 zm3 zm4 => zfr1 j zm0), (by rw [a_best, if_pos zc14, if_pos zc26])⟩
  · refine lv_ldc (v := -1000000002) hx hb hown (hts (.constant RX8 74 (-1000000002)) (by decide +kernel)) dX8_bestRule_17 ?_
    exact r_iret C zw2 dX8_bestRule_19 ⟨od, og, le, wa, zh1_0, zk1_1, zk1_2, zk1_3, zk1_4, (fun j zm0 zm1 zm2 zm3 zm4 => zfr1 j zm0), (by rw [a_best, if_neg zc14])⟩

