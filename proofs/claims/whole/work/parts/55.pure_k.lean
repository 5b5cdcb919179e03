/-! TAKING A PACKET, ON STATES THAT STAND FOR THE REFERENCE'S CELLS. -/
section P55
variable {s cs op : Nat → Int32} {pg cm hd : Nat} {lst md : Int32} {T : Nat} {pk : Nat → Nat}
theorem rep_bad {b : Nat} (h : RepS s cs op pg cm hd lst md T) (hb : b < 4) : RepS (upd s (4 + b) (-1)) cs (upd op b (-1)) pg cm hd lst md T := by
  obtain ⟨⟨a1, a2, a3, a4, a5⟩, ⟨b1, b2⟩, c, ⟨d1, ta, tm, d2, d3⟩, e1, e2⟩ := h
  have hn : ∀ x, ¬ x = 4 + b → upd s (4 + b) (-1) x = s x := fun x hx => upd_n _ _ hx
  refine ⟨⟨by rw [hn _ (by omega)]; exact a1, a2, by rw [hn _ (by omega)]; exact a3, by rw [hn _ (by omega)]; exact a4, by rw [hn _ (by omega)]; exact a5⟩, ⟨fun x hx => ?_, fun x hx => ?_⟩, fun k j hk hj h5 => by rw [hn _ (by omega)]; exact c k j hk hj h5, ⟨d1, ta, tm, fun k hk => by rw [hn _ (by omega)]; exact d2 k hk, d3⟩, fun k hk => by rw [hn _ (by omega)]; exact e1 k hk, fun k j hk hj h5 => by rw [hn _ (by omega)]; exact e2 k j hk hj h5⟩
  · by_cases q : x = b
    · subst q; rw [upd_s, upd_s]
    · rw [upd_n _ _ q, hn _ (by omega)]; exact b1 x hx
  · by_cases q : x = b
    · subst q; exact Or.inl (upd_s _ _ _)
    · rw [hn _ (by omega)]; exact b2 x hx
theorem rep_md (m2 : Int32) (h : RepS s cs op pg cm hd lst md T) : RepS (upd s 3 m2) cs op pg cm hd lst m2 T :=
  h.lo (upd_n _ _ (by omega)) (fun x hx => upd_n _ _ (by omega)) (by rw [upd_n _ _ (by omega)]; exact h.1.2.2.1) (by rw [upd_n _ _ (by omega)]; exact h.1.2.2.2.1) (upd_s _ _ _) (Nat.le_refl _)
theorem rep_mdF (a n : Nat) (h : RepS s cs op pg cm hd lst md T) : RepS (upd s 3 (mdF pk a n (s 3))) cs op pg cm hd lst (mdF pk a n md) T := by
  have := rep_md (mdF pk a n md) h
  rw [h.1.2.2.2.2]
  exact this
/-- a head that is well told -/
theorem hd_ok (h1 : ¬ numI (pk 2) (pk 3) = -1) (h2 : nI 0 ≤ dec (pk 4) ∧ dec (pk 4) ≤ nI 7) (h3 : ¬ dec (pk 5) = -1) : hdOk pk := by
  have g1 : decN (pk 2) ≤ 9 ∧ decN (pk 3) ≤ 9 := Classical.byContradiction fun q => h1 (numI_m1.mpr q)
  exact ⟨g1.1, g1.2, (dec_in (by omega)).mp h2, (dec_nat h3).2⟩
theorem hd_no (h : numI (pk 2) (pk 3) = -1 ∨ ¬ (nI 0 ≤ dec (pk 4) ∧ dec (pk 4) ≤ nI 7) ∨ dec (pk 5) = -1) : ¬ hdOk pk := by
  rintro ⟨g1, g2, g3, g4⟩
  rcases h with h | h | h
  · exact (numI_m1.mp h) ⟨g1, g2⟩
  · exact h ((dec_in (by omega)).mpr g3)
  · exact (dec_m1.mp h) g4
theorem rep_hdN {b : Nat} (h : RepS s cs op pg cm hd lst md cm) (hb : b < 4) (hn : ¬ hdOk pk) : RepS (hdF s pg pk b) cs (upd op b (-1)) pg cm hd lst md (cm + 1) := by
  rw [hdF, if_neg hn]
  exact (rep_bad h hb).mono (Nat.le_succ _)
theorem rep_hdY {cs2 op2 : Nat → Int32} {pg2 k b : Nat} (h : RepS s cs op pg cm hd lst md cm) (hcm : cm < 2147483648) (hb : b < 4) (hy : hdOk pk) (ho : opnR cs op pg hd b (hdI s pg pk b) (nI (hdN pk)) (nI (decN (pk 4))) cs2 op2 pg2 k) :
    (decN (pk 5) % 2 = 1 → RepS (hdF s pg pk b) (clF cs2 k) op2 pg2 cm (hd + 1) lst md (cm + 1)) ∧ (¬ decN (pk 5) % 2 = 1 → RepS (hdF s pg pk b) cs2 op2 pg2 cm (hd + 1) lst md (cm + 1)) := by
  obtain ⟨h1, h2, h3⟩ := rep_open h hcm hb ho
  rw [hdF, if_pos hy, hd3, ← h2]
  rw [← h2] at h1
  exact ⟨fun q => by rw [if_pos q]; exact rep_clear h1 h3, fun q => by rw [if_neg q]; exact h1⟩
theorem opn_lt {cs2 op2 : Nat → Int32} {pg2 k b i : Nat} {n p : Int32} (ho : opnR cs op pg hd b i n p cs2 op2 pg2 k) : k < 10 ∨ k < pg := by
  rcases ho with ⟨h1, rfl, -⟩ | ⟨-, -, rfl, -⟩ | ⟨-, h2, rfl, -⟩ <;> omega
/-- the kinds -/
theorem dec_k {o k : Nat} (hk : k < 16) : dec o = nI k ↔ decN o = k := by
  unfold dec
  split
  · exact nI_eq (by omega) (by omega)
  · next h => exact ⟨fun q => absurd q.symm (nI_m1 (by omega)), fun q => absurd hk (by omega)⟩
theorem tk1_rep (h : RepS s cs op pg cm hd lst md T) : RepS (tk1 s pk) cs op pg cm hd lst (mdF pk 0 2 md) T := rep_mdF 0 2 h
theorem tk1_n {x : Nat} (hx : ¬ x = 3) : tk1 s pk x = s x := upd_n _ _ hx
theorem take_bad (h : RepS s cs op pg cm hd lst md cm) (hn : ¬ (decN (pk 0) ≤ 3 ∧ decN (pk 1) ≤ 7)) : RepS (tkF s pg pk) cs op pg cm hd lst (mdF pk 0 2 md) (cm + 1) ∧ (nI 0 : Int32) = if tkB s pk then 1 else 0 := by
  rw [tkF, if_neg hn, if_neg (fun q : tkB s pk => hn q.1)]
  exact ⟨(tk1_rep h).mono (Nat.le_succ _), rfl⟩
theorem take_7 (h : RepS s cs op pg cm hd lst md cm) (h0 : decN (pk 0) ≤ 3) (h1 : decN (pk 1) = 7) : RepS (tkF s pg pk) cs op pg cm hd lst (mdF pk 0 2 md) (cm + 1) ∧ (nI 1 : Int32) = if tkB s pk then 1 else 0 := by
  rw [tkF, if_pos ⟨h0, by omega⟩, if_neg (by omega), if_pos h1, if_pos (show tkB s pk from ⟨⟨h0, by omega⟩, Or.inr (Or.inl h1)⟩)]
  exact ⟨(tk1_rep h).mono (Nat.le_succ _), rfl⟩
theorem take_shut (h : RepS s cs op pg cm hd lst md cm) (h1 : ¬ decN (pk 1) = 0) (h7 : ¬ decN (pk 1) = 7) (hs : s (4 + decN (pk 0)) = -1) : RepS (tkF s pg pk) cs op pg cm hd lst (mdF pk 0 2 md) (cm + 1) ∧ (nI 0 : Int32) = if tkB s pk then 1 else 0 := by
  by_cases hn : decN (pk 0) ≤ 3 ∧ decN (pk 1) ≤ 7
  · rw [tkF, if_pos hn, if_neg h1, if_neg h7, if_pos hs, if_neg (fun q : tkB s pk => q.2.elim (fun z => h1 z.1) (fun z => z.elim h7 (fun z => z.2 hs)))]
    exact ⟨(tk1_rep h).mono (Nat.le_succ _), rfl⟩
  · exact take_bad h hn
theorem take_head {cs2 op2 : Nat → Int32} {pg2 hd2 : Nat} {r : Int32} (h0 : decN (pk 0) ≤ 3) (h1 : decN (pk 1) = 0) (h : RepS (hdF (upd (tk1 s pk) 3 (mdF pk 2 4 (tk1 s pk 3))) pg pk (decN (pk 0))) cs2 op2 pg2 cm hd2 lst (mdF pk 2 4 (mdF pk 0 2 md)) (cm + 1) ∧ r = if hdOk pk then 1 else 0) :
    RepS (tkF s pg pk) cs2 op2 pg2 cm hd2 lst (mdF pk 2 4 (mdF pk 0 2 md)) (cm + 1) ∧ r = if tkB s pk then 1 else 0 := by
  rw [tkF, if_pos ⟨h0, by omega⟩, if_pos h1]
  refine ⟨h.1, h.2.trans ?_⟩
  congr 1; apply propext
  exact ⟨fun q => ⟨⟨h0, by omega⟩, Or.inl ⟨h1, q⟩⟩, fun q => q.2.elim (fun z => z.2) (fun z => z.elim (fun z => absurd z (by omega)) (fun z => absurd h1 z.1))⟩
theorem take_opn (h : RepS s cs op pg cm hd lst md T) {b : Nat} (hb : b ≤ 3) (hs : ¬ s (4 + b) = -1) : op b = nI (s (4 + b)).toNatClampNeg ∧ (s (4 + b)).toNatClampNeg < pg := by
  have := opOk_nat h.2.1.2 (show b < 4 by omega) h.1.2.1 hs
  exact ⟨(h.2.1.1 b (by omega)).trans this.1, this.2⟩
theorem take_link {k : Nat} (h : RepS s cs op pg cm hd lst md cm) (h0 : decN (pk 0) ≤ 3) (h1 : decN (pk 1) = 6) (hs : ¬ s (4 + decN (pk 0)) = -1) (hk : k = (s (4 + decN (pk 0))).toNatClampNeg) (hlt : k < pg) : RepS (tkF s pg pk) (lkF cs pk (k * 50 + 6) 4) op pg cm hd lst (mdF pk 2 8 (mdF pk 0 2 md)) (cm + 1) ∧ (1 : Int32) = if tkB s pk then 1 else 0 := by
  rw [tkF, if_pos ⟨h0, by omega⟩, if_neg (by omega), if_neg (by omega), if_neg hs, if_pos h1, if_pos (show tkB s pk from ⟨⟨h0, by omega⟩, Or.inr (Or.inr ⟨by omega, hs⟩)⟩), ← hk]
  exact ⟨(rep_link (tk1_rep h) hlt).mono (Nat.le_succ _), rfl⟩
theorem take_row {k row : Nat} (h : RepS s cs op pg cm hd lst md cm) (h0 : decN (pk 0) ≤ 3) (h1 : decN (pk 1) ≤ 7) (h2 : ¬ decN (pk 1) = 0) (h3 : ¬ decN (pk 1) = 6) (h4 : ¬ decN (pk 1) = 7) (hs : ¬ s (4 + decN (pk 0)) = -1) (hk : k = (s (4 + decN (pk 0))).toNatClampNeg) (hr : row = decN (pk 1) - 1) : RepS (tkF s pg pk) (rwF cs pk (k * 50 + 10 + row * 8) 8) op pg cm hd lst (mdF pk 0 2 md) (cm + 1) ∧ (1 : Int32) = if tkB s pk then 1 else 0 := by
  rw [tkF, if_pos ⟨h0, h1⟩, if_neg h2, if_neg h4, if_neg hs, if_neg h3, if_pos (show tkB s pk from ⟨⟨h0, h1⟩, Or.inr (Or.inr ⟨h2, hs⟩)⟩), ← hk, ← hr]
  exact ⟨(rep_row (tk1_rep h) (by omega)).mono (Nat.le_succ _), rfl⟩
theorem tk3 (x : Int32) (n : Nat) : x = -1 ∨ (¬ x = -1 ∧ n ≤ 7) ∨ (¬ x = -1 ∧ ¬ n ≤ 7) := by
  by_cases h : x = -1
  · exact Or.inl h
  · by_cases g : n ≤ 7
    · exact Or.inr (Or.inl ⟨h, g⟩)
    · exact Or.inr (Or.inr ⟨h, g⟩)
/-- a kind that names no row -/
theorem row_bad {o : Nat} (h0 : ¬ decN o = 0) (h : ¬ decN o ≤ 7) : ¬ (nI 0 ≤ dec o - nI 1 ∧ dec o - nI 1 ≤ nI 4) := by
  rintro ⟨p, q⟩
  unfold dec at p q
  split at p
  · next hlt =>
    rw [if_pos hlt, pk_sub (show 1 ≤ decN o by omega)] at q
    have := (nI_leI (by omega) (by omega)).mp q
    omega
  · exact absurd p (by decide)
/-- what comes -/
theorem come_rep (h : RepS s cs op pg cm hd lst md (cm + 1)) : RepS (cmS s) cs op pg (cm + 1) hd lst md (cm + 1) :=
  h.lo (upd_n _ _ (by omega)) (fun x hx => upd_n _ _ (by omega)) (by rw [cmS, upd_s, h.1.2.2.1]; exact nI_add cm 1) (by rw [cmS, upd_n _ _ (by omega)]; exact h.1.2.2.2.1) (by rw [cmS, upd_n _ _ (by omega)]; exact h.1.2.2.2.2) (Nat.le_refl _)
theorem come_b : tkB (cmS s) pk ↔ tkB s pk := by
  unfold tkB
  rw [cmS, upd_n _ _ (by omega)]
theorem come_y {pg0 : Nat} (hy : tkB s pk) (h : RepS (tkF (cmS s) pg0 pk) cs op pg cm hd lst md T) : RepS (cmF s pg0 pk) cs op pg cm hd lst md T := by rw [cmF, if_pos hy]; exact h
theorem come_n {pg0 : Nat} (hn : ¬ tkB s pk) (h : RepS (tkF (cmS s) pg0 pk) cs op pg cm hd lst md T) : RepS (cmF s pg0 pk) cs op pg cm hd (lst + nI 1) md T := by
  rw [cmF, if_neg hn]
  exact h.lo (upd_n _ _ (by omega)) (fun x hx => upd_n _ _ (by omega)) (by rw [upd_n _ _ (by omega)]; exact h.1.2.2.1) (by rw [upd_s, h.1.2.2.2.1]) (by rw [upd_n _ _ (by omega)]; exact h.1.2.2.2.2) (Nat.le_refl _)
theorem come_i {r : Int32} (h : r = if tkB (cmS s) pk then 1 else 0) : r = if tkB s pk then 1 else 0 := by
  rw [h]; congr 1; exact propext come_b
end P55
