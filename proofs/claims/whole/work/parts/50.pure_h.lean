/-! PURE WORDS for the class: its cells against the reference's. -/
abbrev agr (cs s : Nat → Int32) (pg : Nat) : Prop := ∀ k j, k < pg → j < 50 → ¬ j = 5 → cs (k * 50 + j) = s (8 + 50 * k + j)
theorem or_acR : ∀ r, r < 5 → ∀ a, a < 32 → a < 2 ^ r → nI a ||| (nI 1 <<< (nI r &&& 31)) = nI (a + 2 ^ r) := by decide +kernel
theorem acR_y {f : Nat → Int32} {r : Nat} (h : rowE f r) : acR f (r + 1) = acR f r + 2 ^ r := by rw [acR, if_pos h]
theorem acR_n {f : Nat → Int32} {r : Nat} (h : ¬ rowE f r) : acR f (r + 1) = acR f r := by rw [acR, if_neg h]; rfl
theorem acR_32 (f : Nat → Int32) {r : Nat} (h : r ≤ 5) : acR f r < 32 := by
  have h1 := acR_lt f r
  have h2 : ∀ r, r ≤ 5 → 2 ^ r ≤ 32 := by decide
  have := h2 r h
  omega
theorem frM_or (s : Nat → Int32) (pg : Nat) (set a : Int32) : ∀ e, a ||| frM s pg set (nI 0) e = frM s pg set a e := by
  intro e
  induction e with
  | zero => exact or_0 a
  | succ e ih => rw [frM, frM, ← ih, Int32.or_assoc]
theorem oldS_bst (v : Nat → Int32) : oldS v 3 = bstM v 3 3 := by
  have e : ∀ i j, v i ≤ v j ↔ ¬ v j < v i := fun i j => Int32.not_lt.symm
  simp only [oldS, bstM, e]
  by_cases a : v 1 < v 0 <;> by_cases b : v 2 < v 0 <;> by_cases c : v 2 < v 1 <;> by_cases d : v 3 < v 0 <;> by_cases f : v 3 < v 1 <;> by_cases g : v 3 < v 2 <;> simp [a, b, c, d, f, g] <;> (simp only [Int32.lt_iff_toInt_lt] at a b c d f g; omega)
theorem pc8_lac (f : Nat → Int32) : pc8 (lacN f) ≤ 5 := by
  rw [← pcK_5 _ (lacN_lt f)]
  exact pcK_le _ 5
theorem fm_ok : ∀ a, a < 16 → ∀ b, b < 17 → (0 ≤ (nI a - nI b) ^^^ nI 16 → (nI a - nI b) - (nI a - nI b) / nI 16 * nI 16 = nI ((a + 16 - b) % 16)) ∧ ((nI a - nI b) - (nI a - nI b) / nI 16 * nI 16 = 0 → (nI a - nI b) - (nI a - nI b) / nI 16 * nI 16 = nI ((a + 16 - b) % 16)) ∧ (¬ 0 ≤ (nI a - nI b) ^^^ nI 16 → ¬ (nI a - nI b) - (nI a - nI b) / nI 16 * nI 16 = 0 → (nI a - nI b) - (nI a - nI b) / nI 16 * nI 16 + nI 16 = nI ((a + 16 - b) % 16)) := by decide +kernel
theorem mxI_eq (a b : Int32) : (if a < b then b else a) = mxI a b := rfl
abbrev eq2 (ln wt l w : Nat → Int32) (rp : Nat) : Prop := ∀ k, k < rp → ln k = l k ∧ wt k = w k
/-- what has come of an order so far -/
abbrev lastK (l w : Nat → Int32) (rho rp i : Nat) : Int32 := if i = 0 then -1 else nI (sentK l w rho rp (i - 1))
theorem bst_step {v : Nat → Int32} {rr : Nat} {b le b2 le2 : Int32} (h0 : rr = 0 → b = -1) (h1 : 0 < rr → b = nI (oldS v (rr - 1)) ∧ le = v (oldS v (rr - 1)))
    (h : (b = -1 ∧ b2 = nI rr ∧ le2 = v rr) ∨ (¬ b = -1 ∧ le ≤ v rr ∧ b2 = b ∧ le2 = le) ∨ (¬ b = -1 ∧ ¬ le ≤ v rr ∧ b2 = nI rr ∧ le2 = v rr)) (hr : rr < 1000 := by omega) : b2 = nI (oldS v (rr + 1 - 1)) ∧ le2 = v (oldS v (rr + 1 - 1)) := by
  rw [show rr + 1 - 1 = rr by omega]
  rcases Nat.eq_zero_or_pos rr with q | q
  · subst q
    rcases h with ⟨-, h2, h3⟩ | ⟨h2, -⟩ | ⟨h2, -⟩
    · exact ⟨h2, h3⟩
    · exact absurd (h0 rfl) h2
    · exact absurd (h0 rfl) h2
  · obtain ⟨g1, g2⟩ := h1 q
    have hl := oldS_le v (rr - 1)
    have e : oldS v rr = if v rr < v (oldS v (rr - 1)) then rr else oldS v (rr - 1) := by
      rw [show oldS v rr = oldS v ((rr - 1) + 1) by rw [Nat.sub_add_cancel q], oldS, Nat.sub_add_cancel q]
    rcases h with ⟨h2, -⟩ | ⟨-, h2, h3, h4⟩ | ⟨-, h2, h3, h4⟩
    · rw [g1] at h2; exact absurd h2 (nI_m1 (by omega))
    · rw [e, if_neg (by rw [← g2]; exact Int32.not_lt.mpr h2), h3, h4]; exact ⟨g1, g2⟩
    · rw [e, if_pos (by rw [← g2]; exact Int32.not_le.mp h2)]; exact ⟨h3, h4⟩
theorem eq2_s {f1 f2 l w : Nat → Int32} {k : Nat} (h : eq2 f1 f2 l w k) : eq2 (upd f1 k (l k)) (upd f2 k (w k)) l w (k + 1) := by
  intro x hx
  by_cases e : x = k
  · rw [e, upd_s, upd_s]; exact ⟨rfl, rfl⟩
  · rw [upd_n _ _ e, upd_n _ _ e]; exact h x (by omega)
abbrev bkOk (bp br bi bl : Nat → Int32) (em : Nat) (ek er ei el : Nat → Nat) : Prop := ∀ e, e < em → (bp e = nI (ek e) ∧ ek e < 10) ∧ (br e = nI (er e) ∧ er e < 5) ∧ (bi e = nI (ei e) ∧ ei e < 8) ∧ bl e = nI (el e)
