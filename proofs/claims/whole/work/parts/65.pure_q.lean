/-! A RING THAT IS NEW. -/
section P65
variable {G : vG} {ad a1 : Nat → Nat} {E E2 : Nat → va_E} {f : Nat → Option Nat} {i j z N : Nat}
theorem ring_new (hN : N = i + 1) (h0 : E i = .inr (3, [.ref (ad N), .int (nI 0), .int (nI 0)])) (h1 : E N = eR G 16 f) (hf : ∀ x, x < 16 → f x = some (ad (N + 1 + 3 * x))) (hs : ∀ x, x < 16 → SlotX G ad E (N + 1 + 3 * x)) (pb : Nat → Int32) : Ring G ad E i pb 0 := by
  subst hN
  refine ⟨0, f, by omega, by omega, h0, h1, fun x hx => by rw [hf x hx, show i + 1 + 1 + 3 * x = i + 2 + 3 * x by omega], fun x hx => ?_, fun m hm => absurd hm (Nat.not_lt_zero m)⟩
  have := hs x hx
  rw [show i + 1 + 1 + 3 * x = i + 2 + 3 * x by omega] at this
  exact this
theorem ring_f (hf : ∀ x, x < j → f x = some (ad (N + 1 + 3 * x))) (hz : z = N + 1 + 3 * j) (ha : ∀ x, x < z → a1 x = ad x) : ∀ x, x < j + 1 → va_up f j (some (a1 z)) x = some (a1 (N + 1 + 3 * x)) := by
  intro x hx
  by_cases q : x = j
  · subst q; rw [up_s, hz]
  · rw [up_n _ _ q, hf x (by omega), ha _ (by omega)]
theorem SlotX.move (h : SlotX G ad E z) (a2 : a1 (z + 1) = ad (z + 1)) (a3 : a1 (z + 2) = ad (z + 2)) (h0 : E2 z = E z) (h1 : E2 (z + 1) = E (z + 1)) (h2 : E2 (z + 2) = E (z + 2)) : SlotX G a1 E2 z := by
  obtain ⟨pg, cm, hd, lst, md, sd, cs, op, g0, g1, g2⟩ := h
  exact ⟨pg, cm, hd, lst, md, sd, cs, op, (h0.trans g0).trans (by rw [a2, a3]), h1.trans g1, h2.trans g2⟩
theorem ring_s (hs : ∀ x, x < j → SlotX G ad E (N + 1 + 3 * x)) (hz : z = N + 1 + 3 * j) (ha : ∀ x, x < z → a1 x = ad x) (hE : ∀ x, x < z → x ≠ N → (∀ k, ¬ x + k = N) → E2 x = E x) (hn : SlotX G a1 E2 z) : ∀ x, x < j + 1 → SlotX G a1 E2 (N + 1 + 3 * x) := by
  intro x hx
  by_cases q : x = j
  · subst q; rw [← hz]; exact hn
  · exact (hs x (by omega)).move (ha _ (by omega)) (ha _ (by omega)) (hE _ (by omega) (by omega) (by intro k; omega)) (hE _ (by omega) (by omega) (by intro k; omega)) (hE _ (by omega) (by omega) (by intro k; omega))
theorem SlotR.move {s : Nat → Int32} (h : SlotR G ad E z s) (a2 : a1 (z + 1) = ad (z + 1)) (a3 : a1 (z + 2) = ad (z + 2)) (h0 : E2 z = E z) (h1 : E2 (z + 1) = E (z + 1)) (h2 : E2 (z + 2) = E (z + 2)) : SlotR G a1 E2 z s := by
  obtain ⟨pg, cm, hd, lst, md, sd, cs, op, ⟨g0, g1, g2⟩, g3⟩ := h
  exact ⟨pg, cm, hd, lst, md, sd, cs, op, ⟨(h0.trans g0).trans (by rw [a2, a3]), h1.trans g1, h2.trans g2⟩, g3⟩
theorem Ring.move {t pm : Nat} {pa : Nat → Int32} (h : Ring G ad E t pa pm) (ha : ∀ j, t ≤ j → j < t + 50 → a1 j = ad j) (hs : ∀ j, t ≤ j → j < t + 50 → E2 j = E j) : Ring G a1 E2 t pa pm := by
  obtain ⟨nx, f, h1, h2, h3, h4, h5, h6, h7⟩ := h
  exact ⟨nx, f, h1, h2, ((hs _ (by omega) (by omega)).trans h3).trans (by rw [ha (t + 1) (by omega) (by omega)]), (hs _ (by omega) (by omega)).trans h4, fun j hj => by rw [ha _ (by omega) (by omega)]; exact h5 j hj, fun j hj => (h6 j hj).move (ha _ (by omega) (by omega)) (ha _ (by omega) (by omega)) (hs _ (by omega) (by omega)) (hs _ (by omega) (by omega)) (hs _ (by omega) (by omega)), fun m hm => (h7 m hm).move (ha _ (by omega) (by omega)) (ha _ (by omega) (by omega)) (hs _ (by omega) (by omega)) (hs _ (by omega) (by omega)) (hs _ (by omega) (by omega))⟩
end P65
