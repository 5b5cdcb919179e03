/-! PURE WORDS: packets by draws, packets by figures, cells kept. -/
theorem dp_init {sd : Nat} {pt : Nat → Int32} : ∀ x, x < 2 → upd (upd pt 0 (nI (codeN (drB sd)))) 1 (nI (codeN (drK sd))) x = nI (dp0 sd x) := by
  intro x hx
  rcases (show x = 0 ∨ x = 1 by omega) with rfl | rfl
  · rw [upd_n _ _ (by omega), upd_s, dp0, if_pos rfl]
  · rw [upd_s, dp0, if_neg (by omega), if_pos rfl]
theorem dp_s {sd j : Nat} {g : Nat → Int32} (h2 : 2 ≤ j) (h : ∀ x, x < j → g x = nI (dp0 sd x)) : ∀ x, x < j + 1 → upd g j (nI (laidN (drK sd) (drF sd j))) x = nI (dp0 sd x) := by
  intro x hx
  by_cases e : x = j
  · rw [e, upd_s, dp0, if_neg (by omega), if_neg (by omega)]
  · rw [upd_n _ _ e]; exact h x (by omega)
theorem dpk_ok {sd : Nat} {g : Nat → Int32} (h : ∀ x, x < 10 → g x = nI (dp0 sd x)) : ∀ x, x < 10 → upd g (drT sd / 8) (nI (dp0 sd (drT sd / 8) ^^^ 2 ^ (drT sd % 8))) x = nI (dpk sd x) ∧ dpk sd x < 256 := by
  intro x hx
  refine ⟨?_, dpk_lt sd x⟩
  by_cases e : x = drT sd / 8
  · rw [e, upd_s, dpk, if_pos rfl]
  · rw [upd_n _ _ e, dpk, if_neg e]; exact h x hx
theorem lx_rem {a : Nat} (h : a < 9223372036854775808) : lN a - lN a / 16 * 16 = lN (a % 16) := by
  have z := pk_lRem (a := a) (b := 16) (by omega) (by omega) (by omega)
  exact z
theorem lx_div {a : Nat} (h : a < 9223372036854775808) : lN a / 16 = lN (a / 16) := by
  have z := pk_lDiv (a := a) (b := 16) (by omega) (by omega) (by omega)
  exact z
theorem lN0_le {e : Nat} (h : e < 9223372036854775808) : (nI 0).toInt64 ≤ lN e := by
  rw [nI_l (by omega)]
  exact (pk_lLE (by omega) (by omega)).mpr (Nat.zero_le e)
theorem div16 (e : Nat) {k : Nat} (h1 : 1 ≤ k) (h9 : k ≤ 9) : e / 16 ^ (9 - k) / 16 = e / 16 ^ (9 - (k - 1)) := by
  rw [Nat.div_div_eq_div_mul, show 9 - (k - 1) = (9 - k) + 1 by omega, Nat.pow_succ]
theorem kp_init {b kd e : Nat} {pt : Nat → Int32} : ∀ j, j < 10 → (j < 2 ∨ 9 < j) → upd (upd pt 0 (nI (codeN b))) 1 (nI (codeN kd)) j = nI (kpk b kd e j) := by
  intro x hx h
  rcases (show x = 0 ∨ x = 1 by omega) with rfl | rfl
  · rw [upd_n _ _ (by omega), upd_s, kpk, if_pos rfl]
  · rw [upd_s, kpk, if_neg (by omega), if_pos rfl]
theorem kp_s {b kd e k : Nat} {g : Nat → Int32} (h2 : 2 ≤ k) (h : ∀ j, j < 10 → (j < 2 ∨ k < j) → g j = nI (kpk b kd e j)) : ∀ j, j < 10 → (j < 2 ∨ k - 1 < j) → upd g k (nI (laidN kd (e / 16 ^ (9 - k) % 16))) j = nI (kpk b kd e j) := by
  intro j hj h3
  by_cases c : j = k
  · rw [c, upd_s, kpk, if_neg (by omega), if_neg (by omega)]
  · rw [upd_n _ _ c]; exact h j hj (by omega)
abbrev slc (f : Nat → Int32) (j : Nat) : Nat → Int32 := fun x => f (508 * j + x)
theorem cpy_slc {f g : Nat → Int32} {j : Nat} : ∀ x, x < 508 → va_cpy f g (508 * j) 0 508 x = slc f j x := by
  intro x hx
  simp only [va_cpy]
  rw [if_pos (by omega), Nat.sub_zero]
/-- the octets that came, with one more -/
abbrev ckV (ck : Nat → Nat) (v : Nat) : Nat → Nat := fun j => if j = 9 then v else ck j
theorem ck_ok {cg : Nat → Int32} {ck : Nat → Nat} {v : Nat} {pt : Nat → Int32} (hv : v < 256) (h : ∀ j, j < 9 → cg j = nI (ck j) ∧ ck j < 256) (hp : pt = va_cpy (upd cg 9 (nI v)) pt 0 0 10) : ∀ j, j < 10 → pt j = nI (ckV ck v j) ∧ ckV ck v j < 256 := by
  intro j hj
  rw [hp]
  simp only [va_cpy]
  rw [if_pos (by omega), show 0 + (j - 0) = j by omega]
  by_cases e : j = 9
  · rw [e, upd_s, ckV, if_pos rfl]; exact ⟨rfl, hv⟩
  · rw [upd_n _ _ e, ckV, if_neg e]; exact h j (by omega)
theorem cpy_idem (f g : Nat → Int32) (n : Nat) : va_cpy f g 0 0 n = va_cpy f (va_cpy f g 0 0 n) 0 0 n := by
  funext k
  simp only [va_cpy]
  split
  · rfl
  · rfl
/-- entries of the book -/
abbrev en4 (en : Nat → Int32) (em : Nat) (a b c d : Int32) : Nat → Int32 := upd (upd (upd (upd en (4 * em) a) (4 * em + 1) b) (4 * em + 2) c) (4 * em + 3) d
theorem seed_l {v : Nat} (h : v < 2147483648) : (nI v).toInt64 = lN v := nI_l h
