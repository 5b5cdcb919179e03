/-! PURE WORDS for the class: what its state's methods leave. -/
def rmF (cs : Nat → Int32) (pg k : Nat) : Nat → Int32 := va_cpy cs cs ((k + 1) * 50) (k * 50) ((pg - 1 - k) * 50)
def shQ (op : Nat → Int32) (k b : Nat) : Nat → Int32 := fun x => if x < b then shO (op x) k else op x
theorem shQ_0 (op : Nat → Int32) (k : Nat) : shQ op k 0 = op := by funext x; simp only [shQ]; rw [if_neg (by omega)]
theorem shQ_g (op : Nat → Int32) (k b : Nat) : shQ op k b b = op b := by simp only [shQ]; rw [if_neg (by omega)]
theorem shQ_s (op : Nat → Int32) (k b : Nat) {v : Int32} (h : v = shO (op b) k) : upd (shQ op k b) b v = shQ op k (b + 1) := by
  funext x
  simp only [shQ, upd]
  by_cases e : x = b
  · rw [if_pos e, if_pos (by omega), h, e]
  · rw [if_neg e]
    by_cases e2 : x < b
    · rw [if_pos e2, if_pos (by omega)]
    · rw [if_neg e2, if_neg (by omega)]
theorem shQ_k (op : Nat → Int32) (k b : Nat) (h : op b = shO (op b) k) : shQ op k b = shQ op k (b + 1) := by
  rw [← shQ_s op k b h, upd_id' _ (shQ_g _ _ _)]
def apF (cs : Nat → Int32) (pg : Nat) (b n p : Int32) : Nat → Int32 := fillF (upd (upd (upd (upd (upd cs (pg * 50 + 0) b) (pg * 50 + 1) n) (pg * 50 + 2) p) (pg * 50 + 3) (nI 0)) (pg * 50 + 4) (nI 1)) (pg * 50 + 6) ((pg + 1) * 50) (-1)
def clF (cs : Nat → Int32) (k : Nat) : Nat → Int32 := fillF cs (k * 50 + 6) ((k + 1) * 50) (-1)
abbrev latA (cs : Nat → Int32) : Nat → Int32 := fun k => cs (k * 50 + 5)
abbrev mnI (x : Int32) : Int32 := if nI 9999 < x then nI 9999 else x
def finF (c : Nat → Int32) (k hd : Nat) : Nat → Int32 := upd (upd c (k * 50 + 5) (nI (hd + 1))) (k * 50 + 3) (mnI (upd c (k * 50 + 5) (nI (hd + 1)) (k * 50 + 3) + nI 1))
theorem finF_eq (c : Nat → Int32) (k hd : Nat) : finF c k hd = upd (upd c (k * 50 + 5) (nI (hd + 1))) (k * 50 + 3) (mnI (c (k * 50 + 3) + nI 1)) := by
  unfold finF
  rw [upd_n c _ (show k * 50 + 3 ≠ k * 50 + 5 by omega)]
/-- what opening a page leaves: found; room made; behind the others -/
def opnR (cs op : Nat → Int32) (pg hd b i : Nat) (n p : Int32) (cs2 op2 : Nat → Int32) (pg2 k : Nat) : Prop :=
  (i < pg ∧ k = i ∧ pg2 = pg ∧ cs2 = finF cs i hd ∧ op2 = upd op b (nI i)) ∨
  (¬ i < pg ∧ pg = 10 ∧ k = 9 ∧ pg2 = 10 ∧ cs2 = finF (apF (rmF cs 10 (oldS (latA cs) 9)) 9 (nI b) n p) 9 hd ∧ op2 = upd (shQ op (oldS (latA cs) 9) 4) b (nI 9)) ∨
  (¬ i < pg ∧ pg < 10 ∧ k = pg ∧ pg2 = pg + 1 ∧ cs2 = finF (apF cs pg (nI b) n p) pg hd ∧ op2 = upd op b (nI pg))
theorem ns_iff {x : Int32} (h : -1 ≤ x) (h2 : ¬ (nI 0 ≤ x ∧ x ≤ nI 127)) : x = -1 ∨ nI 127 < x := by
  have h1 := Int32.le_iff_toInt_le.mp h
  rw [show (-1 : Int32).toInt = -1 by decide] at h1
  rw [Int32.le_iff_toInt_le, Int32.le_iff_toInt_le, nI_toInt (by omega), nI_toInt (by omega)] at h2
  by_cases c : x.toInt = -1
  · left; apply Int32.toInt_inj.mp; rw [c]; decide
  · right; rw [Int32.lt_iff_toInt_lt, nI_toInt (by omega)]; omega
theorem ns_neg {x : Int32} (h2 : nI 0 ≤ x ∧ x ≤ nI 127) : ¬ (x = -1 ∨ nI 127 < x) := by
  rintro (q | q)
  · rw [q] at h2; exact absurd h2.1 (by decide)
  · exact Int32.not_lt.mpr h2.2 q
abbrev numI (u t : Nat) : Int32 := if decN u ≤ 9 ∧ decN t ≤ 9 then nI (10 * decN t + decN u) else -1
theorem numI_m1 {u t : Nat} : numI u t = -1 ↔ ¬ (decN u ≤ 9 ∧ decN t ≤ 9) := by
  unfold numI
  split
  · next h => exact ⟨fun q => absurd q (nI_m1 (by omega)), fun q => absurd h q⟩
  · next h => exact ⟨fun _ => h, fun _ => rfl⟩
theorem numI_y {u t : Nat} (h : decN u ≤ 9 ∧ decN t ≤ 9) : numI u t = nI (10 * decN t + decN u) := if_pos h
theorem lk1_y {x : Int32} {u t : Nat} (h : ¬ numI u t = -1) : numI u t = lk1 x u t := by
  have h2 : decN u ≤ 9 ∧ decN t ≤ 9 := Classical.byContradiction fun q => h (numI_m1.mpr q)
  rw [lk1, if_pos h2, numI_y h2]
theorem lk1_n {x : Int32} {u t : Nat} (h : numI u t = -1) : x = lk1 x u t := by rw [lk1, if_neg (numI_m1.mp h)]
theorem has_m1 (pg : Nat) : ¬ hasP pg (-1) := by
  rintro ⟨h, -⟩
  rw [show (-1 : Int32).toInt = -1 by decide] at h
  omega
