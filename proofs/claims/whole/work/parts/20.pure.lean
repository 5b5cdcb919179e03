/-! PURE WORDS: codes, counts of bits, rows filled. -/
theorem and15 {v : Nat} (h : v < 16) : nI v &&& nI 15 = nI v := (pk_andN (by omega) 4 rfl).trans (congrArg nI (Nat.mod_eq_of_lt h))
def pc8 (n : Nat) : Nat := n % 2 + n / 2 % 2 + n / 4 % 2 + n / 8 % 2 + n / 16 % 2 + n / 32 % 2 + n / 64 % 2 + n / 128 % 2
def codeN (v : Nat) : Nat := ([21, 2, 73, 94, 100, 115, 56, 47, 208, 199, 140, 155, 161, 182, 253, 234] : List Nat).getD v 0
theorem codeT_nI : ∀ v, v < 16 → codeT v = nI (codeN v) := by decide +kernel
theorem codeN_lt : ∀ v, v < 16 → codeN v < 256 := by decide +kernel
/-- the number that an octet is read as (16: none), from v on -/
def decS (o : Nat) : Nat → Nat → Nat
  | 0, v => v
  | n + 1, v => if pc8 (o ^^^ codeN v) ≤ 1 then v else decS o n (v + 1)
def decN (o : Nat) : Nat := decS o 16 0
def dec (o : Nat) : Int32 := if decN o < 16 then nI (decN o) else -1
def bc1 (x : Int32) : Int32 := x - ((x.toUInt32 >>> ((nI 1).toUInt32 &&& Int32.toUInt32 31)).toInt32 &&& nI 1431655765)
def bc2 (x : Int32) : Int32 := (x &&& nI 858993459) + ((x.toUInt32 >>> ((nI 2).toUInt32 &&& Int32.toUInt32 31)).toInt32 &&& nI 858993459)
def bc3 (x : Int32) : Int32 := (x + (x.toUInt32 >>> ((nI 4).toUInt32 &&& Int32.toUInt32 31)).toInt32) &&& nI 252645135
def bc4 (x : Int32) : Int32 := x + (x.toUInt32 >>> ((nI 8).toUInt32 &&& Int32.toUInt32 31)).toInt32
def bc5 (x : Int32) : Int32 := x + (x.toUInt32 >>> ((nI 16).toUInt32 &&& Int32.toUInt32 31)).toInt32
theorem bc_ok : ∀ n, n < 256 → bc5 (bc4 (bc3 (bc2 (bc1 (nI n))))) &&& nI 63 = nI (pc8 n) := by decide +kernel
theorem xor_nI (a b : Nat) : nI a ^^^ nI b = nI (a ^^^ b) := by
  apply Int32.toBitVec_inj.mp
  simp [nI, BitVec.ofNat_xor]
theorem xor_lt {a b : Nat} (ha : a < 256) (hb : b < 256) : a ^^^ b < 256 := Nat.xor_lt_two_pow (n := 8) ha hb
theorem pc8_le (n : Nat) : pc8 n ≤ 8 := by unfold pc8; omega
/-- a row filled from lo to hi -/
def fillF (f : Nat → Int32) (lo hi : Nat) (v : Int32) : Nat → Int32 := fun j => if lo ≤ j ∧ j < hi then v else f j
theorem fillF_0 (f : Nat → Int32) (lo : Nat) (v : Int32) : fillF f lo lo v = f := by
  funext j; simp only [fillF]; rw [if_neg (by omega)]
theorem fillF_s (f : Nat → Int32) {lo i : Nat} (v : Int32) (h : lo ≤ i) : upd (fillF f lo i v) i v = fillF f lo (i + 1) v := by
  funext j
  simp only [fillF, upd]
  by_cases e : j = i
  · rw [if_pos e, if_pos (by omega)]
  · rw [if_neg e]
    by_cases e2 : lo ≤ j ∧ j < i
    · rw [if_pos e2, if_pos (by omega)]
    · rw [if_neg e2, if_neg (by omega)]
/-- a number of a page -/
abbrev hasP (pg : Nat) (k : Int32) : Prop := 0 ≤ k.toInt ∧ k.toInt < pg
theorem has_of {pg : Nat} {k : Int32} (h : hasP pg k) : ∃ j : Nat, j < pg ∧ k = nI j := by
  refine ⟨k.toInt.toNat, by have := h.1; have := h.2; omega, ?_⟩
  apply Int32.toInt_inj.mp
  have h3 : k.toInt < 2147483648 := Int32.toInt_lt k
  rw [nI_toInt (by have := h.1; omega)]
  have := h.1
  omega
theorem has_nI {pg j : Nat} (h : j < pg) (hp : pg < 2147483648) : hasP pg (nI j) := by
  unfold hasP
  rw [nI_toInt (by omega)]
  omega
theorem has_iff {pg : Nat} (hp : pg < 2147483648) (k : Int32) : (nI 0 ≤ k ∧ k ≤ nI pg - nI 1) ↔ hasP pg k := by
  unfold hasP
  rw [Int32.le_iff_toInt_le, Int32.le_iff_toInt_le]
  rw [nI_toInt (n := 0) (by omega)]
  have e : (nI pg - nI 1).toInt = (pg : Int) - 1 := by
    rcases Nat.eq_zero_or_pos pg with q | q
    · subst q; rfl
    · rw [pk_sub q, nI_toInt (by omega)]; omega
  rw [e]
  omega
theorem or128 : ∀ n, n < 128 → nI n ||| nI 128 = nI (n + 128) := by decide +kernel
