/-! PURE WORDS of the reference: codes, mended octets, pages. -/
theorem in_of {x : Int32} {b : Nat} (hb : b < 2147483648) (h : nI 0 ≤ x ∧ x ≤ nI b) : ∃ j : Nat, j ≤ b ∧ x = nI j := by
  have h1 := Int32.le_iff_toInt_le.mp h.1
  have h2 := Int32.le_iff_toInt_le.mp h.2
  rw [nI_toInt (by omega)] at h1
  rw [nI_toInt (by omega)] at h2
  refine ⟨x.toInt.toNat, by omega, Int32.toInt_inj.mp ?_⟩
  rw [nI_toInt (by omega)]
  omega
theorem in_of1 {x : Int32} {a b : Nat} (hb : b < 2147483648) (ha : a ≤ b) (h : nI a ≤ x ∧ x ≤ nI b) : ∃ j : Nat, a ≤ j ∧ j ≤ b ∧ x = nI j := by
  have h1 := Int32.le_iff_toInt_le.mp h.1
  have h2 := Int32.le_iff_toInt_le.mp h.2
  rw [nI_toInt (by omega)] at h1
  rw [nI_toInt (by omega)] at h2
  refine ⟨x.toInt.toNat, by omega, by omega, Int32.toInt_inj.mp ?_⟩
  rw [nI_toInt (by omega)]
  omega
theorem in_nI {j b : Nat} (h : j ≤ b) (hb : b < 2147483648) : nI 0 ≤ nI j ∧ nI j ≤ nI b := ⟨nI_le (by omega) (by omega), nI_le h hb⟩
theorem toI64_le (x y : Int32) : x.toInt64 ≤ y.toInt64 ↔ x ≤ y := by
  rw [Int64.le_iff_toInt_le, Int32.le_iff_toInt_le, Int32.toInt_toInt64, Int32.toInt_toInt64]
theorem toI64_lt (x y : Int32) : x.toInt64 < y.toInt64 ↔ x < y := by
  rw [Int64.lt_iff_toInt_lt, Int32.lt_iff_toInt_lt, Int32.toInt_toInt64, Int32.toInt_toInt64]
theorem upd_s (f : Nat → Int32) (k : Nat) (x : Int32) : upd f k x k = x := by simp [upd]
theorem upd_n (f : Nat → Int32) {k j : Nat} (x : Int32) (h : j ≠ k) : upd f k x j = f j := by simp [upd, h]
theorem upd2 (f : Nat → Int32) (k : Nat) (x y : Int32) : upd (upd f k x) k y = upd f k y := by
  funext j; simp only [upd]; split <;> rfl
theorem upd_id (f : Nat → Int32) (k : Nat) : upd f k (f k) = f := by
  funext j; simp only [upd]; split
  · next h => rw [h]
  · rfl
theorem upd_id' (f : Nat → Int32) {k : Nat} {x : Int32} (h : f k = x) : upd f k x = f := by rw [← h]; exact upd_id f k
/-- bits counted from below -/
def pcK (v : Nat) : Nat → Nat
  | 0 => 0
  | k + 1 => pcK v k + v / 2 ^ k % 2
theorem pcK_8 (v : Nat) : pcK v 8 = pc8 v := by simp [pcK, pc8]
theorem bit_nI {v k : Nat} (hv : v < 2147483648) (hk : k < 32) : (nI v >>> (nI k &&& 31)) &&& nI 1 = nI (v / 2 ^ k % 2) := by
  have e : ((nI k &&& 31).toBitVec.smod 32).toNat = k := by
    have h : ∀ k, k < 32 → ((nI k &&& 31).toBitVec.smod 32).toNat = k := by decide +kernel
    exact h k hk
  rw [pk_shrN hv _ k e]
  exact pk_andN (by have := Nat.div_le_self v (2 ^ k); omega) 1 rfl
theorem rem2_nI {v d : Nat} (hv : v < 2147483648) (h0 : 0 < d) (hd : d < 2147483648) : nI v - nI v / nI d * nI d = nI (v % d) := pk_rem hv h0 hd
abbrev mendB (o : Nat) : Prop := decN o < 16 ∧ ¬ codeN (decN o) = o
theorem decS_le (o : Nat) : ∀ n v, decS o n v ≤ n + v := by
  intro n
  induction n with
  | zero => intro v; simp [decS]
  | succ n ih => intro v; rw [decS]; split; omega; have := ih (v + 1); omega
theorem decN_le (o : Nat) : decN o ≤ 16 := decS_le o 16 0
theorem dec_m1 {o : Nat} : dec o = -1 ↔ ¬ decN o < 16 := by
  unfold dec
  split
  · next h => 
    constructor
    · intro q
      have := congrArg Int32.toInt q
      rw [nI_toInt (by omega)] at this
      exact absurd this (by have e : (-1 : Int32).toInt = -1 := by decide
                            omega)
    · intro q; exact absurd h q
  · next h => exact ⟨fun _ => h, fun _ => rfl⟩
theorem dec_nat {o : Nat} (h : ¬ dec o = -1) : dec o = nI (decN o) ∧ decN o < 16 := by
  have h2 : decN o < 16 := Classical.byContradiction fun q => h (dec_m1.mpr q)
  exact ⟨by rw [dec, if_pos h2], h2⟩
theorem dec_in {o b : Nat} (hb : b < 16) : (nI 0 ≤ dec o ∧ dec o ≤ nI b) ↔ decN o ≤ b := by
  unfold dec
  split
  · next h =>
    rw [nI_leI (by omega) (by omega), nI_leI (by omega) (by omega)]
    omega
  · next h =>
    constructor
    · intro q; exact absurd q.1 (by decide)
    · intro q; omega
/-- the last number whose code is near -/
def decL (o : Nat) : Nat → Int32
  | 0 => -1
  | v + 1 => if pc8 (codeN v ^^^ o) < 2 then nI v else decL o v
theorem decL_16 : ∀ o, o < 256 → decL o 16 = dec o := by decide +kernel
def mend1 (o : Nat) (x : Int32) : Int32 := if mendB o ∧ x < 99999 then x + 1 else x
def mdF (pk : Nat → Nat) (a : Nat) : Nat → Int32 → Int32
  | 0, x => x
  | n + 1, x => mend1 (pk (a + n)) (mdF pk a n x)
theorem mdF_s (pk : Nat → Nat) {a k : Nat} (x : Int32) (h : a ≤ k) : mdF pk a (k + 1 - a) x = mend1 (pk k) (mdF pk a (k - a) x) := by
  rw [show k + 1 - a = (k - a) + 1 by omega, mdF, show a + (k - a) = k by omega]
/-- the cells of pages -/
abbrev cel (s : Nat → Int32) : Nat → Nat → Int32 := fun k j => s (8 + 50 * k + j)
abbrev mtch (f : Nat → Nat → Int32) (b n p : Int32) (k : Nat) : Prop := f k 0 = b ∧ f k 1 = n ∧ f k 2 = p
def srch (f : Nat → Nat → Int32) (b n p : Int32) : Nat → Nat → Nat
  | 0, k => k
  | t + 1, k => if mtch f b n p k then k else srch f b n p t (k + 1)
theorem srch_y {f : Nat → Nat → Int32} {b n p : Int32} {pg k : Nat} (h : k < pg) (hm : mtch f b n p k) : srch f b n p (pg - k) k = k := by
  rw [show pg - k = (pg - (k + 1)) + 1 by omega, srch, if_pos hm]
theorem srch_n {f : Nat → Nat → Int32} {b n p : Int32} {pg k : Nat} (h : k < pg) (hm : ¬ mtch f b n p k) : srch f b n p (pg - k) k = srch f b n p (pg - (k + 1)) (k + 1) := by
  rw [show pg - k = (pg - (k + 1)) + 1 by omega, srch, if_neg hm]
theorem srch_le (f : Nat → Nat → Int32) (b n p : Int32) : ∀ t k, srch f b n p t k ≤ t + k := by
  intro t
  induction t with
  | zero => intro k; simp [srch]
  | succ t ih => intro k; rw [srch]; split; omega; have := ih (k + 1); omega
def fdI (i pg : Nat) : Int32 := if i < pg then nI i else -1
/-- a page goes -/
def shF (s : Nat → Int32) (a i : Nat) : Nat → Int32 := fun x => if a ≤ x ∧ x < i then s (x + 50) else s x
theorem shF_0 (s : Nat → Int32) (a : Nat) : shF s a a = s := by
  funext x; simp only [shF]; rw [if_neg (by omega)]
theorem shF_s (s : Nat → Int32) {a i : Nat} (h : a ≤ i) : upd (shF s a i) i (shF s a i (i + 50)) = shF s a (i + 1) := by
  funext x
  simp only [shF, upd]
  rw [if_neg (show ¬ (a ≤ i + 50 ∧ i + 50 < i) by omega)]
  by_cases e : x = i
  · rw [if_pos e, if_pos (by omega), e]
  · rw [if_neg e]
    by_cases e2 : a ≤ x ∧ x < i
    · rw [if_pos e2, if_pos (by omega)]
    · rw [if_neg e2, if_neg (by omega)]
theorem shF_lo (s : Nat → Int32) {a i x : Nat} (h : x < a) : shF s a i x = s x := by simp only [shF]; rw [if_neg (by omega)]
def shO (o : Int32) (page : Nat) : Int32 := if o = nI page then -1 else if nI page < o then o - 1 else o
def shP (s : Nat → Int32) (page b : Nat) : Nat → Int32 := fun x => if 4 ≤ x ∧ x < 4 + b then shO (s x) page else s x
theorem shP_0 (s : Nat → Int32) (page : Nat) : shP s page 0 = s := by
  funext x; simp only [shP]; rw [if_neg (by omega)]
theorem shP_g (s : Nat → Int32) (page b : Nat) : shP s page b (4 + b) = s (4 + b) := by simp only [shP]; rw [if_neg (by omega)]
theorem shP_s (s : Nat → Int32) (page b : Nat) {v : Int32} (h : v = shO (s (4 + b)) page) : upd (shP s page b) (4 + b) v = shP s page (b + 1) := by
  funext x
  simp only [shP, upd]
  by_cases e : x = 4 + b
  · rw [if_pos e, if_pos (by omega), h, e]
  · rw [if_neg e]
    by_cases e2 : 4 ≤ x ∧ x < 4 + b
    · rw [if_pos e2, if_pos (by omega)]
    · rw [if_neg e2, if_neg (by omega)]
def goesF (s : Nat → Int32) (pg page : Nat) : Nat → Int32 := shP (upd (shF s (8 + 50 * page) (8 + 50 * (pg - 1))) 0 (nI (pg - 1))) page 4
theorem goesF_0 (s : Nat → Int32) (pg page : Nat) : goesF s pg page 0 = nI (pg - 1) := by
  simp only [goesF, shP]; rw [if_neg (by omega), upd_s]
/-- the page whose number is least -/
def oldS (t : Nat → Int32) : Nat → Nat
  | 0 => 0
  | n + 1 => if t (n + 1) < t (oldS t n) then n + 1 else oldS t n
theorem oldS_le (t : Nat → Int32) : ∀ n, oldS t n ≤ n := by
  intro n
  induction n with
  | zero => exact Nat.le_refl 0
  | succ n ih => rw [oldS]; split <;> omega
abbrev latF (s : Nat → Int32) : Nat → Int32 := fun k => s (8 + 50 * k + 5)
def put5 (s : Nat → Int32) (k : Nat) (b n p : Int32) : Nat → Int32 := upd (upd (upd (upd (upd s (8 + 50 * k + 0) b) (8 + 50 * k + 1) n) (8 + 50 * k + 2) p) (8 + 50 * k + 3) (nI 0)) (8 + 50 * k + 4) (nI 1)
def empF (s : Nat → Int32) (k : Nat) : Nat → Int32 := fillF s (8 + 50 * k + 6) (8 + 50 * k + 50) (-1)
def newK (pg : Nat) : Nat := if pg = 10 then 9 else pg
def newB (s : Nat → Int32) (pg : Nat) : Nat → Int32 := if pg = 10 then goesF s 10 (oldS (latF s) 9) else s
def newF (s : Nat → Int32) (pg : Nat) (b n p : Int32) : Nat → Int32 := empF (put5 (upd (newB s pg) 0 (nI (newK pg + 1))) (newK pg) b n p) (newK pg)
theorem add_0 (x : Int32) : x + nI 0 = x := by
  show x + 0 = x
  exact Int32.add_zero x
theorem or0 (n : Nat) : nI n ||| nI 0 = nI n := by
  show nI n ||| 0 = nI n
  exact Int32.or_zero
