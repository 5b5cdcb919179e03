/-! PURE WORDS: what is asked of pages; draws. -/
abbrev rowE (f : Nat → Int32) (r : Nat) : Prop := ∀ j, j < 8 → f (8 * r + j) = -1
def acR (f : Nat → Int32) : Nat → Nat
  | 0 => 0
  | r + 1 => acR f r + (if rowE f r then 2 ^ r else 0)
def lacN (f : Nat → Int32) : Nat := acR f 5
def lacM (f : Nat → Int32) : Nat → Nat
  | 0 => 31
  | i + 1 => if f i = -1 then lacM f i else if (lacM f i).testBit (i / 8) then lacM f i - 2 ^ (i / 8) else lacM f i
theorem lacM_lt (f : Nat → Int32) : ∀ i, lacM f i < 32 := by
  intro i
  induction i with
  | zero => exact (by decide : 31 < 32)
  | succ i ih =>
    rw [lacM]
    split
    · exact ih
    · split
      · exact Nat.lt_of_le_of_lt (Nat.sub_le _ _) ih
      · exact ih
theorem and31 : ∀ m, m < 32 → nI m &&& nI 31 = nI m := by decide +kernel
theorem andnot : ∀ m, m < 32 → ∀ r, r < 5 → nI m &&& ((nI 1 <<< (nI r &&& 31)) ^^^ -1) = nI (if m.testBit r then m - 2 ^ r else m) := by decide +kernel
theorem acR_lt (f : Nat → Int32) : ∀ r, acR f r < 2 ^ r := by
  intro r
  induction r with
  | zero => exact (by decide : 0 < 1)
  | succ r ih => rw [acR, Nat.pow_succ]; split <;> omega
theorem tb_1 : ∀ r, r < 5 → ∀ a, a < 32 → a < 2 ^ r → (a + (32 - 2 ^ r)).testBit r = true ∧ (a + (32 - 2 ^ r) - 2 ^ r).testBit r = false ∧ 2 ^ r ≤ 16 := by decide +kernel
theorem lacM_in (f : Nat → Int32) {r M : Nat} (hr : r < 5) (hM : lacM f (8 * r) = M) (ht : M.testBit r = true) (ht2 : (M - 2 ^ r).testBit r = false) : ∀ j, j ≤ 8 → lacM f (8 * r + j) = if (∀ i, i < j → f (8 * r + i) = -1) then M else M - 2 ^ r := by
  intro j
  induction j with
  | zero => intro _; rw [if_pos (fun i hi => absurd hi (Nat.not_lt_zero i))]; exact hM
  | succ j ih =>
    intro hj
    rw [show 8 * r + (j + 1) = (8 * r + j) + 1 by omega, lacM, ih (by omega), show (8 * r + j) / 8 = r by omega]
    by_cases c : f (8 * r + j) = -1
    · rw [if_pos c]
      by_cases c2 : ∀ i, i < j → f (8 * r + i) = -1
      · rw [if_pos c2, if_pos]
        intro i hi
        rcases Nat.lt_or_ge i j with q | q
        · exact c2 i q
        · rw [show i = j by omega]; exact c
      · rw [if_neg c2, if_neg (fun z => c2 (fun i hi => z i (by omega)))]
    · rw [if_neg c, if_neg (c := ∀ i, i < j + 1 → f (8 * r + i) = -1) (fun z => c (z j (by omega)))]
      by_cases c2 : ∀ i, i < j → f (8 * r + i) = -1
      · rw [if_pos c2, ht]; rfl
      · rw [if_neg c2, ht2]; rfl
theorem lacM_r (f : Nat → Int32) : ∀ r, r ≤ 5 → lacM f (8 * r) = acR f r + (32 - 2 ^ r) := by
  intro r
  induction r with
  | zero => intro _; rfl
  | succ r ih =>
    intro hr
    have h0 := ih (by omega)
    have hl := acR_lt f r
    obtain ⟨t1, t2, t3⟩ := tb_1 r (by omega) (acR f r) (by have : 2 ^ r ≤ 16 := (tb_1 r (by omega) 0 (by omega) (Nat.two_pow_pos r)).2.2; omega) hl
    have h := lacM_in f (by omega) h0 t1 t2 8 (Nat.le_refl 8)
    rw [show 8 * (r + 1) = 8 * r + 8 by omega, h, acR, Nat.pow_succ]
    by_cases c : rowE f r
    · rw [if_pos c, if_pos c]; omega
    · rw [if_neg c, if_neg c]; omega
theorem lacM_40 (f : Nat → Int32) : lacM f 40 = lacN f := by
  have h := lacM_r f 5 (Nat.le_refl 5)
  rw [show lacM f 40 = lacM f (8 * 5) from rfl, h]; rfl
theorem lacN_lt (f : Nat → Int32) : lacN f < 32 := acR_lt f 5
abbrev ltF (s : Nat → Int32) (k : Nat) : Nat → Int32 := fun i => s (8 + 50 * k + (10 + i))
abbrev lkL (s : Nat → Int32) (k : Nat) : Nat → Int32 := fun j => s (8 + 50 * k + (6 + j))
abbrev anyL (f : Nat → Int32) (n : Nat) : Prop := ¬ ∀ j, j < n → f j = -1
theorem anyL_y {f : Nat → Int32} {n : Nat} (h : anyL f n) : anyL f (n + 1) := fun q => h (fun j hj => q j (by omega))
theorem anyL_x {f : Nat → Int32} {n : Nat} (h : ¬ f n = -1) : anyL f (n + 1) := fun q => h (q n (by omega))
theorem anyL_n {f : Nat → Int32} {n : Nat} (h : ¬ anyL f n) (h2 : f n = -1) : ¬ anyL f (n + 1) := by
  intro q
  apply h
  intro q2
  apply q
  intro j hj
  rcases Nat.lt_or_ge j n with z | z
  · exact q2 j z
  · rw [show j = n by omega]; exact h2
theorem anyL_0 {f : Nat → Int32} : ¬ anyL f 0 := fun q => q (fun j hj => absurd hj (Nat.not_lt_zero j))
/-- how many times a page takes -/
def lenN (l f : Nat → Int32) : Nat := (if anyL l 4 then 2 else 1) + (5 - pc8 (lacN f))
theorem pcK_5 : ∀ v, v < 32 → pcK v 5 = pc8 v := by decide +kernel
theorem pcK_le (v : Nat) : ∀ k, pcK v k ≤ k := by
  intro k
  induction k with
  | zero => exact Nat.le_refl 0
  | succ k ih => rw [pcK]; omega
theorem xor1 : ∀ b, b < 2 → nI b ^^^ nI 1 = nI (1 - b) := by decide +kernel
def surN (f : Nat → Int32) : Nat → Nat
  | 0 => 0
  | i + 1 => surN f i + (if nI 0 ≤ f i ∧ f i ≤ nI 127 then 1 else 0)
theorem surN_y {f : Nat → Int32} {i : Nat} (h : nI 0 ≤ f i ∧ f i ≤ nI 127) : nI (surN f i + 1) = nI (surN f (i + 1)) := by rw [surN, if_pos h]
theorem surN_n {f : Nat → Int32} {i : Nat} (h : ¬ (nI 0 ≤ f i ∧ f i ≤ nI 127)) : nI (surN f i + 0) = nI (surN f (i + 1)) := by rw [surN, if_neg h]
/-- links -/
abbrev bitI (k : Nat) : Int32 := nI 1 <<< (nI k &&& 31)
abbrev somL (l : Nat → Int32) (x : Int32) (B : Prop) (n : Nat) : Prop := ¬ ∀ j, j < n → ¬ (l j = x ∧ B)
theorem somL_y {l : Nat → Int32} {x : Int32} {B : Prop} {n : Nat} (h : l n = x ∧ B) : somL l x B (n + 1) := fun q => q n (by omega) h
theorem somL_k {l : Nat → Int32} {x : Int32} {B : Prop} {n : Nat} (h : ¬ (l n = x ∧ B)) : somL l x B (n + 1) ↔ somL l x B n := by
  constructor
  · intro q z; apply q; intro j hj
    rcases Nat.lt_or_ge j n with w | w
    · exact z j w
    · rw [show j = n by omega]; exact h
  · intro q z; exact q (fun j hj => z j (by omega))
theorem somL_0 {l : Nat → Int32} {x : Int32} {B : Prop} : ¬ somL l x B 0 := fun q => q (fun j hj => absurd hj (Nat.not_lt_zero j))
theorem or_self3 (a b : Int32) : (a ||| b) ||| b = a ||| b := by
  rw [Int32.or_assoc, Int32.or_self]
def inI (l : Nat → Int32) (x : Int32) (B : Prop) [Decidable B] (a b : Int32) (n : Nat) : Int32 := a ||| (if somL l x B n then b else nI 0)
theorem or_0 (x : Int32) : x ||| nI 0 = x := by show x ||| 0 = x; exact Int32.or_zero
theorem inI_0 {l : Nat → Int32} {x : Int32} {B : Prop} [Decidable B] {a b : Int32} : inI l x B a b 0 = a := by rw [inI, if_neg somL_0, or_0]
theorem inI_y {l : Nat → Int32} {x : Int32} {B : Prop} [Decidable B] {a b : Int32} {n : Nat} (h : l n = x ∧ B) : inI l x B a b n ||| b = inI l x B a b (n + 1) := by
  rw [inI, inI, if_pos (somL_y h)]
  split
  · exact or_self3 a b
  · rw [or_0]
theorem inI_n {l : Nat → Int32} {x : Int32} {B : Prop} [Decidable B] {a b : Int32} {n : Nat} (h : ¬ (l n = x ∧ B)) : inI l x B a b n ||| nI 0 = inI l x B a b (n + 1) := by
  rw [or_0, inI, inI]
  by_cases c : somL l x B n
  · rw [if_pos c, if_pos ((somL_k h).mpr c)]
  · rw [if_neg c, if_neg (fun z => c ((somL_k h).mp z))]
abbrev leads (s : Nat → Int32) (k o : Nat) : Prop := somL (lkL s k) (s (8 + 50 * o + 1)) (s (8 + 50 * k + 0) = s (8 + 50 * o + 0)) 4
def lkd (s : Nat → Int32) (k : Nat) : Nat → Int32
  | 0 => nI 0
  | o + 1 => lkd s k o ||| (if leads s k o then bitI o else nI 0)
theorem lkd_s (s : Nat → Int32) (k o : Nat) : inI (lkL s k) (s (8 + 50 * o + 1)) (s (8 + 50 * k + 0) = s (8 + 50 * o + 0)) (lkd s k o) (bitI o) 4 = lkd s k (o + 1) := by
  rw [inI, lkd]
/-- how far -/
abbrev hasB (set : Int32) (e : Nat) : Prop := (set >>> (nI e &&& 31)) &&& nI 1 = nI 1
def frM (s : Nat → Int32) (pg : Nat) (set a : Int32) : Nat → Int32
  | 0 => a
  | e + 1 => frM s pg set a e ||| (if hasB set e then lkd s e pg else nI 0)
def frS (s : Nat → Int32) (pg other : Nat) : Nat → Nat → Int32 → Int32
  | 0, _, _ => -1
  | n + 1, far, set => if hasB set other then nI far else frS s pg other n (far + 1) (frM s pg set set pg)
/-- draws -/
def lcg (sd : Nat) : Nat := (sd * 1103515245 + 12345) % 2147483648
theorem lcg_lt (sd : Nat) : lcg sd < 2147483648 := Nat.mod_lt _ (by omega)
def lcgI (sd : Nat) : Nat → Nat
  | 0 => sd
  | i + 1 => lcg (lcgI sd i)
theorem lcgI_lt {sd : Nat} (h : sd < 2147483648) : ∀ i, lcgI sd i < 2147483648 := by
  intro i
  cases i with
  | zero => exact h
  | succ i => exact lcg_lt _
theorem lN_lit (n : Nat) : (OfNat.ofNat n : Int64) = lN n := rfl
theorem ltr_lt {v : Nat} (h : v < 128) : ltr v < 256 := by unfold ltr; split <;> omega
theorem laidN_lt {kd v : Nat} (hv : v < 16) : laidN kd v < 256 := by
  unfold laidN
  split
  · exact codeN_lt v hv
  · exact ltr_lt (by omega)
abbrev drB (sd : Nat) : Nat := lcgI sd 1 / 65536 % 4
abbrev drK (sd : Nat) : Nat := lcgI sd 2 / 65536 % 8
abbrev drF (sd j : Nat) : Nat := lcgI sd (j + 1) / 65536 % 10
abbrev drT (sd : Nat) : Nat := lcgI sd 11 / 65536 % 80
def dp0 (sd : Nat) : Nat → Nat := fun j => if j = 0 then codeN (drB sd) else if j = 1 then codeN (drK sd) else laidN (drK sd) (drF sd j)
def dpk (sd : Nat) : Nat → Nat := fun j => if j = drT sd / 8 then dp0 sd j ^^^ 2 ^ (drT sd % 8) else dp0 sd j
theorem dp0_lt (sd j : Nat) : dp0 sd j < 256 := by
  unfold dp0
  split
  · exact codeN_lt _ (Nat.lt_of_lt_of_le (Nat.mod_lt _ (by omega)) (by omega))
  · split
    · exact codeN_lt _ (Nat.lt_of_lt_of_le (Nat.mod_lt _ (by omega)) (by omega))
    · exact laidN_lt (Nat.lt_of_lt_of_le (Nat.mod_lt _ (by omega)) (by omega))
theorem dpk_lt (sd j : Nat) : dpk sd j < 256 := by
  unfold dpk
  split
  · refine xor_lt (dp0_lt _ _) ?_
    have : ∀ b, b < 8 → 2 ^ b < 256 := by decide
    exact this _ (Nat.mod_lt _ (by omega))
  · exact dp0_lt _ _
theorem shl1 : ∀ b, b < 8 → nI 1 <<< (nI b &&& 31) = nI (2 ^ b) := by decide +kernel
def kpk (b kd e : Nat) : Nat → Nat := fun j => if j = 0 then codeN b else if j = 1 then codeN kd else laidN kd (e / 16 ^ (9 - j) % 16)
theorem kpk_lt {b kd : Nat} (e : Nat) (hb : b < 16) (hk : kd < 16) (j : Nat) : kpk b kd e j < 256 := by
  unfold kpk
  split
  · exact codeN_lt _ hb
  · split
    · exact codeN_lt _ hk
    · exact laidN_lt (by omega)
