/-! PURE WORDS of the reference: codes, mended octets, pages. -/
theorem in_of {x : Int32} {b : Nat} (hb : b < 2147483648) (h : nI 0 ≤ x ∧ x ≤ nI b) : ∃ j : Nat, j ≤ b ∧ x = nI j := by
  have h1 := Int32.le_iff_toInt_le.mp h.1
  have h2 := Int32.le_iff_toInt_le.mp h.2
  rw [nI_toInt (by omega)] at h1
  rw [nI_toInt (by omega)] at h2
  refine ⟨x.toInt.toNat, by omega, Int32.toInt_inj.mp ?_⟩
  rw [nI_toInt (by omega)]
  omega
theorem in_of1 {x : Int32} {a b : Nat} (hb : b < 2147483648) (ha : a ≤ b) (h : nI a ≤ x ∧ x ≤ nI b) : ∃ j : Nat, a ≤ j ∧ j ≤ b ∧ x = nI j := by
  have h1 := Int32.le_iff_toInt_le.mp h.1
  have h2 := Int32.le_iff_toInt_le.mp h.2
  rw [nI_toInt (by omega)] at h1
  rw [nI_toInt (by omega)] at h2
  refine ⟨x.toInt.toNat, by omega, by omega, Int32.toInt_inj.mp ?_⟩
  rw [nI_toInt (by omega)]
  omega
theorem in_nI {j b : Nat} (h : j ≤ b) (hb : b < 2147483648) : nI 0 ≤ nI j ∧ nI j ≤ nI b := ⟨nI_le (by omega) (by omega), nI_le h hb⟩
theorem toI64_le (x y : Int32) : x.toInt64 ≤ y.toInt64 ↔ x ≤ y := by
  rw [Int64.le_iff_toInt_le, Int32.le_iff_toInt_le, Int32.toInt_toInt64, Int32.toInt_toInt64]
theorem toI64_lt (x y : Int32) : x.toInt64 < y.toInt64 ↔ x < y := by
  rw [Int64.lt_iff_toInt_lt, Int32.lt_iff_toInt_lt, Int32.toInt_toInt64, Int32.toInt_toInt64]
theorem upd_s (f : Nat → Int32) (k : Nat) (x : Int32) : upd f k x k = x := by simp [upd]
theorem upd_n (f : Nat → Int32) {k j : Nat} (x : Int32) (h : j ≠ k) : upd f k x j = f j := by simp [upd, h]
theorem upd2 (f : Nat → Int32) (k : Nat) (x y : Int32) : upd (upd f k x) k y = upd f k y := by
  funext j; simp only [upd]; split <;> rfl
theorem upd_id (f : Nat → Int32) (k : Nat) : upd f k (f k) = f := by
  funext j; simp only [upd]; split
  · next h => rw [h]
  · rfl
theorem upd_id' (f : Nat → Int32) {k : Nat} {x : Int32} (h : f k = x) : upd f k x = f := by rw [← h]; exact upd_id f k
/-- bits counted from below -/
def pcK (v : Nat) : Nat → Nat
  | 0 => 0
  | k + 1 => pcK v k + v / 2 ^ k % 2
theorem pcK_8 (v : Nat) : pcK v 8 = pc8 v := by simp [pcK, pc8]
theorem bit_nI {v k : Nat} (hv : v < 2147483648) (hk : k < 32) : (nI v >>> (nI k &&& 31)) &&& nI 1 = nI (v / 2 ^ k % 2) := by
  have e : ((nI k &&& 31).toBitVec.smod 32).toNat = k := by
    have h : ∀ k, k < 32 → ((nI k &&& 31).toBitVec.smod 32).toNat = k := by decide +kernel
    exact h k hk
  rw [pk_shrN hv _ k e]
  exact pk_andN (by have := Nat.div_le_self v (2 ^ k); omega) 1 rfl
theorem rem2_nI {v d : Nat} (hv : v < 2147483648) (h0 : 0 < d) (hd : d < 2147483648) : nI v - nI v / nI d * nI d = nI (v % d) := pk_rem hv h0 hd
abbrev mendB (o : Nat) : Prop := decN o < 16 ∧ ¬ codeN (decN o) = o
theorem decS_le (o : Nat) : ∀ n v, decS o n v ≤ n + v := by
  intro n
  induction n with
  | zero => intro v; simp [decS]
  | succ n ih => intro v; rw [decS]; split; omega; have := ih (v + 1); omega
theorem decN_le (o : Nat) : decN o ≤ 16 := decS_le o 16 0
theorem dec_m1 {o : Nat} : dec o = -1 ↔ ¬ decN o < 16 := by
  unfold dec
  split
  · next h => 
    constructor
    · intro q
      have := congrArg Int32.toInt q
      rw [nI_toInt (by omega)] at this
      exact absurd this (by have e : (-1 : Int32).toInt = -1 := by decide
                            omega)
    · intro q; exact absurd h q
  · next h => exact ⟨fun _ => h, fun _ => rfl⟩
theorem dec_nat {o : Nat} (h : ¬ dec o = -1) : dec o = nI (decN o) ∧ decN o < 16 := by
  have h2 : decN o < 16 := Classical.byContradiction fun q => h (dec_m1.mpr q)
  exact ⟨by rw [dec, if_pos h2], h2⟩
theorem dec_in {o b : Nat} (hb : b < 16) : (nI 0 ≤ dec o ∧ dec o ≤ nI b) ↔ decN o ≤ b := by
  unfold dec
  split
  · next h =>
    rw [nI_leI (by omega) (by omega), nI_leI (by omega) (by omega)]
    omega
  · next h =>
    constructor
    · intro q; exact absurd q.1 (by decide)
    · intro q; omega
/-- the last number whose code is near -/
def decL (o : Nat) : Nat → Int32
  | 0 => -1
  | v + 1 => if pc8 (codeN v ^^^ o) < 2 then nI v else decL o v
theorem decL_16 : ∀ o, o < 256 → decL o 16 = dec o := by decide +kernel
def mend1 (o : Nat) (x : Int32) : Int32 := if mendB o ∧ x < 99999 then x + 1 else x
def mdF (pk : Nat → Nat) (a : Nat) : Nat → Int32 → Int32
  | 0, x => x
  | n + 1, x => mend1 (pk (a + n)) (mdF pk a n x)
theorem mdF_s (pk : Nat → Nat) {a k : Nat} (x : Int32) (h : a ≤ k) : mdF pk a (k + 1 - a) x = mend1 (pk k) (mdF pk a (k - a) x) := by
  rw [show k + 1 - a = (k - a) + 1 by omega, mdF, show a + (k - a) = k by omega]
/-- the cells of pages -/
abbrev cel (s : Nat → Int32) : Nat → Nat → Int32 := fun k j => s (8 + 50 * k + j)
abbrev mtch (f : Nat → Nat → Int32) (b n p : Int32) (k : Nat) : Prop := f k 0 = b ∧ f k 1 = n ∧ f k 2 = p
def srch (f : Nat → Nat → Int32) (b n p : Int32) : Nat → Nat → Nat
  | 0, k => k
  | t + 1, k => if mtch f b n p k then k else srch f b n p t (k + 1)
theorem srch_y {f : Nat → Nat → Int32} {b n p : Int32} {pg k : Nat} (h : k < pg) (hm : mtch f b n p k) : srch f b n p (pg - k) k = k := by
  rw [show pg - k = (pg - (k + 1)) + 1 by omega, srch, if_pos hm]
theorem srch_n {f : Nat → Nat → Int32} {b n p : Int32} {pg k : Nat} (h : k < pg) (hm : ¬ mtch f b n p k) : srch f b n p (pg - k) k = srch f b n p (pg - (k + 1)) (k + 1) := by
  rw [show pg - k = (pg - (k + 1)) + 1 by omega, srch, if_neg hm]
theorem srch_le (f : Nat → Nat → Int32) (b n p : Int32) : ∀ t k, srch f b n p t k ≤ t + k := by
  intro t
  induction t with
  | zero => intro k; simp [srch]
  | succ t ih => intro k; rw [srch]; split; omega; have := ih (k + 1); omega
def fdI (i pg : Nat) : Int32 := if i < pg then nI i else -1
/-- a page goes -/
def shF (s : Nat → Int32) (a i : Nat) : Nat → Int32 := fun x => if a ≤ x ∧ x < i then s (x + 50) else s x
theorem shF_0 (s : Nat → Int32) (a : Nat) : shF s a a = s := by
  funext x; simp only [shF]; rw [if_neg (by omega)]
theorem shF_s (s : Nat → Int32) {a i : Nat} (h : a ≤ i) : upd (shF s a i) i (shF s a i (i + 50)) = shF s a (i + 1) := by
  funext x
  simp only [shF, upd]
  rw [if_neg (show ¬ (a ≤ i + 50 ∧ i + 50 < i) by omega)]
  by_cases e : x = i
  · rw [if_pos e, if_pos (by omega), e]
  · rw [if_neg e]
    by_cases e2 : a ≤ x ∧ x < i
    · rw [if_pos e2, if_pos (by omega)]
    · rw [if_neg e2, if_neg (by omega)]
theorem shF_lo (s : Nat → Int32) {a i x : Nat} (h : x < a) : shF s a i x = s x := by simp only [shF]; rw [if_neg (by omega)]
def shO (o : Int32) (page : Nat) : Int32 := if o = nI page then -1 else if nI page < o then o - 1 else o
def shP (s : Nat → Int32) (page b : Nat) : Nat → Int32 := fun x => if 4 ≤ x ∧ x < 4 + b then shO (s x) page else s x
theorem shP_0 (s : Nat → Int32) (page : Nat) : shP s page 0 = s := by
  funext x; simp only [shP]; rw [if_neg (by omega)]
theorem shP_g (s : Nat → Int32) (page b : Nat) : shP s page b (4 + b) = s (4 + b) := by simp only [shP]; rw [if_neg (by omega)]
theorem shP_s (s : Nat → Int32) (page b : Nat) {v : Int32} (h : v = shO (s (4 + b)) page) : upd (shP s page b) (4 + b) v = shP s page (b + 1) := by
  funext x
  simp only [shP, upd]
  by_cases e : x = 4 + b
  · rw [if_pos e, if_pos (by omega), h, e]
  · rw [if_neg e]
    by_cases e2 : 4 ≤ x ∧ x < 4 + b
    · rw [if_pos e2, if_pos (by omega)]
    · rw [if_neg e2, if_neg (by omega)]
def goesF (s : Nat → Int32) (pg page : Nat) : Nat → Int32 := shP (upd (shF s (8 + 50 * page) (8 + 50 * (pg - 1))) 0 (nI (pg - 1))) page 4
theorem goesF_0 (s : Nat → Int32) (pg page : Nat) : goesF s pg page 0 = nI (pg - 1) := by
  simp only [goesF, shP]; rw [if_neg (by omega), upd_s]
/-- the page whose number is least -/
def oldS (t : Nat → Int32) : Nat → Nat
  | 0 => 0
  | n + 1 => if t (n + 1) < t (oldS t n) then n + 1 else oldS t n
theorem oldS_le (t : Nat → Int32) : ∀ n, oldS t n ≤ n := by
  intro n
  induction n with
  | zero => exact Nat.le_refl 0
  | succ n ih => rw [oldS]; split <;> omega
abbrev latF (s : Nat → Int32) : Nat → Int32 := fun k => s (8 + 50 * k + 5)
def put5 (s : Nat → Int32) (k : Nat) (b n p : Int32) : Nat → Int32 := upd (upd (upd (upd (upd s (8 + 50 * k + 0) b) (8 + 50 * k + 1) n) (8 + 50 * k + 2) p) (8 + 50 * k + 3) (nI 0)) (8 + 50 * k + 4) (nI 1)
def empF (s : Nat → Int32) (k : Nat) : Nat → Int32 := fillF s (8 + 50 * k + 6) (8 + 50 * k + 50) (-1)
def newK (pg : Nat) : Nat := if pg = 10 then 9 else pg
def newB (s : Nat → Int32) (pg : Nat) : Nat → Int32 := if pg = 10 then goesF s 10 (oldS (latF s) 9) else s
def newF (s : Nat → Int32) (pg : Nat) (b n p : Int32) : Nat → Int32 := empF (put5 (upd (newB s pg) 0 (nI (newK pg + 1))) (newK pg) b n p) (newK pg)
theorem add_0 (x : Int32) : x + nI 0 = x := by
  show x + 0 = x
  exact Int32.add_zero x
theorem or0 (n : Nat) : nI n ||| nI 0 = nI n := by
  show nI n ||| 0 = nI n
  exact Int32.or_zero
/-! what a packet does -/
theorem dec_lt {o : Nat} (h : decN o < 16) : dec o = nI (decN o) := by rw [dec, if_pos h]
theorem fdI_nat {i pg : Nat} (h : ¬ fdI i pg = -1) : fdI i pg = nI i ∧ i < pg := by
  unfold fdI at h ⊢
  split
  · next q => exact ⟨rfl, q⟩
  · next q => rw [if_neg q] at h; exact absurd rfl h
theorem nI_m1 {i : Nat} (h : i < 2147483648) : ¬ nI i = -1 := by
  intro q
  have := congrArg Int32.toInt q
  rw [nI_toInt h, show (-1 : Int32).toInt = -1 by decide] at this
  omega
theorem fdI_m1 {i pg : Nat} (hp : pg < 2147483648) (h : fdI i pg = -1) : ¬ i < pg := by
  unfold fdI at h
  intro q
  rw [if_pos q] at h
  exact nI_m1 (by omega) h
theorem newK_le {pg : Nat} (h : pg ≤ 10) : newK pg ≤ 9 := by unfold newK; split <;> omega
abbrev hdOk (pk : Nat → Nat) : Prop := decN (pk 2) ≤ 9 ∧ decN (pk 3) ≤ 9 ∧ decN (pk 4) ≤ 7 ∧ decN (pk 5) < 16
def bump (x : Int32) : Int32 := if x < nI 9999 then x + nI 1 else x
theorem bump_y {x : Int32} (h : ¬ nI 9999 ≤ x) : x + nI 1 = bump x := by
  unfold bump
  rw [if_pos (Int32.not_le.mp h)]
theorem bump_n {x : Int32} (h : nI 9999 ≤ x) : x + nI 0 = bump x := by
  unfold bump
  rw [if_neg (Int32.not_lt.mpr h), add_0]
abbrev hdN (pk : Nat → Nat) : Nat := 10 * decN (pk 3) + decN (pk 2)
def hdI (s : Nat → Int32) (pg : Nat) (pk : Nat → Nat) (b : Nat) : Nat := srch (cel s) (nI b) (nI (hdN pk)) (nI (decN (pk 4))) pg 0
def hdK (s : Nat → Int32) (pg : Nat) (pk : Nat → Nat) (b : Nat) : Nat := if hdI s pg pk b < pg then hdI s pg pk b else newK pg
def hdS (s : Nat → Int32) (pg : Nat) (pk : Nat → Nat) (b : Nat) : Nat → Int32 := if hdI s pg pk b < pg then s else newF s pg (nI b) (nI (hdN pk)) (nI (decN (pk 4)))
/-- a head's page stands: counted, latest, open, cleared if told -/
def hd1 (s : Nat → Int32) (k : Nat) : Nat → Int32 := upd s (8 + 50 * k + 3) (bump (s (8 + 50 * k + 3)))
def hd2 (s : Nat → Int32) (k b : Nat) : Nat → Int32 := upd (upd s (8 + 50 * k + 5) (s 1)) (4 + b) (nI k)
def hd3 (s : Nat → Int32) (k : Nat) (f : Nat) : Nat → Int32 := if f % 2 = 1 then empF s k else s
def hdF (s : Nat → Int32) (pg : Nat) (pk : Nat → Nat) (b : Nat) : Nat → Int32 := if hdOk pk then hd3 (hd2 (hd1 (hdS s pg pk b) (hdK s pg pk b)) (hdK s pg pk b) b) (hdK s pg pk b) (decN (pk 5)) else upd s (4 + b) (-1)
def row1 (x : Int32) (o : Nat) : Int32 := if pc8 o % 2 = 1 then nI (o % 128) else if x = -1 ∨ nI 127 < x then nI (128 + o % 128) else x
def rwF (s : Nat → Int32) (pk : Nat → Nat) (base i : Nat) : Nat → Int32 := fun x => if base ≤ x ∧ x < base + i then row1 (s x) (pk (2 + (x - base))) else s x
theorem rwF_0 (s : Nat → Int32) (pk : Nat → Nat) (base : Nat) : rwF s pk base 0 = s := by funext x; simp only [rwF]; rw [if_neg (by omega)]
theorem rwF_g (s : Nat → Int32) (pk : Nat → Nat) (base i : Nat) : rwF s pk base i (base + i) = s (base + i) := by simp only [rwF]; rw [if_neg (by omega)]
theorem rwF_s (s : Nat → Int32) (pk : Nat → Nat) (base i : Nat) {v : Int32} (h : v = row1 (s (base + i)) (pk (2 + i))) : upd (rwF s pk base i) (base + i) v = rwF s pk base (i + 1) := by
  funext x
  simp only [rwF, upd]
  by_cases e : x = base + i
  · rw [if_pos e, if_pos (by omega), h, e, show base + i - base = i by omega]
  · rw [if_neg e]
    by_cases e2 : base ≤ x ∧ x < base + i
    · rw [if_pos e2, if_pos (by omega)]
    · rw [if_neg e2, if_neg (by omega)]
theorem rwF_k (s : Nat → Int32) (pk : Nat → Nat) (base i : Nat) (h : s (base + i) = row1 (s (base + i)) (pk (2 + i))) : rwF s pk base i = rwF s pk base (i + 1) := by
  rw [← rwF_s s pk base i h, upd_id' _ (rwF_g _ _ _ _)]
def rowF (s : Nat → Int32) (k row : Nat) (pk : Nat → Nat) : Nat → Int32 := rwF s pk (8 + 50 * k + 10 + 8 * row) 8
def lk1 (x : Int32) (u t : Nat) : Int32 := if decN u ≤ 9 ∧ decN t ≤ 9 then nI (10 * decN t + decN u) else x
def lkF (s : Nat → Int32) (pk : Nat → Nat) (base i : Nat) : Nat → Int32 := fun x => if base ≤ x ∧ x < base + i then lk1 (s x) (pk (2 + 2 * (x - base))) (pk (3 + 2 * (x - base))) else s x
theorem lkF_0 (s : Nat → Int32) (pk : Nat → Nat) (base : Nat) : lkF s pk base 0 = s := by funext x; simp only [lkF]; rw [if_neg (by omega)]
theorem lkF_g (s : Nat → Int32) (pk : Nat → Nat) (base i : Nat) : lkF s pk base i (base + i) = s (base + i) := by simp only [lkF]; rw [if_neg (by omega)]
theorem lkF_s (s : Nat → Int32) (pk : Nat → Nat) (base i : Nat) {v : Int32} (h : v = lk1 (s (base + i)) (pk (2 + 2 * i)) (pk (3 + 2 * i))) : upd (lkF s pk base i) (base + i) v = lkF s pk base (i + 1) := by
  funext x
  simp only [lkF, upd]
  by_cases e : x = base + i
  · rw [if_pos e, if_pos (by omega), h, e, show base + i - base = i by omega]
  · rw [if_neg e]
    by_cases e2 : base ≤ x ∧ x < base + i
    · rw [if_pos e2, if_pos (by omega)]
    · rw [if_neg e2, if_neg (by omega)]
theorem lkF_k (s : Nat → Int32) (pk : Nat → Nat) (base i : Nat) (h : s (base + i) = lk1 (s (base + i)) (pk (2 + 2 * i)) (pk (3 + 2 * i))) : lkF s pk base i = lkF s pk base (i + 1) := by
  rw [← lkF_s s pk base i h, upd_id' _ (lkF_g _ _ _ _)]
def linkF (s : Nat → Int32) (k : Nat) (pk : Nat → Nat) : Nat → Int32 := lkF (upd s 3 (mdF pk 2 8 (s 3))) pk (8 + 50 * k + 6) 4
def tk1 (s : Nat → Int32) (pk : Nat → Nat) : Nat → Int32 := upd s 3 (mdF pk 0 2 (s 3))
def tkF (s : Nat → Int32) (pg : Nat) (pk : Nat → Nat) : Nat → Int32 :=
  if decN (pk 0) ≤ 3 ∧ decN (pk 1) ≤ 7 then
    if decN (pk 1) = 0 then hdF (upd (tk1 s pk) 3 (mdF pk 2 4 (tk1 s pk 3))) pg pk (decN (pk 0))
    else if decN (pk 1) = 7 then tk1 s pk
    else if s (4 + decN (pk 0)) = -1 then tk1 s pk
    else if decN (pk 1) = 6 then linkF (tk1 s pk) (s (4 + decN (pk 0))).toNatClampNeg pk
    else rowF (tk1 s pk) (s (4 + decN (pk 0))).toNatClampNeg (decN (pk 1) - 1) pk
  else tk1 s pk
abbrev tkB (s : Nat → Int32) (pk : Nat → Nat) : Prop := (decN (pk 0) ≤ 3 ∧ decN (pk 1) ≤ 7) ∧ (decN (pk 1) = 0 ∧ hdOk pk ∨ decN (pk 1) = 7 ∨ ¬ decN (pk 1) = 0 ∧ ¬ s (4 + decN (pk 0)) = -1)
def cmS (s : Nat → Int32) : Nat → Int32 := upd s 1 (s 1 + nI 1)
def cmF (s : Nat → Int32) (pg : Nat) (pk : Nat → Nat) : Nat → Int32 := if tkB s pk then tkF (cmS s) pg pk else upd (tkF (cmS s) pg pk) 2 (tkF (cmS s) pg pk 2 + nI 1)
/-- what is kept to be undone -/
def ntK (pm : Nat) : Nat := if pm = 16 then 15 else pm
def ntB (pa : Nat → Int32) (pm : Nat) : Nat → Int32 := if pm = 16 then va_cpy pa pa 508 0 7620 else pa
def ntF (pa : Nat → Int32) (pm : Nat) (s : Nat → Int32) : Nat → Int32 := va_cpy s (ntB pa pm) 0 (508 * ntK pm) 508
theorem cpy_0 (f g : Nat → Int32) (sp dp : Nat) : va_cpy f g sp dp 0 = g := by
  funext k; simp only [va_cpy]; rw [if_neg (by omega)]
theorem cpy_s (f g : Nat → Int32) (sp dp i : Nat) : upd (va_cpy f g sp dp i) (dp + i) (f (sp + i)) = va_cpy f g sp dp (i + 1) := by
  funext x
  simp only [va_cpy, upd]
  by_cases e : x = dp + i
  · rw [if_pos e, if_pos (by omega), e, show dp + i - dp = i by omega]
  · rw [if_neg e]
    by_cases e2 : dp ≤ x ∧ x < dp + i
    · rw [if_pos e2, if_pos (by omega)]
    · rw [if_neg e2, if_neg (by omega)]
theorem cpy_self (f : Nat → Int32) (sp dp i : Nat) {x : Nat} (h : dp + i ≤ x) : va_cpy f f sp dp i x = f x := by
  simp only [va_cpy]; rw [if_neg (by omega)]
abbrev opOk (s : Nat → Int32) (pg : Nat) : Prop := ∀ b, b < 4 → s (4 + b) = -1 ∨ ∃ j, j < pg ∧ s (4 + b) = nI j
theorem opOk_nat {s : Nat → Int32} {pg b : Nat} (h : opOk s pg) (hb : b < 4) (hp : pg ≤ 10) (hn : ¬ s (4 + b) = -1) : s (4 + b) = nI (s (4 + b)).toNatClampNeg ∧ (s (4 + b)).toNatClampNeg < pg := by
  rcases h b hb with q | ⟨j, hj, q⟩
  · exact absurd q hn
  · rw [q, nI_clamp (by omega)]; exact ⟨rfl, hj⟩
def ltr (v : Nat) : Nat := if pc8 v % 2 = 1 then v else v + 128
abbrev laidN (kind v : Nat) : Nat := if kind = 0 ∨ kind = 6 then codeN v else ltr (64 + v)
