/-! PURE WORDS: pages sent round. -/
abbrev mxI (a b : Int32) : Int32 := if a < b then b else a
abbrev btr (ln wt ofn en : Nat → Int32) (tm : Int32) (rho k o : Nat) : Prop :=
  (rho = 1 ∧ wt o * (tm - en o + nI 1) < wt k * (tm - en k + nI 1)) ∨ (rho = 2 ∧ (ofn k + nI 1) * ln k * wt o < (ofn o + nI 1) * ln o * wt k) ∨ (¬ rho = 1 ∧ ¬ rho = 2 ∧ (ofn k + nI 1) * ln k < (ofn o + nI 1) * ln o)
def fore (ln wt ofn en : Nat → Int32) (tm : Int32) (rho : Nat) : Nat → Nat
  | 0 => 0
  | n + 1 => if btr ln wt ofn en tm rho (n + 1) (fore ln wt ofn en tm rho n) then n + 1 else fore ln wt ofn en tm rho n
theorem fore_le (ln wt ofn en : Nat → Int32) (tm : Int32) (rho : Nat) : ∀ n, fore ln wt ofn en tm rho n ≤ n := by
  intro n
  induction n with
  | zero => exact Nat.le_refl 0
  | succ n ih => rw [fore]; split <;> omega
def nxt (ln wt ofn en : Nat → Int32) (tm : Int32) (rho pg i : Nat) : Nat := if rho = 0 then i % pg else fore ln wt ofn en tm rho (pg - 1)
theorem nxt_lt {ln wt ofn en : Nat → Int32} {tm : Int32} {rho pg i : Nat} (h : 0 < pg) : nxt ln wt ofn en tm rho pg i < pg := by
  unfold nxt
  split
  · exact Nat.mod_lt _ h
  · have := fore_le ln wt ofn en tm rho (pg - 1); omega
/-- time, how often, last ends, waits; behind so many sendings -/
abbrev RT : Type := Int32 × (Nat → Int32) × (Nat → Int32) × (Nat → Int32)
def rs0 : RT := (nI 0, fun _ => nI 0, fun _ => nI 0, fun _ => nI 0)
def rsK (ln wt : Nat → Int32) (rho pg i : Nat) (x : RT) : Nat := nxt ln wt x.2.1 x.2.2.1 x.1 rho pg i
def rsS (ln : Nat → Int32) (k : Nat) (x : RT) : RT := (x.1 + ln k, upd x.2.1 k (x.2.1 k + nI 1), upd x.2.2.1 k (x.1 + ln k), upd x.2.2.2 k (mxI (x.2.2.2 k) (x.1 + ln k - x.2.2.1 k)))
def rs (ln wt : Nat → Int32) (rho pg : Nat) : Nat → RT
  | 0 => rs0
  | i + 1 => rsS ln (rsK ln wt rho pg i (rs ln wt rho pg i)) (rs ln wt rho pg i)
/-- the page sent at a place -/
def sentK (ln wt : Nat → Int32) (rho pg i : Nat) : Nat := rsK ln wt rho pg i (rs ln wt rho pg i)
/-- waits at the end -/
def fwF (tm : Int32) (en w : Nat → Int32) (i : Nat) : Nat → Int32 := fun k => if k < i then mxI (w k) (tm - en k) else w k
theorem fwF_0 (tm : Int32) (en w : Nat → Int32) : fwF tm en w 0 = w := by funext k; simp only [fwF]; rw [if_neg (by omega)]
theorem fwF_s (tm : Int32) (en w : Nat → Int32) (i : Nat) : upd (fwF tm en w i) i (mxI (fwF tm en w i i) (tm - en i)) = fwF tm en w (i + 1) := by
  funext k
  simp only [fwF, upd]
  rw [if_neg (Nat.lt_irrefl i)]
  by_cases e : k = i
  · rw [if_pos e, if_pos (by omega), e]
  · rw [if_neg e]
    by_cases e2 : k < i
    · rw [if_pos e2, if_pos (by omega)]
    · rw [if_neg e2, if_neg (by omega)]
def waitF (ln wt : Nat → Int32) (rho pg n : Nat) : Nat → Int32 := fwF (rs ln wt rho pg n).1 (rs ln wt rho pg n).2.2.1 (rs ln wt rho pg n).2.2.2 pg
def wrst (wt w : Nat → Int32) : Nat → Int32
  | 0 => nI 0
  | k + 1 => mxI (wrst wt w k) (wt k * w k)
def wstF (ln wt : Nat → Int32) (rho pg n : Nat) : Int32 := wrst wt (waitF ln wt rho pg n) pg
/-- the best rule, gone through from the last to the first -/
def bstM (v : Nat → Int32) : Nat → Nat → Nat
  | 0, b => b
  | r + 1, b => bstM v r (if v r ≤ v b then r else b)
abbrev lenF (s : Nat → Int32) : Nat → Int32 := fun k => nI (lenN (lkL s k) (ltF s k))
abbrev wtF (s : Nat → Int32) : Nat → Int32 := fun k => s (8 + 50 * k + 4)
def a_sent (s : Nat → Int32) (pg : Nat) (rule i : Int32) : Int32 :=
  if (nI 0 ≤ rule ∧ rule ≤ nI 3) ∧ (nI 0 ≤ i ∧ i ≤ nI 59) then (if pg = 0 then -1 else nI (sentK (lenF s) (wtF s) rule.toNatClampNeg pg i.toNatClampNeg)) else -1000000002
def a_waits (s : Nat → Int32) (pg : Nat) (k rule n : Int32) : Int32 :=
  if hasP pg k then (if (nI 0 ≤ rule ∧ rule ≤ nI 3) ∧ (nI 1 ≤ n ∧ n ≤ nI 60) then waitF (lenF s) (wtF s) rule.toNatClampNeg pg n.toNatClampNeg k.toNatClampNeg else -1000000002) else -1000000001
def a_best (s : Nat → Int32) (pg : Nat) (n : Int32) : Int32 :=
  if nI 1 ≤ n ∧ n ≤ nI 60 then (if pg = 0 then -1 else nI (bstM (fun r => wstF (lenF s) (wtF s) r pg n.toNatClampNeg) 3 3)) else -1000000002
theorem lt_m1 : ∀ r, r ≤ 3 → (nI r - nI 1 < 0 ↔ r = 0) := by decide +kernel
theorem dec1 {r : Nat} (h : 1 ≤ r) : nI r - nI 1 + Int32.ofInt (-1) = nI (r - 1) - nI 1 := by
  rw [pk_sub h]
  show nI (r - 1) + (-1) = nI (r - 1) - 1
  rw [Int32.sub_eq_add_neg]
theorem ord_s {f : Nat → Nat} {g : Nat → Int32} {i w : Nat} (h : ∀ j, j < i → g j = nI (f j)) (hw : w = f i) : ∀ j, j < i + 1 → upd g i (nI w) j = nI (f j) := by
  intro j hj
  by_cases e : j = i
  · rw [e, upd_s, hw]
  · rw [upd_n _ _ e]
    exact h j (by omega)
