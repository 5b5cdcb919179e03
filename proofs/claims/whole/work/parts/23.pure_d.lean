/-! PURE WORDS: the reference keeps its shape. -/
abbrev pgS (s : Nat → Int32) : Nat := (s 0).toNatClampNeg
/-- how many pages, which are open -/
def okS (s : Nat → Int32) : Prop := s 0 = nI (pgS s) ∧ pgS s ≤ 10 ∧ opOk s (pgS s)
theorem okS.of {s : Nat → Int32} {pg : Nat} (h0 : s 0 = nI pg) (h1 : pg ≤ 10) (h2 : opOk s pg) : okS s := by
  have e : pgS s = pg := by rw [pgS, h0, nI_clamp (by omega)]
  exact ⟨by rw [e]; exact h0, by rw [e]; exact h1, by rw [e]; exact h2⟩
/-- the first eight numbers alone matter -/
theorem okS.same {s t : Nat → Int32} (h : okS s) (h0 : t 0 = s 0) (h4 : ∀ b, b < 4 → t (4 + b) = s (4 + b)) : okS t := by
  refine okS.of (pg := pgS s) (by rw [h0]; exact h.1) h.2.1 (fun b hb => ?_)
  rw [h4 b hb]
  exact h.2.2 b hb
theorem shO_ok {o : Int32} {pg page : Nat} (hp : pg ≤ 10) (hpp : page < pg) (h : o = -1 ∨ ∃ j, j < pg ∧ o = nI j) : shO o page = -1 ∨ ∃ j, j < pg - 1 ∧ shO o page = nI j := by
  unfold shO
  rcases h with rfl | ⟨j, hj, rfl⟩
  · left
    rw [if_neg (fun q => nI_m1 (i := page) (by omega) q.symm), if_neg]
    intro q
    have := Int32.lt_iff_toInt_lt.mp q
    rw [nI_toInt (by omega), show (-1 : Int32).toInt = -1 by decide] at this
    omega
  · by_cases c : j = page
    · left; rw [if_pos (by rw [c])]
    · rw [if_neg (fun q => c ((nI_eq (by omega) (by omega)).mp q))]
      right
      by_cases c2 : page < j
      · rw [if_pos ((nI_ltI (by omega) (by omega)).mpr c2)]
        exact ⟨j - 1, by omega, by rw [show nI j - 1 = nI j - nI 1 from rfl, pk_sub (by omega)]⟩
      · rw [if_neg (fun q => c2 ((nI_ltI (by omega) (by omega)).mp q))]
        exact ⟨j, by omega, rfl⟩
theorem goes_op {s : Nat → Int32} {pg page b : Nat} (hb : b < 4) : goesF s pg page (4 + b) = shO (s (4 + b)) page := by
  simp only [goesF, shP]
  rw [if_pos (by omega), upd_n _ _ (by omega), shF_lo _ (by omega)]
theorem goes_ok {s : Nat → Int32} {pg page : Nat} (h1 : pg ≤ 10) (hpp : page < pg) (h2 : opOk s pg) : opOk (goesF s pg page) (pg - 1) := by
  intro b hb
  rw [goes_op hb]
  exact shO_ok h1 hpp (h2 b hb)
theorem empF_lo {s : Nat → Int32} {k x : Nat} (h : x < 8) : empF s k x = s x := by
  simp only [empF, fillF]; rw [if_neg (by omega)]
theorem put5_lo {s : Nat → Int32} {k x : Nat} {b n p : Int32} (h : x < 8) : put5 s k b n p x = s x := by
  simp only [put5]
  rw [upd_n _ _ (by omega), upd_n _ _ (by omega), upd_n _ _ (by omega), upd_n _ _ (by omega), upd_n _ _ (by omega)]
theorem newF_0 (s : Nat → Int32) (pg : Nat) (b n p : Int32) : newF s pg b n p 0 = nI (newK pg + 1) := by
  rw [newF, empF_lo (by omega), put5_lo (by omega), upd_s]
theorem newF_op (s : Nat → Int32) (pg : Nat) (b n p : Int32) {x : Nat} (h : x < 8) (h0 : x ≠ 0) : newF s pg b n p x = newB s pg x := by
  rw [newF, empF_lo h, put5_lo h, upd_n _ _ h0]
theorem newF_ok {s : Nat → Int32} {pg : Nat} (b n p : Int32) (h1 : pg ≤ 10) (h2 : opOk s pg) : opOk (newF s pg b n p) (newK pg + 1) := by
  intro x hx
  rw [newF_op _ _ _ _ _ (by omega) (by omega), newB, newK]
  by_cases c : pg = 10
  · rw [if_pos c, if_pos c]
    have hg := goes_ok (s := s) (pg := 10) (page := oldS (latF s) 9) (by omega) (by have := oldS_le (latF s) 9; omega) (by rw [← c]; exact h2)
    rcases hg x hx with q | ⟨j, hj, q⟩
    · exact Or.inl q
    · exact Or.inr ⟨j, by omega, q⟩
  · rw [if_neg c, if_neg c]
    rcases h2 x hx with q | ⟨j, hj, q⟩
    · exact Or.inl q
    · exact Or.inr ⟨j, by omega, q⟩
theorem hdS_0 {s : Nat → Int32} {pg : Nat} {pk : Nat → Nat} {b : Nat} (h0 : s 0 = nI pg) (h1 : pg ≤ 10) (h2 : opOk s pg) : ∃ pg2, hdS s pg pk b 0 = nI pg2 ∧ pg2 ≤ 10 ∧ opOk (hdS s pg pk b) pg2 ∧ hdK s pg pk b < pg2 := by
  unfold hdS hdK
  split
  · next c => exact ⟨pg, h0, h1, h2, c⟩
  · next c => exact ⟨newK pg + 1, newF_0 _ _ _ _ _, by have := newK_le h1; omega, newF_ok _ _ _ h1 h2, by omega⟩
theorem hd3_lo {s : Nat → Int32} {k f x : Nat} (h : x < 8) : hd3 s k f x = s x := by
  unfold hd3; split
  · exact empF_lo h
  · rfl
theorem hdF_ok {s : Nat → Int32} {pg : Nat} {pk : Nat → Nat} {b : Nat} (hb : b < 4) (h0 : s 0 = nI pg) (h1 : pg ≤ 10) (h2 : opOk s pg) : okS (hdF s pg pk b) := by
  unfold hdF
  split
  · obtain ⟨pg2, g0, g1, g2, g3⟩ := hdS_0 (pk := pk) (b := b) h0 h1 h2
    refine okS.of (pg := pg2) ?_ g1 (fun x hx => ?_)
    · rw [hd3_lo (by omega)]
      simp only [hd2, hd1]
      rw [upd_n _ _ (by omega), upd_n _ _ (by omega), upd_n _ _ (by omega)]
      exact g0
    · rw [hd3_lo (by omega)]
      simp only [hd2, hd1]
      by_cases c : x = b
      · subst c; rw [upd_s]; exact Or.inr ⟨_, g3, rfl⟩
      · rw [upd_n _ _ (by omega), upd_n _ _ (by omega), upd_n _ _ (by omega)]
        exact g2 x hx
  · refine okS.of (pg := pg) ?_ h1 (fun x hx => ?_)
    · rw [upd_n _ _ (by omega)]; exact h0
    · by_cases c : x = b
      · subst c; rw [upd_s]; exact Or.inl rfl
      · rw [upd_n _ _ (by omega)]; exact h2 x hx
theorem tkF_ok {s : Nat → Int32} (pk : Nat → Nat) (h : okS s) : okS (tkF s (pgS s) pk) := by
  have hm : okS (tk1 s pk) := h.same (by rw [tk1, upd_n _ _ (by omega)]) (fun b hb => by rw [tk1, upd_n _ _ (by omega)])
  unfold tkF
  split
  · next c =>
    split
    · refine hdF_ok (by omega) ?_ h.2.1 (fun b hb => ?_)
      · rw [upd_n _ _ (by omega), tk1, upd_n _ _ (by omega)]; exact h.1
      · rw [upd_n _ _ (by omega), tk1, upd_n _ _ (by omega)]; exact h.2.2 b hb
    · split
      · exact hm
      · split
        · exact hm
        · split
          · refine hm.same ?_ (fun b hb => ?_)
            · simp only [linkF, lkF]; rw [if_neg (by omega), upd_n _ _ (by omega)]
            · simp only [linkF, lkF]; rw [if_neg (by omega), upd_n _ _ (by omega)]
          · refine hm.same ?_ (fun b hb => ?_)
            · simp only [rowF, rwF]; rw [if_neg (by omega)]
            · simp only [rowF, rwF]; rw [if_neg (by omega)]
  · exact hm
theorem cmS_ok {s : Nat → Int32} (h : okS s) : okS (cmS s) := h.same (by rw [cmS, upd_n _ _ (by omega)]) (fun b hb => by rw [cmS, upd_n _ _ (by omega)])
theorem cmS_pg (s : Nat → Int32) : pgS (cmS s) = pgS s := by rw [pgS, cmS, upd_n _ _ (by omega)]
theorem cmF_ok {s : Nat → Int32} (pk : Nat → Nat) (h : okS s) : okS (cmF s (pgS s) pk) := by
  have h1 := tkF_ok pk (cmS_ok h)
  rw [cmS_pg] at h1
  unfold cmF
  split
  · exact h1
  · exact h1.same (by rw [upd_n _ _ (by omega)]) (fun b hb => by rw [upd_n _ _ (by omega)])
theorem ntK_le {pm : Nat} (h : pm ≤ 16) : ntK pm + 1 ≤ 16 := by unfold ntK; split <;> omega
/-- one packet by draws after the other: the cells, what is kept, how many, the seed -/
abbrev MT : Type := (Nat → Int32) × (Nat → Int32) × Nat × Nat
def dfS (x : MT) : MT := (cmF x.1 (pgS x.1) (dpk x.2.2.2), ntF x.2.1 x.2.2.1 x.1, ntK x.2.2.1 + 1, lcgI x.2.2.2 11)
def dfI (x : MT) : Nat → MT
  | 0 => x
  | i + 1 => dfS (dfI x i)
/-- the first of some -/
def fstB (p : Nat → Bool) : Nat → Nat → Nat
  | 0, e => e
  | t + 1, e => if p e then e else fstB p t (e + 1)
theorem fstB_y {p : Nat → Bool} {n e : Nat} (h : e < n) (hp : p e = true) : fstB p (n - e) e = e := by
  rw [show n - e = (n - (e + 1)) + 1 by omega, fstB, if_pos hp]
theorem fstB_n {p : Nat → Bool} {n e : Nat} (h : e < n) (hp : ¬ p e = true) : fstB p (n - e) e = fstB p (n - (e + 1)) (e + 1) := by
  rw [show n - e = (n - (e + 1)) + 1 by omega, fstB, if_neg hp]
/-- the book of letters -/
abbrev bkL (s : Nat → Int32) (pg : Nat) (ek er ei : Nat → Nat) (e : Nat) : Int32 := if ek e < pg then s (8 + 50 * ek e + (10 + 8 * er e + ei e)) else -1
def badB (s : Nat → Int32) (pg : Nat) (ek er ei el : Nat → Nat) (e : Nat) : Bool := decide (bkL s pg ek er ei e = -1 ∨ ¬ (bkL s pg ek er ei e &&& nI 127) = nI (el e))
abbrev enOk (en : Nat → Int32) (em : Nat) (ek er ei el : Nat → Nat) : Prop := ∀ e, e < em → (en (4 * e) = nI (ek e) ∧ ek e < 10) ∧ (en (4 * e + 1) = nI (er e) ∧ er e < 5) ∧ (en (4 * e + 2) = nI (ei e) ∧ ei e < 8) ∧ en (4 * e + 3) = nI (el e)
def wrgI (s : Nat → Int32) (pg em : Nat) (ek er ei el : Nat → Nat) : Int32 := fdI (fstB (badB s pg ek er ei el) em 0) em
/-! what the calls answer -/
def a_coded (v : Int32) : Int32 := if nI 0 ≤ v ∧ v ≤ nI 15 then nI (codeN v.toNatClampNeg) else -1000000002
def a_read (o : Int32) : Int32 := if nI 0 ≤ o ∧ o ≤ nI 255 then dec o.toNatClampNeg else -1000000002
def a_open (s : Nat → Int32) (b : Int32) : Int32 := if nI 0 ≤ b ∧ b ≤ nI 3 then s (4 + b.toNatClampNeg) else -1000000001
def a_told (s : Nat → Int32) (pg co em pm : Nat) (ek er ei el : Nat → Nat) (w : Int32) : Int32 :=
  if nI 0 ≤ w ∧ w ≤ nI 7 then (if w.toNatClampNeg < 4 then s w.toNatClampNeg else if w.toNatClampNeg = 4 then nI co else if w.toNatClampNeg = 5 then nI em else if w.toNatClampNeg = 6 then wrgI s pg em ek er ei el else nI pm) else -1000000002
def a_page (s : Nat → Int32) (pg : Nat) (k w : Int32) : Int32 :=
  if hasP pg k then (if nI 0 ≤ w ∧ w ≤ nI 8 then (if w.toNatClampNeg < 5 then s (8 + 50 * k.toNatClampNeg + w.toNatClampNeg) else if w.toNatClampNeg = 5 then nI (lenN (lkL s k.toNatClampNeg) (ltF s k.toNatClampNeg)) else if w.toNatClampNeg = 6 then nI (lacN (ltF s k.toNatClampNeg)) else if w.toNatClampNeg = 7 then nI (surN (ltF s k.toNatClampNeg) 40) else lkd s k.toNatClampNeg pg) else -1000000002) else -1000000001
def a_letter (s : Nat → Int32) (pg : Nat) (k r i : Int32) : Int32 := if hasP pg k then (if (nI 0 ≤ r ∧ r ≤ nI 4) ∧ (nI 0 ≤ i ∧ i ≤ nI 7) then s (8 + 50 * k.toNatClampNeg + (10 + 8 * r.toNatClampNeg + i.toNatClampNeg)) else -1000000002) else -1000000001
def a_link (s : Nat → Int32) (pg : Nat) (k j : Int32) : Int32 := if hasP pg k then (if nI 0 ≤ j ∧ j ≤ nI 3 then s (8 + 50 * k.toNatClampNeg + (6 + j.toNatClampNeg)) else -1000000002) else -1000000001
def a_far (s : Nat → Int32) (pg : Nat) (k o : Int32) : Int32 := if hasP pg k ∧ hasP pg o then frS s pg o.toNatClampNeg 10 0 (bitI k.toNatClampNeg) else -1000000001
def a_find (s : Nat → Int32) (pg : Nat) (b n p : Int32) : Int32 := fdI (srch (cel s) b n p pg 0) pg
