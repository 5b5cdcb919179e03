/-! FOR THE LAW: how many octets had come, in what is kept. -/
section P74
variable {s : Nat → Int32} {pk : Nat → Nat} {pa : Nat → Int32} {pm B : Nat}
theorem newF_1 (s : Nat → Int32) (pg : Nat) (b n p : Int32) : newF s pg b n p 1 = s 1 := by
  rw [newF, empF_lo (by omega), put5_lo (by omega), upd_n _ _ (by omega), newB]
  split
  · exact goes_123 (by omega) (by omega)
  · rfl
theorem hdF_1 (s : Nat → Int32) (pg : Nat) (pk : Nat → Nat) (b : Nat) : hdF s pg pk b 1 = s 1 := by
  unfold hdF
  split
  · have h0 : hdS s pg pk b 1 = s 1 := by
      unfold hdS
      split
      · rfl
      · exact newF_1 _ _ _ _ _
    have h1 : ∀ k, hd2 (hd1 (hdS s pg pk b) k) k b 1 = s 1 := fun k => by
      simp only [hd2, hd1]
      rw [upd_n _ _ (by omega), upd_n _ _ (by omega), upd_n _ _ (by omega)]
      exact h0
    unfold hd3
    split
    · rw [empF_lo (by omega)]; exact h1 _
    · exact h1 _
  · exact upd_n _ _ (by omega)
theorem tkF_1 (s : Nat → Int32) (pg : Nat) (pk : Nat → Nat) : tkF s pg pk 1 = s 1 := by
  have h0 : tk1 s pk 1 = s 1 := upd_n _ _ (by omega)
  unfold tkF
  split
  · split
    · rw [hdF_1, upd_n _ _ (by omega)]; exact h0
    · split
      · exact h0
      · split
        · exact h0
        · split
          · simp only [linkF, lkF]
            rw [if_neg (by omega), upd_n _ _ (by omega)]; exact h0
          · simp only [rowF, rwF]
            rw [if_neg (by omega)]; exact h0
  · exact h0
theorem cmF_1 (s : Nat → Int32) (pg : Nat) (pk : Nat → Nat) : cmF s pg pk 1 = s 1 + nI 1 := by
  have h0 : cmS s 1 = s 1 + nI 1 := upd_s _ _ _
  unfold cmF
  split
  · rw [tkF_1, h0]
  · rw [upd_n _ _ (by omega), tkF_1, h0]
/-- what is kept came of at most B octets' packets -/
def pcB (pa : Nat → Int32) (pm B : Nat) : Prop := ∀ m, m < pm → ∃ c : Nat, slc pa m 1 = nI c ∧ c ≤ B
theorem pcB.mono {B2 : Nat} (h : pcB pa pm B) (hB : B ≤ B2) : pcB pa pm B2 := fun m hm => by
  obtain ⟨c, h1, h2⟩ := h m hm
  exact ⟨c, h1, by omega⟩
theorem pcB.less {n : Nat} (h : pcB pa pm B) : pcB pa (pm - n) B := fun m hm => h m (by omega)
theorem pcB.none (pa : Nat → Int32) : pcB pa 0 B := fun m hm => absurd hm (Nat.not_lt_zero m)
theorem pcB.note {c : Nat} (h : pcB pa pm B) (hc : s 1 = nI c) (hB : c ≤ B) : pcB (ntF pa pm s) (ntK pm + 1) B := by
  intro m hm
  by_cases q : m = ntK pm
  · subst q; exact ⟨c, (nt_new (by omega)).trans hc, hB⟩
  · have ho := nt_old (pa := pa) (s := s) (pm := pm) (x := 1) (by omega) (show m < ntK pm by omega)
    by_cases e : pm = 16
    · rw [if_pos e] at ho
      have hk : ntK pm = 15 := by rw [ntK, if_pos e]
      obtain ⟨c2, h1, h2⟩ := h (m + 1) (by omega)
      exact ⟨c2, ho.trans h1, h2⟩
    · rw [if_neg e] at ho
      have hk : ntK pm = pm := by rw [ntK, if_neg e]
      obtain ⟨c2, h1, h2⟩ := h m (by omega)
      exact ⟨c2, ho.trans h1, h2⟩
/-- and so after packets by draws -/
theorem dfI_B {sn c : Nat} (h : pcB pa pm B) (hc : s 1 = nI c) : ∀ n, c + n ≤ B + 1 → pcB (dfI (s, pa, pm, sn) n).2.1 (dfI (s, pa, pm, sn) n).2.2.1 B ∧ (dfI (s, pa, pm, sn) n).1 1 = nI (c + n) := by
  intro n
  induction n with
  | zero => intro _; exact ⟨h, hc⟩
  | succ n ih =>
    intro hn
    obtain ⟨h1, h2⟩ := ih (by omega)
    refine ⟨h1.note h2 (by omega), ?_⟩
    show cmF _ _ _ 1 = _
    rw [cmF_1, h2, nI_add]
    rfl
end P74
