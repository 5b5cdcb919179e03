/-! WHAT IS KEPT TO BE UNDONE: sixteen states in a ring, the oldest first, against the reference's slices. -/
def Zlot (G : vG) (ad : Nat → Nat) (E : Nat → va_E) (z pg cm hd : Nat) (lst md sd : Int32) (cs op : Nat → Int32) : Prop :=
  E z = .inr (2, [.ref (ad (z + 1)), .ref (ad (z + 2)), .int (nI pg), .int (nI cm), .int lst, .int md, .int sd, .int (nI hd)]) ∧ E (z + 1) = eI G 500 cs ∧ E (z + 2) = eI G 4 op
def SlotX (G : vG) (ad : Nat → Nat) (E : Nat → va_E) (z : Nat) : Prop := ∃ (pg cm hd : Nat) (lst md sd : Int32) (cs op : Nat → Int32), Zlot G ad E z pg cm hd lst md sd cs op
def SlotR (G : vG) (ad : Nat → Nat) (E : Nat → va_E) (z : Nat) (s : Nat → Int32) : Prop := ∃ (pg cm hd : Nat) (lst md sd : Int32) (cs op : Nat → Int32), Zlot G ad E z pg cm hd lst md sd cs op ∧ RepS s cs op pg cm hd lst md (cm + 1) ∧ cm < 1000000
def RingN (G : vG) (ad : Nat → Nat) (E : Nat → va_E) (t : Nat) (pa : Nat → Int32) (pm nx : Nat) (f : Nat → Option Nat) : Prop :=
  nx < 16 ∧ pm ≤ 16 ∧ E t = .inr (3, [.ref (ad (t + 1)), .int (nI nx), .int (nI pm)]) ∧ E (t + 1) = eR G 16 f ∧ (∀ j, j < 16 → f j = some (ad (t + 2 + 3 * j))) ∧ (∀ j, j < 16 → SlotX G ad E (t + 2 + 3 * j)) ∧ ∀ m, m < pm → SlotR G ad E (t + 2 + 3 * ((nx + 16 - pm + m) % 16)) (slc pa m)
def Ring (G : vG) (ad : Nat → Nat) (E : Nat → va_E) (t : Nat) (pa : Nat → Int32) (pm : Nat) : Prop := ∃ (nx : Nat) (f : Nat → Option Nat), RingN G ad E t pa pm nx f
section P57
variable {G : vG} {ad : Nat → Nat} {E E2 : Nat → va_E} {t pm nx n z : Nat} {pa s : Nat → Int32} {f : Nat → Option Nat}
theorem Zlot.same {pg cm hd : Nat} {lst md sd : Int32} {cs op : Nat → Int32} (h : Zlot G ad E z pg cm hd lst md sd cs op) (h0 : E2 z = E z) (h1 : E2 (z + 1) = E (z + 1)) (h2 : E2 (z + 2) = E (z + 2)) : Zlot G ad E2 z pg cm hd lst md sd cs op := by
  obtain ⟨a, b, c⟩ := h
  exact ⟨h0.trans a, h1.trans b, h2.trans c⟩
theorem SlotX.same (h : SlotX G ad E z) (h0 : E2 z = E z) (h1 : E2 (z + 1) = E (z + 1)) (h2 : E2 (z + 2) = E (z + 2)) : SlotX G ad E2 z := by
  obtain ⟨pg, cm, hd, lst, md, sd, cs, op, h⟩ := h
  exact ⟨pg, cm, hd, lst, md, sd, cs, op, h.same h0 h1 h2⟩
theorem SlotR.same (h : SlotR G ad E z s) (h0 : E2 z = E z) (h1 : E2 (z + 1) = E (z + 1)) (h2 : E2 (z + 2) = E (z + 2)) : SlotR G ad E2 z s := by
  obtain ⟨pg, cm, hd, lst, md, sd, cs, op, h, g⟩ := h
  exact ⟨pg, cm, hd, lst, md, sd, cs, op, h.same h0 h1 h2, g⟩
theorem SlotR.x (h : SlotR G ad E z s) : SlotX G ad E z := by
  obtain ⟨pg, cm, hd, lst, md, sd, cs, op, h, g⟩ := h
  exact ⟨pg, cm, hd, lst, md, sd, cs, op, h⟩
theorem RepS.congr {s s2 cs op : Nat → Int32} {pg cm hd : Nat} {lst md : Int32} {T : Nat} (h : RepS s cs op pg cm hd lst md T) (hs : ∀ x, x < 508 → s2 x = s x) : RepS s2 cs op pg cm hd lst md T := by
  obtain ⟨⟨a1, a2, a3, a4, a5⟩, ⟨b1, b2⟩, c, ⟨d1, ta, tm, d2, d3⟩, e1, e2⟩ := h
  refine ⟨⟨by rw [hs _ (by omega)]; exact a1, a2, by rw [hs _ (by omega)]; exact a3, by rw [hs _ (by omega)]; exact a4, by rw [hs _ (by omega)]; exact a5⟩, ⟨fun b hb => by rw [hs _ (by omega)]; exact b1 b hb, fun b hb => by rw [hs _ (by omega)]; exact b2 b hb⟩, fun k j hk hj h5 => by rw [hs _ (by omega)]; exact c k j hk hj h5, ⟨d1, ta, tm, fun k hk => by rw [hs _ (by omega)]; exact d2 k hk, d3⟩, fun k hk => by rw [hs _ (by omega)]; exact e1 k hk, fun k j hk hj h5 => by rw [hs _ (by omega)]; exact e2 k j hk hj h5⟩
theorem SlotR.congr {s2 : Nat → Int32} (h : SlotR G ad E z s) (hs : ∀ x, x < 508 → s2 x = s x) : SlotR G ad E z s2 := by
  obtain ⟨pg, cm, hd, lst, md, sd, cs, op, h, g⟩ := h
  exact ⟨pg, cm, hd, lst, md, sd, cs, op, h, g.1.congr hs, g.2⟩
theorem nt_new {x : Nat} (hx : x < 508) : slc (ntF pa pm s) (ntK pm) x = s x := by
  show va_cpy s (ntB pa pm) 0 (508 * ntK pm) 508 (508 * ntK pm + x) = s x
  simp only [va_cpy]
  rw [if_pos (by omega)]
  congr 1; omega
theorem nt_old {m x : Nat} (hx : x < 508) (hm : m < ntK pm) : slc (ntF pa pm s) m x = if pm = 16 then slc pa (m + 1) x else slc pa m x := by
  show va_cpy s (ntB pa pm) 0 (508 * ntK pm) 508 (508 * m + x) = _
  simp only [va_cpy]
  rw [if_neg (by omega), ntB]
  by_cases c : pm = 16
  · have hk : ntK pm = 15 := by rw [ntK, if_pos c]
    rw [if_pos c, if_pos c]
    simp only [va_cpy]
    rw [if_pos (by omega)]
    show pa _ = pa _
    congr 1; omega
  · rw [if_neg c, if_neg c]
theorem ntK_min (h : pm ≤ 16) : (if nI 16 < nI (pm + 1) then nI 16 else nI (pm + 1)) = nI (ntK pm + 1) := by
  unfold ntK
  by_cases c : pm = 16
  · rw [if_pos c, if_pos ((nI_ltI (by omega) (by omega)).mpr (by omega))]
  · rw [if_neg c, if_neg (fun q => c (by have := (nI_ltI (by omega) (by omega)).mp q; omega))]
theorem Ring.same (h : Ring G ad E t pa pm) (hs : ∀ j, t ≤ j → j < t + 50 → E2 j = E j) : Ring G ad E2 t pa pm := by
  obtain ⟨nx, f, h1, h2, h3, h4, h5, h6, h7⟩ := h
  exact ⟨nx, f, h1, h2, (hs _ (by omega) (by omega)).trans h3, (hs _ (by omega) (by omega)).trans h4, h5, fun j hj => (h6 j hj).same (hs _ (by omega) (by omega)) (hs _ (by omega) (by omega)) (hs _ (by omega) (by omega)), fun m hm => (h7 m hm).same (hs _ (by omega) (by omega)) (hs _ (by omega) (by omega)) (hs _ (by omega) (by omega))⟩
theorem RingN.slot (h : RingN G ad E t pa pm nx f) : ∃ z, z = t + 2 + 3 * nx ∧ ∃ (pg cm hd : Nat) (lst md sd : Int32) (cs op : Nat → Int32), Zlot G ad E z pg cm hd lst md sd cs op := ⟨_, rfl, h.2.2.2.2.2.1 nx h.1⟩
theorem RingN.back (h : RingN G ad E t pa pm nx f) (h1 : 1 ≤ n) (hn : n ≤ pm) : ∃ z, z = t + 2 + 3 * ((nx + 16 - n) % 16) ∧ ∃ (pg cm hd : Nat) (lst md sd : Int32) (cs op : Nat → Int32), Zlot G ad E z pg cm hd lst md sd cs op ∧ RepS (slc pa (pm - n)) cs op pg cm hd lst md (cm + 1) ∧ cm < 1000000 := by
  obtain ⟨g1, g2, g3, g4, g5, g6, g7⟩ := h
  have := g7 (pm - n) (by omega)
  rw [show nx + 16 - pm + (pm - n) = nx + 16 - n by omega] at this
  exact ⟨_, rfl, this⟩
theorem RingN.note (h : RingN G ad E t pa pm nx f) (hz : z = t + 2 + 3 * nx) (h0 : E2 t = .inr (3, [.ref (ad (t + 1)), .int (nI ((nx + 1) % 16)), .int (nI (ntK pm + 1))])) (hs : SlotR G ad E2 z s) (hfr : ∀ j, j ≠ t → j ≠ z → j ≠ z + 1 → j ≠ z + 2 → t ≤ j → j < t + 50 → E2 j = E j) : Ring G ad E2 t (ntF pa pm s) (ntK pm + 1) := by
  obtain ⟨g1, g2, g3, g4, g5, g6, g7⟩ := h
  have hk : (pm = 16 → ntK pm = 15) ∧ (¬ pm = 16 → ntK pm = pm) := ⟨fun q => by rw [ntK, if_pos q], fun q => by rw [ntK, if_neg q]⟩
  have hk2 : ntK pm ≤ 15 := by
    by_cases q : pm = 16
    · have := hk.1 q; omega
    · have := hk.2 q; omega
  subst hz
  refine ⟨(nx + 1) % 16, f, Nat.mod_lt _ (by decide), by omega, h0, (hfr _ (by omega) (by omega) (by omega) (by omega) (by omega) (by omega)).trans g4, g5, fun j hj => ?_, fun m hm => ?_⟩
  · by_cases q : j = nx
    · subst q; exact hs.x
    · exact (g6 j hj).same (hfr _ (by omega) (by omega) (by omega) (by omega) (by omega) (by omega)) (hfr _ (by omega) (by omega) (by omega) (by omega) (by omega) (by omega)) (hfr _ (by omega) (by omega) (by omega) (by omega) (by omega) (by omega))
  · by_cases q : m = ntK pm
    · subst q
      rw [show ((nx + 1) % 16 + 16 - (ntK pm + 1) + ntK pm) % 16 = nx by omega]
      exact hs.congr (fun x hx => nt_new hx)
    · by_cases c : pm = 16
      · have hc := hk.1 c
        have hj : (nx + 16 - pm + (m + 1)) % 16 < 16 := Nat.mod_lt _ (by decide)
        have := g7 (m + 1) (by omega)
        rw [show ((nx + 1) % 16 + 16 - (ntK pm + 1) + m) % 16 = (nx + 16 - pm + (m + 1)) % 16 by omega]
        have hne : (nx + 16 - pm + (m + 1)) % 16 ≠ nx := by omega
        refine (this.same (hfr _ (by omega) (by omega) (by omega) (by omega) (by omega) (by omega)) (hfr _ (by omega) (by omega) (by omega) (by omega) (by omega) (by omega)) (hfr _ (by omega) (by omega) (by omega) (by omega) (by omega) (by omega))).congr (fun x hx => ?_)
        rw [nt_old hx (by omega), if_pos c]
      · have hc := hk.2 c
        have hj : (nx + 16 - pm + m) % 16 < 16 := Nat.mod_lt _ (by decide)
        have := g7 m (by omega)
        rw [show ((nx + 1) % 16 + 16 - (ntK pm + 1) + m) % 16 = (nx + 16 - pm + m) % 16 by omega]
        have hne : (nx + 16 - pm + m) % 16 ≠ nx := by omega
        refine (this.same (hfr _ (by omega) (by omega) (by omega) (by omega) (by omega) (by omega)) (hfr _ (by omega) (by omega) (by omega) (by omega) (by omega) (by omega)) (hfr _ (by omega) (by omega) (by omega) (by omega) (by omega) (by omega))).congr (fun x hx => ?_)
        rw [nt_old hx (by omega), if_neg c]
theorem RingN.less (h : RingN G ad E t pa pm nx f) (hn : n ≤ pm) (h0 : E2 t = .inr (3, [.ref (ad (t + 1)), .int (nI ((nx + 16 - n) % 16)), .int (nI (pm - n))])) (hfr : ∀ j, j ≠ t → t ≤ j → j < t + 50 → E2 j = E j) : Ring G ad E2 t pa (pm - n) := by
  obtain ⟨g1, g2, g3, g4, g5, g6, g7⟩ := h
  refine ⟨(nx + 16 - n) % 16, f, Nat.mod_lt _ (by decide), by omega, h0, (hfr _ (by omega) (by omega) (by omega)).trans g4, g5, fun j hj => (g6 j hj).same (hfr _ (by omega) (by omega) (by omega)) (hfr _ (by omega) (by omega) (by omega)) (hfr _ (by omega) (by omega) (by omega)), fun m hm => ?_⟩
  rw [show ((nx + 16 - n) % 16 + 16 - (pm - n) + m) % 16 = (nx + 16 - pm + m) % 16 by omega]
  have hj : (nx + 16 - pm + m) % 16 < 16 := Nat.mod_lt _ (by decide)
  exact (g7 m (by omega)).same (hfr _ (by omega) (by omega) (by omega)) (hfr _ (by omega) (by omega) (by omega)) (hfr _ (by omega) (by omega) (by omega))
theorem RingN.none (h : RingN G ad E t pa pm nx f) (pb : Nat → Int32) (h0 : E2 t = .inr (3, [.ref (ad (t + 1)), .int (nI nx), .int (nI 0)])) (hfr : ∀ j, j ≠ t → E2 j = E j) : Ring G ad E2 t pb 0 := by
  obtain ⟨g1, g2, g3, g4, g5, g6, g7⟩ := h
  exact ⟨nx, f, g1, by omega, h0, (hfr _ (by omega)).trans g4, g5, fun j hj => (g6 j hj).same (hfr _ (by omega)) (hfr _ (by omega)) (hfr _ (by omega)), fun m hm => absurd hm (Nat.not_lt_zero m)⟩
end P57
