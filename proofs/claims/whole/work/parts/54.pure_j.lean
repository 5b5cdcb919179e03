/-! THE CLASS'S STATE STANDS FOR THE REFERENCE'S CELLS. -/
def agesOk (cs s : Nat → Int32) (pg hd T : Nat) : Prop := hd < T ∧ ∃ ta tm : Nat → Nat, (∀ k, k < pg → cs (k * 50 + 5) = nI (ta k) ∧ ta k ≤ hd ∧ s (8 + 50 * k + 5) = nI (tm k) ∧ tm k < T) ∧ ∀ i j, i < pg → j < pg → (ta i < ta j ↔ tm i < tm j)
def cellsOk (s : Nat → Int32) (pg : Nat) : Prop := (∀ k, k < pg → ∃ h, h ≤ 9999 ∧ s (8 + 50 * k + 3) = nI h) ∧ ∀ k j, k < pg → 10 ≤ j → j < 50 → -1 ≤ s (8 + 50 * k + j)
def RepS (s cs op : Nat → Int32) (pg cm hd : Nat) (lst md : Int32) (T : Nat) : Prop :=
  (s 0 = nI pg ∧ pg ≤ 10 ∧ s 1 = nI cm ∧ s 2 = lst ∧ s 3 = md) ∧ ((∀ b, b < 4 → op b = s (4 + b)) ∧ opOk s pg) ∧ agr cs s pg ∧ agesOk cs s pg hd T ∧ cellsOk s pg
theorem agesOk.mono {cs s : Nat → Int32} {pg hd T T2 : Nat} (h : agesOk cs s pg hd T) (hT : T ≤ T2) : agesOk cs s pg hd T2 := by
  obtain ⟨h1, ta, tm, h2, h3⟩ := h
  exact ⟨by omega, ta, tm, fun k hk => ⟨(h2 k hk).1, (h2 k hk).2.1, (h2 k hk).2.2.1, by have := (h2 k hk).2.2.2; omega⟩, h3⟩
theorem RepS.mono {s cs op : Nat → Int32} {pg cm hd : Nat} {lst md : Int32} {T T2 : Nat} (h : RepS s cs op pg cm hd lst md T) (hT : T ≤ T2) : RepS s cs op pg cm hd lst md T2 := ⟨h.1, h.2.1, h.2.2.1, h.2.2.2.1.mono hT, h.2.2.2.2⟩
/-- what was counted changes -/
theorem RepS.lo {s s2 cs op : Nat → Int32} {pg cm hd : Nat} {lst md : Int32} {T : Nat} (h : RepS s cs op pg cm hd lst md T) {cm2 : Nat} {lst2 md2 : Int32} {T2 : Nat} (h0 : s2 0 = s 0) (hx : ∀ x, 4 ≤ x → s2 x = s x) (c1 : s2 1 = nI cm2) (c2 : s2 2 = lst2) (c3 : s2 3 = md2) (hT : T ≤ T2) : RepS s2 cs op pg cm2 hd lst2 md2 T2 := by
  obtain ⟨⟨a1, a2, a3, a4, a5⟩, ⟨b1, b2⟩, c, d, e1, e2⟩ := h.mono hT
  obtain ⟨d1, ta, tm, d2, d3⟩ := d
  refine ⟨⟨by rw [h0]; exact a1, a2, c1, c2, c3⟩, ⟨fun b hb => by rw [hx _ (by omega)]; exact b1 b hb, fun b hb => by rw [hx _ (by omega)]; exact b2 b hb⟩, fun k j hk hj h5 => by rw [hx _ (by omega)]; exact c k j hk hj h5, ⟨d1, ta, tm, fun k hk => by rw [hx _ (by omega)]; exact d2 k hk, d3⟩, fun k hk => by rw [hx _ (by omega)]; exact e1 k hk, fun k j hk hj h5 => by rw [hx _ (by omega)]; exact e2 k j hk hj h5⟩
/-- cells change, not those of the latest heads -/
theorem RepS.cells {s s2 cs cs2 op : Nat → Int32} {pg cm hd : Nat} {lst md : Int32} {T : Nat} (h : RepS s cs op pg cm hd lst md T) (h8 : ∀ x, x < 8 → s2 x = s x) (ha : agr cs2 s2 pg) (h5 : ∀ k, k < pg → cs2 (k * 50 + 5) = cs (k * 50 + 5) ∧ s2 (8 + 50 * k + 5) = s (8 + 50 * k + 5)) (hc : cellsOk s2 pg) : RepS s2 cs2 op pg cm hd lst md T := by
  obtain ⟨⟨a1, a2, a3, a4, a5⟩, ⟨b1, b2⟩, c, ⟨d1, ta, tm, d2, d3⟩, e⟩ := h
  refine ⟨⟨by rw [h8 0 (by omega)]; exact a1, a2, by rw [h8 1 (by omega)]; exact a3, by rw [h8 2 (by omega)]; exact a4, by rw [h8 3 (by omega)]; exact a5⟩, ⟨fun b hb => by rw [h8 _ (by omega)]; exact b1 b hb, fun b hb => by rw [h8 _ (by omega)]; exact b2 b hb⟩, ha, ⟨d1, ta, tm, fun k hk => by rw [(h5 k hk).1, (h5 k hk).2]; exact d2 k hk, d3⟩, hc⟩
theorem m1_le_nI {n : Nat} (h : n < 2147483648) : -1 ≤ nI n := by
  rw [Int32.le_iff_toInt_le, nI_toInt h, show (-1 : Int32).toInt = -1 by decide]
  omega
theorem row1_ge {x : Int32} (o : Nat) (h : -1 ≤ x) : -1 ≤ row1 x o := by
  unfold row1
  split
  · exact m1_le_nI (by omega)
  · split
    · exact m1_le_nI (by omega)
    · exact h
theorem row_out {i j k row : Nat} (hrow : row < 5) (hj : j < 10) : ¬ (8 + 50 * k + 10 + 8 * row ≤ 8 + 50 * i + j ∧ 8 + 50 * i + j < 8 + 50 * k + 10 + 8 * row + 8) := by
  rintro ⟨p, q⟩
  rcases Nat.lt_trichotomy i k with c | c | c
  · omega
  · omega
  · omega
theorem row_out2 {i j k row : Nat} (hrow : row < 5) (hj : j < 10) : ¬ (k * 50 + 10 + row * 8 ≤ i * 50 + j ∧ i * 50 + j < k * 50 + 10 + row * 8 + 8) := by
  rintro ⟨p, q⟩
  rcases Nat.lt_trichotomy i k with c | c | c
  · omega
  · omega
  · omega
theorem rep_row {s cs op : Nat → Int32} {pg cm hd : Nat} {lst md : Int32} {T k row : Nat} {pk : Nat → Nat} (h : RepS s cs op pg cm hd lst md T) (hrow : row < 5) : RepS (rowF s k row pk) (rwF cs pk (k * 50 + 10 + row * 8) 8) op pg cm hd lst md T := by
  obtain ⟨-, -, ha, -, e1, e2⟩ := id h
  refine h.cells (fun x hx => ?_) (fun i j hi hj h5 => ?_) (fun i hi => ⟨?_, ?_⟩) ⟨fun i hi => ?_, fun i j hi hj hj2 => ?_⟩
  · simp only [rowF, rwF]; rw [if_neg (by omega)]
  · simp only [rowF, rwF]
    by_cases c : k * 50 + 10 + row * 8 ≤ i * 50 + j ∧ i * 50 + j < k * 50 + 10 + row * 8 + 8
    · rw [if_pos c, if_pos (by omega), ha i j hi hj h5, show i * 50 + j - (k * 50 + 10 + row * 8) = 8 + 50 * i + j - (8 + 50 * k + 10 + 8 * row) by omega]
    · rw [if_neg c, if_neg (by omega), ha i j hi hj h5]
  · simp only [rwF]; rw [if_neg (row_out2 hrow (by decide))]
  · simp only [rowF, rwF]; rw [if_neg (row_out hrow (by decide))]
  · simp only [rowF, rwF]; rw [if_neg (row_out hrow (by decide))]; exact e1 i hi
  · simp only [rowF, rwF]
    split
    · exact row1_ge _ (e2 i j hi hj hj2)
    · exact e2 i j hi hj hj2
theorem rep_link {s cs op : Nat → Int32} {pg cm hd : Nat} {lst md : Int32} {T k : Nat} {pk : Nat → Nat} (h : RepS s cs op pg cm hd lst md T) (hk : k < pg) : RepS (linkF s k pk) (lkF cs pk (k * 50 + 6) 4) op pg cm hd lst (mdF pk 2 8 md) T := by
  have hm : RepS (upd s 3 (mdF pk 2 8 (s 3))) cs op pg cm hd lst (mdF pk 2 8 md) T := h.lo (upd_n _ _ (by omega)) (fun x hx => upd_n _ _ (by omega)) (by rw [upd_n _ _ (by omega)]; exact h.1.2.2.1) (by rw [upd_n _ _ (by omega)]; exact h.1.2.2.2.1) (by rw [upd_s, h.1.2.2.2.2]) (Nat.le_refl _)
  obtain ⟨-, -, ha, -, e1, e2⟩ := id hm
  refine hm.cells (fun x hx => ?_) (fun i j hi hj h5 => ?_) (fun i hi => ⟨?_, ?_⟩) ⟨fun i hi => ?_, fun i j hi hj hj2 => ?_⟩
  · simp only [linkF, lkF]; rw [if_neg (by omega)]
  · simp only [linkF, lkF]
    by_cases c : k * 50 + 6 ≤ i * 50 + j ∧ i * 50 + j < k * 50 + 6 + 4
    · rw [if_pos c, if_pos (by omega), ha i j hi hj h5, show i * 50 + j - (k * 50 + 6) = 8 + 50 * i + j - (8 + 50 * k + 6) by omega]
    · rw [if_neg c, if_neg (by omega), ha i j hi hj h5]
  · simp only [lkF]; rw [if_neg (by omega)]
  · simp only [linkF, lkF]; rw [if_neg (by omega)]
  · simp only [linkF, lkF]; rw [if_neg (by omega)]; exact e1 i hi
  · simp only [linkF, lkF]; rw [if_neg (by omega)]; exact e2 i j hi hj hj2
theorem rep_clear {s cs op : Nat → Int32} {pg cm hd : Nat} {lst md : Int32} {T k : Nat} (h : RepS s cs op pg cm hd lst md T) (hk : k < pg) : RepS (empF s k) (clF cs k) op pg cm hd lst md T := by
  obtain ⟨-, -, ha, -, e1, e2⟩ := id h
  refine h.cells (fun x hx => empF_lo hx) (fun i j hi hj h5 => ?_) (fun i hi => ⟨?_, ?_⟩) ⟨fun i hi => ?_, fun i j hi hj hj2 => ?_⟩
  · simp only [empF, clF, fillF]
    by_cases c : k * 50 + 6 ≤ i * 50 + j ∧ i * 50 + j < (k + 1) * 50
    · rw [if_pos c, if_pos (by omega)]
    · rw [if_neg c, if_neg (by omega), ha i j hi hj h5]
  · simp only [clF, fillF]; rw [if_neg (by omega)]
  · simp only [empF, fillF]; rw [if_neg (by omega)]
  · simp only [empF, fillF]; rw [if_neg (by omega)]; exact e1 i hi
  · simp only [empF, fillF]
    split
    · exact Int32.le_refl _
    · exact e2 i j hi hj hj2
theorem rep_weight {s cs op : Nat → Int32} {pg cm hd : Nat} {lst md : Int32} {T k : Nat} (v : Int32) (h : RepS s cs op pg cm hd lst md T) (hk : k < pg) : RepS (upd s (8 + 50 * k + 4) v) (upd cs (k * 50 + 4) v) op pg cm hd lst md T := by
  obtain ⟨-, -, ha, -, e1, e2⟩ := id h
  refine h.cells (fun x hx => upd_n _ _ (by omega)) (fun i j hi hj h5 => ?_) (fun i hi => ⟨?_, ?_⟩) ⟨fun i hi => ?_, fun i j hi hj hj2 => ?_⟩
  · by_cases c : i * 50 + j = k * 50 + 4
    · rw [c, upd_s, show 8 + 50 * i + j = 8 + 50 * k + 4 by omega, upd_s]
    · rw [upd_n _ _ c, upd_n _ _ (by omega), ha i j hi hj h5]
  · exact upd_n _ _ (by omega)
  · exact upd_n _ _ (by omega)
  · rw [upd_n _ _ (by omega)]; exact e1 i hi
  · rw [upd_n _ _ (by omega)]; exact e2 i j hi hj hj2
/-- a page goes -/
def skP (k j : Nat) : Nat := if j < k then j else j + 1
theorem skP_lt {k j pg : Nat} (h : j < pg - 1) : skP k j < pg := by unfold skP; split <;> omega
theorem skP_mono {k i j : Nat} : i = j ↔ skP k i = skP k j := by unfold skP; split <;> split <;> omega
theorem goes_hi {s : Nat → Int32} {pg k x : Nat} (hx : 8 ≤ x) : goesF s pg k x = if 8 + 50 * k ≤ x ∧ x < 8 + 50 * (pg - 1) then s (x + 50) else s x := by
  simp only [goesF, shP]
  rw [if_neg (by omega), upd_n _ _ (by omega)]
  rfl
theorem goes_pg {s : Nat → Int32} {pg k j c : Nat} (hj : j < pg - 1) (hc : c < 50) : goesF s pg k (8 + 50 * j + c) = s (8 + 50 * skP k j + c) := by
  rw [goes_hi (by omega), skP]
  by_cases q : j < k
  · rw [if_pos q, if_neg (by omega)]
  · rw [if_neg q, if_pos (by omega)]; congr 1; omega
theorem rm_pg {cs : Nat → Int32} {pg k j c : Nat} (hj : j < pg - 1) (hc : c < 50) : rmF cs pg k (j * 50 + c) = cs (skP k j * 50 + c) := by
  simp only [rmF, va_cpy, skP]
  by_cases q : j < k
  · rw [if_pos q, if_neg (by omega)]
  · rw [if_neg q, if_pos (by
      constructor
      · omega
      · have : (pg - 1 - k) * 50 + k * 50 = (pg - 1 - k + k) * 50 := by omega
        by_cases z : k ≤ pg - 1
        · omega
        · omega)]
    congr 1; omega
theorem goes_123 {s : Nat → Int32} {pg k x : Nat} (h0 : 0 < x) (h4 : x < 4) : goesF s pg k x = s x := by
  simp only [goesF, shP]
  rw [if_neg (by omega), upd_n _ _ (by omega), shF_lo _ (by omega)]
theorem rep_goes {s cs op : Nat → Int32} {pg cm hd : Nat} {lst md : Int32} {T k : Nat} (h : RepS s cs op pg cm hd lst md T) (hk : k < pg) : RepS (goesF s pg k) (rmF cs pg k) (shQ op k 4) (pg - 1) cm hd lst md T := by
  obtain ⟨⟨a1, a2, a3, a4, a5⟩, ⟨b1, b2⟩, c, ⟨d1, ta, tm, d2, d3⟩, e1, e2⟩ := h
  refine ⟨⟨goesF_0 _ _ _, by omega, by rw [goes_123 (by omega) (by omega)]; exact a3, by rw [goes_123 (by omega) (by omega)]; exact a4, by rw [goes_123 (by omega) (by omega)]; exact a5⟩, ⟨fun b hb => ?_, goes_ok a2 hk b2⟩, fun i j hi hj h5 => ?_, ⟨d1, fun i => ta (skP k i), fun i => tm (skP k i), fun i hi => ?_, fun i j hi hj => d3 _ _ (skP_lt hi) (skP_lt hj)⟩, fun i hi => ?_, fun i j hi hj hj2 => ?_⟩
  · simp only [shQ]; rw [if_pos hb, goes_op hb, b1 b hb]
  · rw [rm_pg hi hj, goes_pg hi hj]; exact c _ j (skP_lt hi) hj h5
  · rw [rm_pg hi (by omega), goes_pg hi (by omega)]; exact d2 _ (skP_lt hi)
  · rw [goes_pg hi (by omega)]; exact e1 _ (skP_lt hi)
  · rw [goes_pg hi hj2]; exact e2 _ j (skP_lt hi) hj hj2
theorem rep_old {s cs op : Nat → Int32} {pg cm hd : Nat} {lst md : Int32} {T : Nat} (h : RepS s cs op pg cm hd lst md T) (hT : T < 2147483648) : ∀ n, n < pg → oldS (latA cs) n = oldS (latF s) n := by
  obtain ⟨-, -, -, ⟨d1, ta, tm, d2, d3⟩, -⟩ := h
  intro n
  induction n with
  | zero => intro _; rfl
  | succ n ih =>
    intro hn
    have hle := oldS_le (latF s) n
    have g1 := d2 (n + 1) hn
    have g2 := d2 (oldS (latF s) n) (by omega)
    have g3 := d3 (n + 1) (oldS (latF s) n) hn (by omega)
    rw [oldS, oldS, ih (by omega)]
    have e1 : latA cs (n + 1) < latA cs (oldS (latF s) n) ↔ latF s (n + 1) < latF s (oldS (latF s) n) := by
      show cs ((n + 1) * 50 + 5) < cs (oldS (latF s) n * 50 + 5) ↔ s (8 + 50 * (n + 1) + 5) < s (8 + 50 * oldS (latF s) n + 5)
      rw [g1.1, g2.1, g1.2.2.1, g2.2.2.1, nI_ltI (by omega) (by omega), nI_ltI (by omega) (by omega)]
      exact g3
    by_cases c : latF s (n + 1) < latF s (oldS (latF s) n)
    · rw [if_pos c, if_pos (e1.mpr c)]
    · rw [if_neg c, if_neg (fun z => c (e1.mp z))]
/-- all but one page's latest head stands -/
def PreH (s cs op : Nat → Int32) (pg cm hd : Nat) (lst md : Int32) (T k : Nat) : Prop :=
  (s 0 = nI pg ∧ pg ≤ 10 ∧ s 1 = nI cm ∧ s 2 = lst ∧ s 3 = md) ∧ ((∀ b, b < 4 → op b = s (4 + b)) ∧ opOk s pg) ∧ agr cs s pg ∧ (hd < T ∧ ∃ ta tm : Nat → Nat, (∀ i, i < pg → ¬ i = k → cs (i * 50 + 5) = nI (ta i) ∧ ta i ≤ hd ∧ s (8 + 50 * i + 5) = nI (tm i) ∧ tm i < T) ∧ ∀ i j, i < pg → j < pg → ¬ i = k → ¬ j = k → (ta i < ta j ↔ tm i < tm j)) ∧ cellsOk s pg
theorem RepS.pre {s cs op : Nat → Int32} {pg cm hd : Nat} {lst md : Int32} {T : Nat} (h : RepS s cs op pg cm hd lst md T) (k : Nat) : PreH s cs op pg cm hd lst md T k := by
  obtain ⟨a, b, c, ⟨d1, ta, tm, d2, d3⟩, e⟩ := h
  exact ⟨a, b, c, ⟨d1, ta, tm, fun i hi _ => d2 i hi, fun i j hi hj _ _ => d3 i j hi hj⟩, e⟩
theorem mn_bump {h : Nat} (hh : h ≤ 9999) : mnI (nI h + nI 1) = bump (nI h) ∧ ∃ h2, h2 ≤ 9999 ∧ bump (nI h) = nI h2 := by
  unfold mnI bump
  rw [nI_add]
  by_cases c : h < 9999
  · rw [if_neg (fun q => absurd ((nI_ltI (by omega) (by omega)).mp q) (by omega)), if_pos ((nI_ltI (by omega) (by omega)).mpr c)]
    exact ⟨rfl, h + 1, by omega, rfl⟩
  · rw [if_pos ((nI_ltI (by omega) (by omega)).mpr (by omega)), if_neg (fun q => c ((nI_ltI (by omega) (by omega)).mp q))]
    exact ⟨by rw [show h = 9999 by omega], 9999, by omega, by rw [show h = 9999 by omega]⟩
theorem rep_head {s cs op : Nat → Int32} {pg cm hd : Nat} {lst md : Int32} {k b : Nat} (h : PreH s cs op pg cm hd lst md cm k) (hk : k < pg) (hb : b < 4) : RepS (hd2 (hd1 s k) k b) (finF cs k hd) (upd op b (nI k)) pg cm (hd + 1) lst md (cm + 1) := by
  obtain ⟨⟨a1, a2, a3, a4, a5⟩, ⟨b1, b2⟩, c, ⟨d1, ta, tm, d2, d3⟩, e1, e2⟩ := h
  obtain ⟨hh, hh1, hh2⟩ := e1 k hk
  obtain ⟨mb1, h2, mb2, mb3⟩ := mn_bump hh1
  have lo : ∀ x, x < 8 → ¬ x = 4 + b → hd2 (hd1 s k) k b x = s x := fun x hx hn => by simp only [hd2, hd1]; rw [upd_n _ _ hn, upd_n _ _ (by omega), upd_n _ _ (by omega)]
  have at3 : hd2 (hd1 s k) k b (8 + 50 * k + 3) = bump (nI hh) := by simp only [hd2, hd1]; rw [upd_n _ _ (by omega), upd_n _ _ (by omega), upd_s, hh2]
  have at5 : hd2 (hd1 s k) k b (8 + 50 * k + 5) = nI cm := by simp only [hd2, hd1]; rw [upd_n _ _ (by omega), upd_s, upd_n _ _ (by omega), a3]
  have atn : ∀ x, 8 ≤ x → ¬ x = 8 + 50 * k + 3 → ¬ x = 8 + 50 * k + 5 → hd2 (hd1 s k) k b x = s x := fun x hx h3 h5 => by simp only [hd2, hd1]; rw [upd_n _ _ (by omega), upd_n _ _ h5, upd_n _ _ h3]
  have c3 : finF cs k hd (k * 50 + 3) = bump (nI hh) := by rw [finF_eq, upd_s, c k 3 hk (by omega) (by omega), hh2, mb1]
  have c5 : finF cs k hd (k * 50 + 5) = nI (hd + 1) := by rw [finF_eq, upd_n _ _ (by omega), upd_s]
  have cn : ∀ x, ¬ x = k * 50 + 3 → ¬ x = k * 50 + 5 → finF cs k hd x = cs x := fun x h3 h5 => by rw [finF_eq, upd_n _ _ h3, upd_n _ _ h5]
  refine ⟨⟨by rw [lo 0 (by omega) (by omega)]; exact a1, a2, by rw [lo 1 (by omega) (by omega)]; exact a3, by rw [lo 2 (by omega) (by omega)]; exact a4, by rw [lo 3 (by omega) (by omega)]; exact a5⟩, ⟨fun x hx => ?_, fun x hx => ?_⟩, fun i j hi hj h5 => ?_, ⟨by omega, fun i => if i = k then hd + 1 else ta i, fun i => if i = k then cm else tm i, fun i hi => ?_, fun i j hi hj => ?_⟩, fun i hi => ?_, fun i j hi hj hj2 => ?_⟩
  · by_cases q : x = b
    · subst q; rw [upd_s]; simp only [hd2]; rw [upd_s]
    · rw [upd_n _ _ q, lo _ (by omega) (by omega)]; exact b1 x hx
  · by_cases q : x = b
    · subst q; simp only [hd2]; rw [upd_s]; exact Or.inr ⟨k, hk, rfl⟩
    · rw [lo _ (by omega) (by omega)]; exact b2 x hx
  · by_cases q : i = k
    · subst q
      by_cases q3 : j = 3
      · subst q3; rw [c3, at3]
      · rw [cn _ (by omega) (by omega), atn _ (by omega) (by omega) (by omega)]; exact c i j hi hj h5
    · rw [cn _ (by omega) (by omega), atn _ (by omega) (by omega) (by omega)]; exact c i j hi hj h5
  · dsimp only
    by_cases q : i = k
    · rw [if_pos q, if_pos q]; subst q; rw [c5, at5]; exact ⟨rfl, Nat.le_refl _, rfl, by omega⟩
    · rw [if_neg q, if_neg q, cn _ (by omega) (by omega), atn _ (by omega) (by omega) (by omega)]
      have := d2 i hi q
      exact ⟨this.1, by omega, this.2.2.1, by omega⟩
  · dsimp only
    by_cases q : i = k
    · rw [if_pos q, if_pos q]
      subst q
      by_cases q2 : j = i
      · rw [if_pos q2, if_pos q2]; omega
      · rw [if_neg q2, if_neg q2]
        have := d2 j hj q2
        omega
    · rw [if_neg q, if_neg q]
      have w1 := d2 i hi q
      by_cases q2 : j = k
      · rw [if_pos q2, if_pos q2]; omega
      · rw [if_neg q2, if_neg q2]; exact d3 i j hi hj q q2
  · by_cases q : i = k
    · subst q; rw [at3]; exact ⟨h2, mb2, mb3⟩
    · rw [atn _ (by omega) (by omega) (by omega)]; exact e1 i hi
  · by_cases q : i = k
    · subst q; rw [atn _ (by omega) (by omega) (by omega)]; exact e2 i j hi hj hj2
    · rw [atn _ (by omega) (by omega) (by omega)]; exact e2 i j hi hj hj2
theorem pre_new {s cs op : Nat → Int32} {pg cm hd : Nat} {lst md : Int32} {T : Nat} (b n p : Int32) (h : RepS s cs op pg cm hd lst md T) (hp : pg < 10) : PreH (empF (put5 (upd s 0 (nI (pg + 1))) pg b n p) pg) (apF cs pg b n p) op (pg + 1) cm hd lst md T pg := by
  obtain ⟨⟨a1, a2, a3, a4, a5⟩, ⟨b1, b2⟩, c, ⟨d1, ta, tm, d2, d3⟩, e1, e2⟩ := h
  have lo : ∀ x, x < 8 → ¬ x = 0 → empF (put5 (upd s 0 (nI (pg + 1))) pg b n p) pg x = s x := fun x hx h0 => by rw [empF_lo hx, put5_lo hx, upd_n _ _ h0]
  have sold : ∀ i j, i < pg → j < 50 → empF (put5 (upd s 0 (nI (pg + 1))) pg b n p) pg (8 + 50 * i + j) = s (8 + 50 * i + j) := fun i j hi hj => by
    simp only [empF, fillF, put5]
    rw [if_neg (by omega), upd_n _ _ (by omega), upd_n _ _ (by omega), upd_n _ _ (by omega), upd_n _ _ (by omega), upd_n _ _ (by omega), upd_n _ _ (by omega)]
  have cold : ∀ i j, i < pg → j < 50 → apF cs pg b n p (i * 50 + j) = cs (i * 50 + j) := fun i j hi hj => by
    simp only [apF, fillF]
    rw [if_neg (by omega), upd_n _ _ (by omega), upd_n _ _ (by omega), upd_n _ _ (by omega), upd_n _ _ (by omega), upd_n _ _ (by omega)]
  have snew : ∀ j, j < 50 → ¬ j = 5 → empF (put5 (upd s 0 (nI (pg + 1))) pg b n p) pg (8 + 50 * pg + j) = apF cs pg b n p (pg * 50 + j) := fun j hj h5 => by
    simp only [empF, apF, fillF, put5]
    by_cases q : 6 ≤ j
    · rw [if_pos (by omega), if_pos (by omega)]
    · rw [if_neg (by omega), if_neg (by omega)]
      rcases (show j = 0 ∨ j = 1 ∨ j = 2 ∨ j = 3 ∨ j = 4 by omega) with rfl | rfl | rfl | rfl | rfl
      · rw [upd_n _ _ (by omega), upd_n _ _ (by omega), upd_n _ _ (by omega), upd_n _ _ (by omega), upd_s, upd_n _ _ (by omega), upd_n _ _ (by omega), upd_n _ _ (by omega), upd_n _ _ (by omega), upd_s]
      · rw [upd_n _ _ (by omega), upd_n _ _ (by omega), upd_n _ _ (by omega), upd_s, upd_n _ _ (by omega), upd_n _ _ (by omega), upd_n _ _ (by omega), upd_s]
      · rw [upd_n _ _ (by omega), upd_n _ _ (by omega), upd_s, upd_n _ _ (by omega), upd_n _ _ (by omega), upd_s]
      · rw [upd_n _ _ (by omega), upd_s, upd_n _ _ (by omega), upd_s]
      · rw [upd_s, upd_s]
  refine ⟨⟨by rw [empF_lo (by omega), put5_lo (by omega), upd_s], by omega, by rw [lo 1 (by omega) (by omega)]; exact a3, by rw [lo 2 (by omega) (by omega)]; exact a4, by rw [lo 3 (by omega) (by omega)]; exact a5⟩, ⟨fun x hx => by rw [lo _ (by omega) (by omega)]; exact b1 x hx, fun x hx => ?_⟩, fun i j hi hj h5 => ?_, ⟨d1, ta, tm, fun i hi hn => ?_, fun i j hi hj hn1 hn2 => d3 i j (by omega) (by omega)⟩, fun i hi => ?_, fun i j hi hj hj2 => ?_⟩
  · rw [lo _ (by omega) (by omega)]
    rcases b2 x hx with q | ⟨j, hj, q⟩
    · exact Or.inl q
    · exact Or.inr ⟨j, by omega, q⟩
  · by_cases q : i = pg
    · subst q; exact (snew j hj h5).symm
    · rw [cold i j (by omega) hj, sold i j (by omega) hj]; exact c i j (by omega) hj h5
  · rw [cold i 5 (by omega) (by omega), sold i 5 (by omega) (by omega)]; exact d2 i (by omega)
  · by_cases q : i = pg
    · subst q
      refine ⟨0, by omega, ?_⟩
      simp only [empF, fillF, put5]
      rw [if_neg (by omega), upd_n _ _ (by omega), upd_s]
    · rw [sold i 3 (by omega) (by omega)]; exact e1 i (by omega)
  · by_cases q : i = pg
    · subst q
      simp only [empF, fillF]
      rw [if_pos (by omega)]
      exact Int32.le_refl _
    · rw [sold i j (by omega) hj2]; exact e2 i j (by omega) hj hj2
/-- opening a page: found, room made, behind the others -/
theorem rep_open {s cs op cs2 op2 : Nat → Int32} {pg cm hd pg2 k b : Nat} {lst md : Int32} {pk : Nat → Nat} (h : RepS s cs op pg cm hd lst md cm) (hcm : cm < 2147483648) (hb : b < 4) (ho : opnR cs op pg hd b (hdI s pg pk b) (nI (hdN pk)) (nI (decN (pk 4))) cs2 op2 pg2 k) :
    RepS (hd2 (hd1 (hdS s pg pk b) (hdK s pg pk b)) (hdK s pg pk b) b) cs2 op2 pg2 cm (hd + 1) lst md (cm + 1) ∧ k = hdK s pg pk b ∧ k < pg2 := by
  rcases ho with ⟨h1, rfl, rfl, rfl, rfl⟩ | ⟨h1, h2, rfl, rfl, rfl, rfl⟩ | ⟨h1, h2, rfl, rfl, rfl, rfl⟩
  · rw [hdK, if_pos h1, hdS, if_pos h1]
    exact ⟨rep_head (h.pre _) h1 hb, rfl, h1⟩
  · subst h2
    have ho := oldS_le (latF s) 9
    rw [rep_old h hcm 9 (by omega)]
    have hg := rep_goes (k := oldS (latF s) 9) h (by omega)
    have hn := pre_new (nI b) (nI (hdN pk)) (nI (decN (pk 4))) hg (by omega)
    have := rep_head hn (by omega) hb
    rw [hdK, if_neg h1, hdS, if_neg h1, newK, if_pos rfl, newF, newB, newK, if_pos rfl, if_pos rfl]
    exact ⟨this, rfl, by omega⟩
  · have hn := pre_new (nI b) (nI (hdN pk)) (nI (decN (pk 4))) h h2
    have := rep_head hn (by omega) hb
    rw [hdK, if_neg h1, hdS, if_neg h1, newK, if_neg (by omega), newF, newB, newK, if_neg (by omega), if_neg (by omega)]
    exact ⟨this, rfl, by omega⟩
/-- a copy of a state -/
theorem rep_copy {s cs op cs0 op0 : Nat → Int32} {pg cm hd : Nat} {lst md : Int32} {T : Nat} (h : RepS s cs op pg cm hd lst md T) : RepS s (va_cpy cs cs0 0 0 (pg * 50)) (va_cpy op op0 0 0 4) pg cm hd lst md T := by
  obtain ⟨a, ⟨b1, b2⟩, c, ⟨d1, ta, tm, d2, d3⟩, e⟩ := h
  have hc : ∀ i j, i < pg → j < 50 → va_cpy cs cs0 0 0 (pg * 50) (i * 50 + j) = cs (i * 50 + j) := fun i j hi hj => by
    simp only [va_cpy]
    rw [if_pos (by omega)]
    congr 1; omega
  refine ⟨a, ⟨fun b hb => ?_, b2⟩, fun i j hi hj h5 => by rw [hc i j hi hj]; exact c i j hi hj h5, ⟨d1, ta, tm, fun i hi => by rw [hc i 5 hi (by omega)]; exact d2 i hi, d3⟩, e⟩
  simp only [va_cpy]
  rw [if_pos (by omega), show 0 + (b - 0) = b by omega]
  exact b1 b hb
