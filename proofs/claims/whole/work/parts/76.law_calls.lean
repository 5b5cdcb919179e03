/-! THE LAW'S CALLS on both worlds. -/
section P76
variable {l : Launch} {G : vG} {tC : Nat} {ad : Nat → Nat} {N o q B : Nat} {E : Nat → va_E}
variable {s pa : Nat → Int32} {pm co : Nat} {ck : Nat → Nat} {em : Nat} {ek er ei el : Nat → Nat} {sn : Nat} {ke : Nat → Int32} {ks : Nat → Nat} {kp : Nat → Int32}
theorem RepS.ok {s cs op : Nat → Int32} {pg cm hd : Nat} {lst md : Int32} {T : Nat} (h : RepS s cs op pg cm hd lst md T) : okS s := by
  unfold okS
  rw [rep_pgS h]
  exact ⟨h.1.1, h.1.2.1, h.2.1.2⟩
theorem ck_step {cg : Nat → Int32} {n : Nat} (h : ∀ j, j < co → cg j = nI (ck j)) : ∀ j, j < co + 1 → upd cg co (nI n) j = nI ((fun i => if i = co then n else ck i) j) := by
  intro j hj
  by_cases e : j = co
  · subst e
    rw [upd_s]
    show nI n = nI (if j = j then n else ck j)
    rw [if_pos rfl]
  · rw [upd_n _ _ e]
    show cg j = nI (if j = co then n else ck j)
    rw [if_neg e]
    exact h j (by omega)
theorem ck_lt {n : Nat} (hn : n < 256) (h : ∀ j, j < co → ck j < 256) : ∀ j, j < co + 1 → (fun i => if i = co then n else ck i) j < 256 := by
  intro j hj
  show (if j = co then n else ck j) < 256
  split
  · exact hn
  · exact h j (by omega)
/-- one more behind others -/
theorem add_k {f g : Nat → Nat} {n : Nat} (hg : g = fun i => if i = em then n else f i) : g em = n ∧ ∀ e, e ≠ em → g e = f e := by
  subst hg
  exact ⟨if_pos rfl, fun e he => if_neg he⟩
theorem bk_step {bp br bi bl : Nat → Int32} {a b c d : Nat} (h : bkOk bp br bi bl em ek er ei el) (ha : a < 10) (hb : b < 5) (hc : c < 8) : bkOk (upd bp em (nI a)) (upd br em (nI b)) (upd bi em (nI c)) (upd bl em (nI d)) (em + 1) (fun i => if i = em then a else ek i) (fun i => if i = em then b else er i) (fun i => if i = em then c else ei i) (fun i => if i = em then d else el i) := by
  intro e he
  by_cases q : e = em
  · subst q
    rw [upd_s, upd_s, upd_s, upd_s]
    simp only [if_pos]
    exact ⟨⟨trivial, ha⟩, ⟨trivial, hb⟩, ⟨trivial, hc⟩, trivial⟩
  · rw [upd_n _ _ q, upd_n _ _ q, upd_n _ _ q, upd_n _ _ q]
    simp only [if_neg q]
    exact h e (by omega)
theorem en_step {en : Nat → Int32} {a b c d : Nat} (h : enOk en em ek er ei el) (ha : a < 10) (hb : b < 5) (hc : c < 8) : enOk (en4 en em (nI a) (nI b) (nI c) (nI d)) (em + 1) (fun i => if i = em then a else ek i) (fun i => if i = em then b else er i) (fun i => if i = em then c else ei i) (fun i => if i = em then d else el i) := by
  intro e he
  by_cases q : e = em
  · subst q
    have e0 : en4 en e (nI a) (nI b) (nI c) (nI d) (4 * e) = nI a := by
      simp only [en4, upd]
      rw [if_neg (by omega), if_neg (by omega), if_neg (by omega), if_pos trivial]
    have e1 : en4 en e (nI a) (nI b) (nI c) (nI d) (4 * e + 1) = nI b := by
      simp only [en4, upd]
      rw [if_neg (by omega), if_neg (by omega), if_pos trivial]
    have e2 : en4 en e (nI a) (nI b) (nI c) (nI d) (4 * e + 2) = nI c := by
      simp only [en4, upd]
      rw [if_neg (by omega), if_pos trivial]
    have e3 : en4 en e (nI a) (nI b) (nI c) (nI d) (4 * e + 3) = nI d := by
      simp only [en4, upd]
      rw [if_pos trivial]
    rw [e0, e1, e2, e3]
    simp only [if_pos]
    exact ⟨⟨trivial, ha⟩, ⟨trivial, hb⟩, ⟨trivial, hc⟩, trivial⟩
  · have hx : ∀ t, t < 4 → en4 en em (nI a) (nI b) (nI c) (nI d) (4 * e + t) = en (4 * e + t) := fun t ht => by
      simp only [en4, upd]
      rw [if_neg (by omega), if_neg (by omega), if_neg (by omega), if_neg (by omega)]
    have h0 := hx 0 (by omega)
    rw [Nat.add_zero] at h0
    rw [h0, hx 1 (by omega), hx 2 (by omega), hx 3 (by omega)]
    simp only [if_neg q]
    exact h e (by omega)
theorem lN_of {e : Int64} (h : (nI 0).toInt64 ≤ e) : ∃ n : Nat, n < 9223372036854775808 ∧ e = lN n := by
  have h1 : (0 : Int) ≤ e.toInt := by
    have := Int64.le_iff_toInt_le.mp h
    rw [Int32.toInt_toInt64, nI_toInt (by omega)] at this
    exact this
  have h2 : e.toInt < 9223372036854775808 := Int64.toInt_lt e
  refine ⟨e.toInt.toNat, by omega, Int64.toInt_inj.mp ?_⟩
  show e.toInt = (Int64.ofNat e.toInt.toNat).toInt
  rw [Int64.toInt_ofNat_of_lt (by omega)]
  omega
theorem dfI_le {x : MT} (h : x.2.2.1 ≤ 16) : ∀ n, (dfI x n).2.2.1 ≤ 16
  | 0 => h
  | n + 1 => ntK_le (dfI_le h n)
/-- what an image keeps, told by other words -/
theorem qIm.congr {z sn2 : Nat} {kq kq2 : Int32} {s2 : Nat → Int32} (h : qIm G ad E z B kq s sn) (hk : kq2 = nI 1 → kq = nI 1) (hs : ∀ x, x < 508 → s2 x = s x) (hn : sn2 = sn) : qIm G ad E z B kq2 s2 sn2 := by
  obtain ⟨pg, cm, hd, lst, md, sd, cs, op, h0, h1⟩ := h
  subst hn
  exact ⟨pg, cm, hd, lst, md, sd, cs, op, h0, fun q => ⟨(h1 (hk q)).1, (h1 (hk q)).2.1.congr hs, (h1 (hk q)).2.2⟩⟩
theorem slc_in (i x : Nat) (hx : x < 508) : slc (va_cpy s ke 0 (508 * i) 508) i x = s x := by
  simp only [slc, va_cpy]
  rw [if_pos (by omega)]
  congr 1; omega
theorem slc_out {i j : Nat} (h : i ≠ j) (x : Nat) (hx : x < 508) : slc (va_cpy s ke 0 (508 * i) 508) j x = slc ke j x := by
  simp only [slc, va_cpy]
  rw [if_neg (by omega)]
theorem kp_01 (i : Nat) (h : ∀ j, j < 2 → kp j = nI 0 ∨ kp j = nI 1) : ∀ j, j < 2 → upd kp i (nI 1) j = nI 0 ∨ upd kp i (nI 1) j = nI 1 := by
  intro j hj
  by_cases e : j = i
  · rw [e, upd_s]; exact Or.inr rfl
  · rw [upd_n _ _ e]; exact h j hj
theorem kp_sd (i : Nat) (hs : sn < 2147483648) (h : ∀ j, j < 2 → kp j = nI 1 → ks j < 2147483648) : ∀ j, j < 2 → upd kp i (nI 1) j = nI 1 → (fun j => if j = i then sn else ks j) j < 2147483648 := by
  intro j hj hk
  show (if j = i then sn else ks j) < 2147483648
  by_cases e : j = i
  · rw [if_pos e]; exact hs
  · rw [if_neg e]; rw [upd_n _ _ e] at hk; exact h j hj hk
theorem kl_step (i : Nat) {kl : Nat → Int64} (h : ∀ j, j < 2 → kp j = nI 1 → kl j = lN (ks j)) : ∀ j, j < 2 → upd kp i (nI 1) j = nI 1 → vp_updL kl i (lN sn) j = lN ((fun j => if j = i then sn else ks j) j) := by
  intro j hj hk
  show (if j = i then lN sn else kl j) = lN (if j = i then sn else ks j)
  by_cases e : j = i
  · rw [if_pos e, if_pos e]
  · rw [if_neg e, if_neg e]; rw [upd_n _ _ e] at hk; exact h j hj hk
set_option maxHeartbeats 1000000 in
theorem L_coded {v : Int32} (hN0 : q + 13 ≤ N) (hN : o + 75 ≤ q) (hB : B ≤ 9000) (hc : CL G ad E o B (s, pa, pm, co, ck, em, ek, er, ei, el, sn, ke, ks, kp)) (hb : Bd B (s, pa, pm, co, ck, em, ek, er, ei, el, sn, ke, ks, kp)) : LW l G tC ad N o q yX7_coded wsX7_coded ({ frames := 1, cells := 0, slots := 0, locals := 22 } : Room) yX8_coded wsX8_coded ({ frames := 2, cells := 0, slots := 0, locals := 48 } : Room) B E (s, pa, pm, co, ck, em, ek, er, ei, el, sn, ke, ks, kp) [.int v] := by
  exact LW.ro hc hb (c_X7_coded (by omega)) (fun E1 th m0 m1 hen m7 => c_X8_coded hN0 m0)
set_option maxHeartbeats 1000000 in
theorem L_read {v : Int32} (hN0 : q + 13 ≤ N) (hN : o + 75 ≤ q) (hB : B ≤ 9000) (hc : CL G ad E o B (s, pa, pm, co, ck, em, ek, er, ei, el, sn, ke, ks, kp)) (hb : Bd B (s, pa, pm, co, ck, em, ek, er, ei, el, sn, ke, ks, kp)) : LW l G tC ad N o q yX7_read wsX7_read ({ frames := 2, cells := 0, slots := 0, locals := 41 } : Room) yX8_read wsX8_read ({ frames := 3, cells := 0, slots := 0, locals := 70 } : Room) B E (s, pa, pm, co, ck, em, ek, er, ei, el, sn, ke, ks, kp) [.int v] := by
  exact LW.ro hc hb (c_X7_read (by omega)) (fun E1 th m0 m1 hen m7 => c_X8_read hN0 m0)
set_option maxHeartbeats 1000000 in
theorem L_told {w : Int32} (hN0 : q + 13 ≤ N) (hN : o + 75 ≤ q) (hB : B ≤ 9000) (hc : CL G ad E o B (s, pa, pm, co, ck, em, ek, er, ei, el, sn, ke, ks, kp)) (hb : Bd B (s, pa, pm, co, ck, em, ek, er, ei, el, sn, ke, ks, kp)) : LW l G tC ad N o q yX7_told wsX7_told ({ frames := 4, cells := 0, slots := 0, locals := 91 } : Room) yX8_told wsX8_told ({ frames := 3, cells := 0, slots := 0, locals := 69 } : Room) B E (s, pa, pm, co, ck, em, ek, er, ei, el, sn, ke, ks, kp) [.int w] := by
  obtain ⟨h0, hst, hrg, hAr, hI0, hI1, hkp, hbk, hrd, hsg, hwh⟩ := id hc
  obtain ⟨pg, cm, hd, lst, md, cs, op, ⟨h1, h2, h3⟩, hrep, hcm⟩ := id hst
  obtain ⟨k0, k1, k2, k3, k4, k5, k6⟩ := id hb
  have hs0 := hrep.1.1
  have hpg := hrep.1.2.1
  obtain ⟨bp, br, bi, bl, b0, b1, b2, b3, b4, b5⟩ := id hbk
  exact LW.ro hc hb (c_X7_told (by omega) h0 h1 h2 h3 b0 b1 b2 b3 b4 hrep b5 k2 hrg) (fun E1 th m0 m1 hen m7 => hen.elim fun en8 hn8 => c_X8_told hN0 m0 m1 hn8.1 hs0 hpg hn8.2 k2)
set_option maxHeartbeats 1000000 in
theorem L_open {b : Int32} (hN0 : q + 13 ≤ N) (hN : o + 75 ≤ q) (hB : B ≤ 9000) (hc : CL G ad E o B (s, pa, pm, co, ck, em, ek, er, ei, el, sn, ke, ks, kp)) (hb : Bd B (s, pa, pm, co, ck, em, ek, er, ei, el, sn, ke, ks, kp)) : LW l G tC ad N o q yX7_open wsX7_open ({ frames := 1, cells := 0, slots := 0, locals := 22 } : Room) yX8_open wsX8_open ({ frames := 1, cells := 0, slots := 0, locals := 25 } : Room) B E (s, pa, pm, co, ck, em, ek, er, ei, el, sn, ke, ks, kp) [.int b] := by
  obtain ⟨h0, hst, hrg, hAr, hI0, hI1, hkp, hbk, hrd, hsg, hwh⟩ := id hc
  obtain ⟨pg, cm, hd, lst, md, cs, op, ⟨h1, h2, h3⟩, hrep, hcm⟩ := id hst
  obtain ⟨k0, k1, k2, k3, k4, k5, k6⟩ := id hb
  have hs0 := hrep.1.1
  have hpg := hrep.1.2.1
  exact LW.ro hc hb (c_X7_open (by omega) h0 h1 h2 h3 hrep) (fun E1 th m0 m1 hen m7 => c_X8_open hN0 m0 m1)
set_option maxHeartbeats 1000000 in
theorem L_page {k : Int32} {w : Int32} (hN0 : q + 13 ≤ N) (hN : o + 75 ≤ q) (hB : B ≤ 9000) (hc : CL G ad E o B (s, pa, pm, co, ck, em, ek, er, ei, el, sn, ke, ks, kp)) (hb : Bd B (s, pa, pm, co, ck, em, ek, er, ei, el, sn, ke, ks, kp)) : LW l G tC ad N o q yX7_page wsX7_page ({ frames := 5, cells := 0, slots := 0, locals := 114 } : Room) yX8_page wsX8_page ({ frames := 4, cells := 0, slots := 0, locals := 88 } : Room) B E (s, pa, pm, co, ck, em, ek, er, ei, el, sn, ke, ks, kp) [.int k, .int w] := by
  obtain ⟨h0, hst, hrg, hAr, hI0, hI1, hkp, hbk, hrd, hsg, hwh⟩ := id hc
  obtain ⟨pg, cm, hd, lst, md, cs, op, ⟨h1, h2, h3⟩, hrep, hcm⟩ := id hst
  obtain ⟨k0, k1, k2, k3, k4, k5, k6⟩ := id hb
  have hs0 := hrep.1.1
  have hpg := hrep.1.2.1
  exact LW.ro hc hb (c_X7_page (by omega) h0 h1 h2 h3 hrep) (fun E1 th m0 m1 hen m7 => c_X8_page hN0 m0 m1 hs0 hpg)
set_option maxHeartbeats 1000000 in
theorem L_letter {k : Int32} {row : Int32} {i : Int32} (hN0 : q + 13 ≤ N) (hN : o + 75 ≤ q) (hB : B ≤ 9000) (hc : CL G ad E o B (s, pa, pm, co, ck, em, ek, er, ei, el, sn, ke, ks, kp)) (hb : Bd B (s, pa, pm, co, ck, em, ek, er, ei, el, sn, ke, ks, kp)) : LW l G tC ad N o q yX7_letter wsX7_letter ({ frames := 2, cells := 0, slots := 0, locals := 46 } : Room) yX8_letter wsX8_letter ({ frames := 2, cells := 0, slots := 0, locals := 46 } : Room) B E (s, pa, pm, co, ck, em, ek, er, ei, el, sn, ke, ks, kp) [.int k, .int row, .int i] := by
  obtain ⟨h0, hst, hrg, hAr, hI0, hI1, hkp, hbk, hrd, hsg, hwh⟩ := id hc
  obtain ⟨pg, cm, hd, lst, md, cs, op, ⟨h1, h2, h3⟩, hrep, hcm⟩ := id hst
  obtain ⟨k0, k1, k2, k3, k4, k5, k6⟩ := id hb
  have hs0 := hrep.1.1
  have hpg := hrep.1.2.1
  exact LW.ro hc hb (c_X7_letter (by omega) h0 h1 h2 h3 hrep) (fun E1 th m0 m1 hen m7 => c_X8_letter hN0 m0 m1 hs0 hpg)
set_option maxHeartbeats 1000000 in
theorem L_link {k : Int32} {i : Int32} (hN0 : q + 13 ≤ N) (hN : o + 75 ≤ q) (hB : B ≤ 9000) (hc : CL G ad E o B (s, pa, pm, co, ck, em, ek, er, ei, el, sn, ke, ks, kp)) (hb : Bd B (s, pa, pm, co, ck, em, ek, er, ei, el, sn, ke, ks, kp)) : LW l G tC ad N o q yX7_link wsX7_link ({ frames := 2, cells := 0, slots := 0, locals := 45 } : Room) yX8_link wsX8_link ({ frames := 2, cells := 0, slots := 0, locals := 46 } : Room) B E (s, pa, pm, co, ck, em, ek, er, ei, el, sn, ke, ks, kp) [.int k, .int i] := by
  obtain ⟨h0, hst, hrg, hAr, hI0, hI1, hkp, hbk, hrd, hsg, hwh⟩ := id hc
  obtain ⟨pg, cm, hd, lst, md, cs, op, ⟨h1, h2, h3⟩, hrep, hcm⟩ := id hst
  obtain ⟨k0, k1, k2, k3, k4, k5, k6⟩ := id hb
  have hs0 := hrep.1.1
  have hpg := hrep.1.2.1
  exact LW.ro hc hb (c_X7_link (by omega) h0 h1 h2 h3 hrep) (fun E1 th m0 m1 hen m7 => c_X8_link hN0 m0 m1 hs0 hpg)
set_option maxHeartbeats 1000000 in
theorem L_far {k : Int32} {y : Int32} (hN0 : q + 13 ≤ N) (hN : o + 75 ≤ q) (hB : B ≤ 9000) (hc : CL G ad E o B (s, pa, pm, co, ck, em, ek, er, ei, el, sn, ke, ks, kp)) (hb : Bd B (s, pa, pm, co, ck, em, ek, er, ei, el, sn, ke, ks, kp)) : LW l G tC ad N o q yX7_far wsX7_far ({ frames := 6, cells := 0, slots := 0, locals := 139 } : Room) yX8_far wsX8_far ({ frames := 3, cells := 0, slots := 0, locals := 66 } : Room) B E (s, pa, pm, co, ck, em, ek, er, ei, el, sn, ke, ks, kp) [.int k, .int y] := by
  obtain ⟨h0, hst, hrg, hAr, hI0, hI1, hkp, hbk, hrd, hsg, hwh⟩ := id hc
  obtain ⟨pg, cm, hd, lst, md, cs, op, ⟨h1, h2, h3⟩, hrep, hcm⟩ := id hst
  obtain ⟨k0, k1, k2, k3, k4, k5, k6⟩ := id hb
  have hs0 := hrep.1.1
  have hpg := hrep.1.2.1
  exact LW.ro hc hb (c_X7_far (by omega) h0 h1 h2 h3 hrep) (fun E1 th m0 m1 hen m7 => c_X8_far hN0 m0 m1 hs0 hpg)
set_option maxHeartbeats 1000000 in
theorem L_find {b : Int32} {n : Int32} {p9 : Int32} (hN0 : q + 13 ≤ N) (hN : o + 75 ≤ q) (hB : B ≤ 9000) (hc : CL G ad E o B (s, pa, pm, co, ck, em, ek, er, ei, el, sn, ke, ks, kp)) (hb : Bd B (s, pa, pm, co, ck, em, ek, er, ei, el, sn, ke, ks, kp)) : LW l G tC ad N o q yX7_find wsX7_find ({ frames := 2, cells := 0, slots := 0, locals := 47 } : Room) yX8_find wsX8_find ({ frames := 3, cells := 0, slots := 0, locals := 66 } : Room) B E (s, pa, pm, co, ck, em, ek, er, ei, el, sn, ke, ks, kp) [.int b, .int n, .int p9] := by
  obtain ⟨h0, hst, hrg, hAr, hI0, hI1, hkp, hbk, hrd, hsg, hwh⟩ := id hc
  obtain ⟨pg, cm, hd, lst, md, cs, op, ⟨h1, h2, h3⟩, hrep, hcm⟩ := id hst
  obtain ⟨k0, k1, k2, k3, k4, k5, k6⟩ := id hb
  have hs0 := hrep.1.1
  have hpg := hrep.1.2.1
  exact LW.ro hc hb (c_X7_find (by omega) h0 h1 h2 h3 hrep) (fun E1 th m0 m1 hen m7 => c_X8_find hN0 m0 m1 hs0 hpg)
set_option maxHeartbeats 1000000 in
theorem L_sent {rule : Int32} {i : Int32} (hN0 : q + 13 ≤ N) (hN : o + 75 ≤ q) (hB : B ≤ 9000) (hc : CL G ad E o B (s, pa, pm, co, ck, em, ek, er, ei, el, sn, ke, ks, kp)) (hb : Bd B (s, pa, pm, co, ck, em, ek, er, ei, el, sn, ke, ks, kp)) : LW l G tC ad N o q yX7_sent wsX7_sent ({ frames := 6, cells := 0, slots := 0, locals := 136 } : Room) yX8_sent wsX8_sent ({ frames := 6, cells := 0, slots := 0, locals := 140 } : Room) B E (s, pa, pm, co, ck, em, ek, er, ei, el, sn, ke, ks, kp) [.int rule, .int i] := by
  obtain ⟨h0, hst, hrg, hAr, hI0, hI1, hkp, hbk, hrd, hsg, hwh⟩ := id hc
  obtain ⟨pg, cm, hd, lst, md, cs, op, ⟨h1, h2, h3⟩, hrep, hcm⟩ := id hst
  obtain ⟨k0, k1, k2, k3, k4, k5, k6⟩ := id hb
  have hs0 := hrep.1.1
  have hpg := hrep.1.2.1
  obtain ⟨rp, tm, ln, wt, og, en, wa, r0, r1, r2, r3, r4, r5⟩ := id hrd
  refine ⟨a_sent s pg rule i, (s, pa, pm, co, ck, em, ek, er, ei, el, sn, ke, ks, kp), (c_X7_sent (by omega) h0 h1 h2 h3 r0 r1 r2 r3 r4 r5 hrep).mono ?_, fun E1 hm => ?_⟩
  · rintro r E2 ⟨ln2, wt2, og2, en2, wa2, tm2, rp2, g0, g1, g2, g3, g4, g5, hf, hr⟩
    exact ⟨hr, ⟨⟨h0.same (hf _ (by omega) (by omega) (by omega) (by omega) (by omega) (by omega)), (hst.same (fun j _ _ => hf j (by omega) (by omega) (by omega) (by omega) (by omega) (by omega))).mono (by omega), hrg.same (fun j _ _ => hf j (by omega) (by omega) (by omega) (by omega) (by omega) (by omega)), hAr.same (hf _ (by omega) (by omega) (by omega) (by omega) (by omega) (by omega)), (hI0.same (fun j _ _ => hf j (by omega) (by omega) (by omega) (by omega) (by omega) (by omega))).mono (by omega), (hI1.same (fun j _ _ => hf j (by omega) (by omega) (by omega) (by omega) (by omega) (by omega))).mono (by omega), hkp.same (hf _ (by omega) (by omega) (by omega) (by omega) (by omega) (by omega)), hbk.same (fun j _ _ => hf j (by omega) (by omega) (by omega) (by omega) (by omega) (by omega)), ⟨_, _, _, _, _, _, _, g0, g1, g2, g3, g4, g5⟩, hsg.same (hf _ (by omega) (by omega) (by omega) (by omega) (by omega) (by omega)), hwh.same (hf _ (by omega) (by omega) (by omega) (by omega) (by omega) (by omega))⟩, ⟨k0, k1, k2, k3, k4, k5, k6.mono (by omega)⟩⟩, fun j hj => hf j (by omega) (by omega) (by omega) (by omega) (by omega) (by omega)⟩
  · obtain ⟨⟨th, m0⟩, m1, ⟨pt, m2⟩, ⟨cg, m3, m3b⟩, m4, m5, ⟨kl, m6, m6b⟩, m7, ⟨en8, m8, m8b⟩, ⟨od, m9⟩, ⟨og, m10⟩, ⟨le, m11⟩, ⟨wa, m12⟩⟩ := hm
    refine (c_X8_sent hN0 m0 m1 m9 m10 m11 m12 hs0 hpg).mono ?_
    rintro r E2 ⟨od2, og2, le2, wa2, g0, g1, g2, g3, g4, hf, hr⟩
    exact ⟨hr, ⟨⟨_, g0⟩, (hf _ (by omega) (by omega) (by omega) (by omega) (by omega)).trans m1, ⟨pt, (hf _ (by omega) (by omega) (by omega) (by omega) (by omega)).trans m2⟩, ⟨cg, (hf _ (by omega) (by omega) (by omega) (by omega) (by omega)).trans m3, m3b⟩, (hf _ (by omega) (by omega) (by omega) (by omega) (by omega)).trans m4, (hf _ (by omega) (by omega) (by omega) (by omega) (by omega)).trans m5, ⟨kl, (hf _ (by omega) (by omega) (by omega) (by omega) (by omega)).trans m6, m6b⟩, (hf _ (by omega) (by omega) (by omega) (by omega) (by omega)).trans m7, ⟨en8, (hf _ (by omega) (by omega) (by omega) (by omega) (by omega)).trans m8, m8b⟩, ⟨_, g1⟩, ⟨_, g2⟩, ⟨_, g3⟩, ⟨_, g4⟩⟩, fun j hj => hf j (by omega) (by omega) (by omega) (by omega) (by omega)⟩
set_option maxHeartbeats 1000000 in
theorem L_waits {k : Int32} {rule : Int32} {n : Int32} (hN0 : q + 13 ≤ N) (hN : o + 75 ≤ q) (hB : B ≤ 9000) (hc : CL G ad E o B (s, pa, pm, co, ck, em, ek, er, ei, el, sn, ke, ks, kp)) (hb : Bd B (s, pa, pm, co, ck, em, ek, er, ei, el, sn, ke, ks, kp)) : LW l G tC ad N o q yX7_waits wsX7_waits ({ frames := 6, cells := 0, slots := 0, locals := 136 } : Room) yX8_waits wsX8_waits ({ frames := 6, cells := 0, slots := 0, locals := 140 } : Room) B E (s, pa, pm, co, ck, em, ek, er, ei, el, sn, ke, ks, kp) [.int k, .int rule, .int n] := by
  obtain ⟨h0, hst, hrg, hAr, hI0, hI1, hkp, hbk, hrd, hsg, hwh⟩ := id hc
  obtain ⟨pg, cm, hd, lst, md, cs, op, ⟨h1, h2, h3⟩, hrep, hcm⟩ := id hst
  obtain ⟨k0, k1, k2, k3, k4, k5, k6⟩ := id hb
  have hs0 := hrep.1.1
  have hpg := hrep.1.2.1
  obtain ⟨rp, tm, ln, wt, og, en, wa, r0, r1, r2, r3, r4, r5⟩ := id hrd
  refine ⟨a_waits s pg k rule n, (s, pa, pm, co, ck, em, ek, er, ei, el, sn, ke, ks, kp), (c_X7_waits (by omega) h0 h1 h2 h3 r0 r1 r2 r3 r4 r5 hrep).mono ?_, fun E1 hm => ?_⟩
  · rintro r E2 ⟨ln2, wt2, og2, en2, wa2, tm2, rp2, g0, g1, g2, g3, g4, g5, hf, hr⟩
    exact ⟨hr, ⟨⟨h0.same (hf _ (by omega) (by omega) (by omega) (by omega) (by omega) (by omega)), (hst.same (fun j _ _ => hf j (by omega) (by omega) (by omega) (by omega) (by omega) (by omega))).mono (by omega), hrg.same (fun j _ _ => hf j (by omega) (by omega) (by omega) (by omega) (by omega) (by omega)), hAr.same (hf _ (by omega) (by omega) (by omega) (by omega) (by omega) (by omega)), (hI0.same (fun j _ _ => hf j (by omega) (by omega) (by omega) (by omega) (by omega) (by omega))).mono (by omega), (hI1.same (fun j _ _ => hf j (by omega) (by omega) (by omega) (by omega) (by omega) (by omega))).mono (by omega), hkp.same (hf _ (by omega) (by omega) (by omega) (by omega) (by omega) (by omega)), hbk.same (fun j _ _ => hf j (by omega) (by omega) (by omega) (by omega) (by omega) (by omega)), ⟨_, _, _, _, _, _, _, g0, g1, g2, g3, g4, g5⟩, hsg.same (hf _ (by omega) (by omega) (by omega) (by omega) (by omega) (by omega)), hwh.same (hf _ (by omega) (by omega) (by omega) (by omega) (by omega) (by omega))⟩, ⟨k0, k1, k2, k3, k4, k5, k6.mono (by omega)⟩⟩, fun j hj => hf j (by omega) (by omega) (by omega) (by omega) (by omega) (by omega)⟩
  · obtain ⟨⟨th, m0⟩, m1, ⟨pt, m2⟩, ⟨cg, m3, m3b⟩, m4, m5, ⟨kl, m6, m6b⟩, m7, ⟨en8, m8, m8b⟩, ⟨od, m9⟩, ⟨og, m10⟩, ⟨le, m11⟩, ⟨wa, m12⟩⟩ := hm
    refine (c_X8_waits hN0 m0 m1 m9 m10 m11 m12 hs0 hpg).mono ?_
    rintro r E2 ⟨od2, og2, le2, wa2, g0, g1, g2, g3, g4, hf, hr⟩
    exact ⟨hr, ⟨⟨_, g0⟩, (hf _ (by omega) (by omega) (by omega) (by omega) (by omega)).trans m1, ⟨pt, (hf _ (by omega) (by omega) (by omega) (by omega) (by omega)).trans m2⟩, ⟨cg, (hf _ (by omega) (by omega) (by omega) (by omega) (by omega)).trans m3, m3b⟩, (hf _ (by omega) (by omega) (by omega) (by omega) (by omega)).trans m4, (hf _ (by omega) (by omega) (by omega) (by omega) (by omega)).trans m5, ⟨kl, (hf _ (by omega) (by omega) (by omega) (by omega) (by omega)).trans m6, m6b⟩, (hf _ (by omega) (by omega) (by omega) (by omega) (by omega)).trans m7, ⟨en8, (hf _ (by omega) (by omega) (by omega) (by omega) (by omega)).trans m8, m8b⟩, ⟨_, g1⟩, ⟨_, g2⟩, ⟨_, g3⟩, ⟨_, g4⟩⟩, fun j hj => hf j (by omega) (by omega) (by omega) (by omega) (by omega)⟩
set_option maxHeartbeats 1000000 in
theorem L_bestRule {n : Int32} (hN0 : q + 13 ≤ N) (hN : o + 75 ≤ q) (hB : B ≤ 9000) (hc : CL G ad E o B (s, pa, pm, co, ck, em, ek, er, ei, el, sn, ke, ks, kp)) (hb : Bd B (s, pa, pm, co, ck, em, ek, er, ei, el, sn, ke, ks, kp)) : LW l G tC ad N o q yX7_bestRule wsX7_bestRule ({ frames := 6, cells := 0, slots := 0, locals := 140 } : Room) yX8_bestRule wsX8_bestRule ({ frames := 7, cells := 0, slots := 0, locals := 165 } : Room) B E (s, pa, pm, co, ck, em, ek, er, ei, el, sn, ke, ks, kp) [.int n] := by
  obtain ⟨h0, hst, hrg, hAr, hI0, hI1, hkp, hbk, hrd, hsg, hwh⟩ := id hc
  obtain ⟨pg, cm, hd, lst, md, cs, op, ⟨h1, h2, h3⟩, hrep, hcm⟩ := id hst
  obtain ⟨k0, k1, k2, k3, k4, k5, k6⟩ := id hb
  have hs0 := hrep.1.1
  have hpg := hrep.1.2.1
  obtain ⟨rp, tm, ln, wt, og, en, wa, r0, r1, r2, r3, r4, r5⟩ := id hrd
  refine ⟨a_best s pg n, (s, pa, pm, co, ck, em, ek, er, ei, el, sn, ke, ks, kp), (c_X7_bestRule (by omega) h0 h1 h2 h3 r0 r1 r2 r3 r4 r5 hrep).mono ?_, fun E1 hm => ?_⟩
  · rintro r E2 ⟨ln2, wt2, og2, en2, wa2, tm2, rp2, g0, g1, g2, g3, g4, g5, hf, hr⟩
    exact ⟨hr, ⟨⟨h0.same (hf _ (by omega) (by omega) (by omega) (by omega) (by omega) (by omega)), (hst.same (fun j _ _ => hf j (by omega) (by omega) (by omega) (by omega) (by omega) (by omega))).mono (by omega), hrg.same (fun j _ _ => hf j (by omega) (by omega) (by omega) (by omega) (by omega) (by omega)), hAr.same (hf _ (by omega) (by omega) (by omega) (by omega) (by omega) (by omega)), (hI0.same (fun j _ _ => hf j (by omega) (by omega) (by omega) (by omega) (by omega) (by omega))).mono (by omega), (hI1.same (fun j _ _ => hf j (by omega) (by omega) (by omega) (by omega) (by omega) (by omega))).mono (by omega), hkp.same (hf _ (by omega) (by omega) (by omega) (by omega) (by omega) (by omega)), hbk.same (fun j _ _ => hf j (by omega) (by omega) (by omega) (by omega) (by omega) (by omega)), ⟨_, _, _, _, _, _, _, g0, g1, g2, g3, g4, g5⟩, hsg.same (hf _ (by omega) (by omega) (by omega) (by omega) (by omega) (by omega)), hwh.same (hf _ (by omega) (by omega) (by omega) (by omega) (by omega) (by omega))⟩, ⟨k0, k1, k2, k3, k4, k5, k6.mono (by omega)⟩⟩, fun j hj => hf j (by omega) (by omega) (by omega) (by omega) (by omega) (by omega)⟩
  · obtain ⟨⟨th, m0⟩, m1, ⟨pt, m2⟩, ⟨cg, m3, m3b⟩, m4, m5, ⟨kl, m6, m6b⟩, m7, ⟨en8, m8, m8b⟩, ⟨od, m9⟩, ⟨og, m10⟩, ⟨le, m11⟩, ⟨wa, m12⟩⟩ := hm
    refine (c_X8_bestRule hN0 m0 m1 m9 m10 m11 m12 hs0 hpg).mono ?_
    rintro r E2 ⟨od2, og2, le2, wa2, g0, g1, g2, g3, g4, hf, hr⟩
    exact ⟨hr, ⟨⟨_, g0⟩, (hf _ (by omega) (by omega) (by omega) (by omega) (by omega)).trans m1, ⟨pt, (hf _ (by omega) (by omega) (by omega) (by omega) (by omega)).trans m2⟩, ⟨cg, (hf _ (by omega) (by omega) (by omega) (by omega) (by omega)).trans m3, m3b⟩, (hf _ (by omega) (by omega) (by omega) (by omega) (by omega)).trans m4, (hf _ (by omega) (by omega) (by omega) (by omega) (by omega)).trans m5, ⟨kl, (hf _ (by omega) (by omega) (by omega) (by omega) (by omega)).trans m6, m6b⟩, (hf _ (by omega) (by omega) (by omega) (by omega) (by omega)).trans m7, ⟨en8, (hf _ (by omega) (by omega) (by omega) (by omega) (by omega)).trans m8, m8b⟩, ⟨_, g1⟩, ⟨_, g2⟩, ⟨_, g3⟩, ⟨_, g4⟩⟩, fun j hj => hf j (by omega) (by omega) (by omega) (by omega) (by omega)⟩
set_option maxHeartbeats 1000000 in
theorem L_octet {v : Int32} (hN0 : q + 13 ≤ N) (hN : o + 75 ≤ q) (hB : B ≤ 9000) (hc : CL G ad E o B (s, pa, pm, co, ck, em, ek, er, ei, el, sn, ke, ks, kp)) (hb : Bd B (s, pa, pm, co, ck, em, ek, er, ei, el, sn, ke, ks, kp)) : LW l G tC ad N o q yX7_octet wsX7_octet ({ frames := 7, cells := 0, slots := 0, locals := 162 } : Room) yX8_octet wsX8_octet ({ frames := 8, cells := 0, slots := 0, locals := 181 } : Room) B E (s, pa, pm, co, ck, em, ek, er, ei, el, sn, ke, ks, kp) [.int v] := by
  obtain ⟨h0, hst, hrg, hAr, hI0, hI1, hkp, hbk, hrd, hsg, hwh⟩ := id hc
  obtain ⟨pg, cm, hd, lst, md, cs, op, ⟨h1, h2, h3⟩, hrep, hcm⟩ := id hst
  obtain ⟨k0, k1, k2, k3, k4, k5, k6⟩ := id hb
  have hs0 := hrep.1.1
  have hpg := hrep.1.2.1
  by_cases hv : nI 0 ≤ v ∧ v ≤ nI 255
  · obtain ⟨n, hn, rfl⟩ := in_of (by omega) hv
    obtain ⟨cgg, sg0, sg1⟩ := id hsg
    by_cases h9 : co < 9
    · skip
      refine ⟨nI (co + 1), (s, pa, pm, co + 1, fun i => if i = co then n else ck i, em, ek, er, ei, el, sn, ke, ks, kp), (c_X7_octet_y (by omega) h0 sg0 hn h9).mono ?_, fun E1 hm => ?_⟩
      · rintro r E2 ⟨g0, g1, hf, hr⟩
        exact ⟨hr, ⟨⟨g0, (hst.same (fun j _ _ => hf j (by omega) (by omega))).mono (by omega), hrg.same (fun j _ _ => hf j (by omega) (by omega)), hAr.same (hf _ (by omega) (by omega)), (hI0.same (fun j _ _ => hf j (by omega) (by omega))).mono (by omega), (hI1.same (fun j _ _ => hf j (by omega) (by omega))).mono (by omega), hkp.same (hf _ (by omega) (by omega)), hbk.same (fun j _ _ => hf j (by omega) (by omega)), hrd.same (fun j _ _ => hf j (by omega) (by omega)), ⟨_, g1, ck_step sg1⟩, hwh.same (hf _ (by omega) (by omega))⟩, ⟨(by omega), ck_lt (by omega) k1, k2, k3, k4, k5, k6.mono (by omega)⟩⟩, fun j hj => hf j (by omega) (by omega)⟩
      · obtain ⟨⟨th, m0⟩, m1, ⟨pt, m2⟩, ⟨cg, m3, m3b⟩, m4, m5, ⟨kl, m6, m6b⟩, m7, ⟨en8, m8, m8b⟩, ⟨od, m9⟩, ⟨og, m10⟩, ⟨le, m11⟩, ⟨wa, m12⟩⟩ := hm
        refine (c_X8_octet_y hN0 m0 m3 hn h9).mono ?_
        rintro r E2 ⟨g0, g3, hf, hr⟩
        exact ⟨hr, ⟨⟨_, g0⟩, (hf _ (by omega) (by omega)).trans m1, ⟨pt, (hf _ (by omega) (by omega)).trans m2⟩, ⟨_, g3, ck_step m3b⟩, (hf _ (by omega) (by omega)).trans m4, (hf _ (by omega) (by omega)).trans m5, ⟨kl, (hf _ (by omega) (by omega)).trans m6, m6b⟩, (hf _ (by omega) (by omega)).trans m7, ⟨en8, (hf _ (by omega) (by omega)).trans m8, m8b⟩, ⟨od, (hf _ (by omega) (by omega)).trans m9⟩, ⟨og, (hf _ (by omega) (by omega)).trans m10⟩, ⟨le, (hf _ (by omega) (by omega)).trans m11⟩, ⟨wa, (hf _ (by omega) (by omega)).trans m12⟩⟩, fun j hj => hf j (by omega) (by omega)⟩
    · obtain rfl : co = 9 := by omega
      refine ⟨nI 0, (cmF s pg (ckV ck n), ntF pa pm s, ntK pm + 1, 0, ck, em, ek, er, ei, el, sn, ke, ks, kp), (c_X7_octet_f (by omega) h0 h1 h2 h3 sg0 hn (fun j hj => ⟨sg1 j hj, k1 j hj⟩) hrg hrep (by omega)).mono ?_, fun E1 hm => ?_⟩
      · rintro r E2 ⟨cs2, op2, pg2, hd2, lst2, md2, g0, g1, g2, g3, g4, hf, hr1, hrg2, hr⟩
        exact ⟨hr, ⟨⟨g0, ⟨_, _, _, _, _, _, _, ⟨g1, g2, g3⟩, hr1, by omega⟩, hrg2, hAr.same (hf _ (by omega) (by omega) (by omega) (by omega) (by omega) (by omega)), (hI0.same (fun j _ _ => hf j (by omega) (by omega) (by omega) (by omega) (by omega) (by omega))).mono (by omega), (hI1.same (fun j _ _ => hf j (by omega) (by omega) (by omega) (by omega) (by omega) (by omega))).mono (by omega), hkp.same (hf _ (by omega) (by omega) (by omega) (by omega) (by omega) (by omega)), hbk.same (fun j _ _ => hf j (by omega) (by omega) (by omega) (by omega) (by omega) (by omega)), hrd.same (fun j _ _ => hf j (by omega) (by omega) (by omega) (by omega) (by omega) (by omega)), ⟨_, g4, fun j hj => absurd hj (Nat.not_lt_zero j)⟩, hwh.same (hf _ (by omega) (by omega) (by omega) (by omega) (by omega) (by omega))⟩, ⟨(by omega), fun j hj => absurd hj (Nat.not_lt_zero j), k2, k3, k4, k5, (k6.note hrep.1.2.2.1 hcm).mono (by omega)⟩⟩, fun j hj => hf j (by omega) (by omega) (by omega) (by omega) (by omega) (by omega)⟩
      · obtain ⟨⟨th, m0⟩, m1, ⟨pt, m2⟩, ⟨cg, m3, m3b⟩, m4, m5, ⟨kl, m6, m6b⟩, m7, ⟨en8, m8, m8b⟩, ⟨od, m9⟩, ⟨og, m10⟩, ⟨le, m11⟩, ⟨wa, m12⟩⟩ := hm
        refine (c_X8_octet_f hN0 m0 m1 m2 m3 m4 hn rfl hrep.ok hrg.le (rep_pgS hrep).symm (fun j hj => ⟨m3b j hj, k1 j hj⟩)).mono ?_
        rintro r E2 ⟨pt2, g0, g1, g2, g3, g4, hf, hr⟩
        exact ⟨hr, ⟨⟨_, g0⟩, g1, ⟨_, g2⟩, ⟨_, g3, fun j hj => absurd hj (Nat.not_lt_zero j)⟩, g4, (hf _ (by omega) (by omega) (by omega) (by omega) (by omega)).trans m5, ⟨kl, (hf _ (by omega) (by omega) (by omega) (by omega) (by omega)).trans m6, m6b⟩, (hf _ (by omega) (by omega) (by omega) (by omega) (by omega)).trans m7, ⟨en8, (hf _ (by omega) (by omega) (by omega) (by omega) (by omega)).trans m8, m8b⟩, ⟨od, (hf _ (by omega) (by omega) (by omega) (by omega) (by omega)).trans m9⟩, ⟨og, (hf _ (by omega) (by omega) (by omega) (by omega) (by omega)).trans m10⟩, ⟨le, (hf _ (by omega) (by omega) (by omega) (by omega) (by omega)).trans m11⟩, ⟨wa, (hf _ (by omega) (by omega) (by omega) (by omega) (by omega)).trans m12⟩⟩, fun j hj => hf j (by omega) (by omega) (by omega) (by omega) (by omega)⟩
  · exact LW.ro hc hb (c_X7_octet_n (by omega) h0 hv) (fun E1 th m0 m1 hen m7 => c_X8_octet_n hN0 m0 hv)
set_option maxHeartbeats 1000000 in
theorem L_packet {b : Int32} {kd : Int32} {e : Int64} (hN0 : q + 13 ≤ N) (hN : o + 75 ≤ q) (hB : B ≤ 9000) (hc : CL G ad E o B (s, pa, pm, co, ck, em, ek, er, ei, el, sn, ke, ks, kp)) (hb : Bd B (s, pa, pm, co, ck, em, ek, er, ei, el, sn, ke, ks, kp)) : LW l G tC ad N o q yX7_packet wsX7_packet ({ frames := 7, cells := 0, slots := 0, locals := 162 } : Room) yX8_packet wsX8_packet ({ frames := 8, cells := 0, slots := 0, locals := 181 } : Room) B E (s, pa, pm, co, ck, em, ek, er, ei, el, sn, ke, ks, kp) [.int b, .int kd, .long e] := by
  obtain ⟨h0, hst, hrg, hAr, hI0, hI1, hkp, hbk, hrd, hsg, hwh⟩ := id hc
  obtain ⟨pg, cm, hd, lst, md, cs, op, ⟨h1, h2, h3⟩, hrep, hcm⟩ := id hst
  obtain ⟨k0, k1, k2, k3, k4, k5, k6⟩ := id hb
  have hs0 := hrep.1.1
  have hpg := hrep.1.2.1
  by_cases hy : (nI 0 ≤ b ∧ b ≤ nI 3) ∧ (nI 0 ≤ kd ∧ kd ≤ nI 7) ∧ (nI 0).toInt64 ≤ e
  · obtain ⟨b9, hb9, rfl⟩ := in_of (by omega) hy.1
    obtain ⟨kd9, hkd9, rfl⟩ := in_of (by omega) hy.2.1
    obtain ⟨e9, he9, rfl⟩ := lN_of hy.2.2
    obtain ⟨ptt, w0⟩ := id hwh
    refine ⟨if tkB s (kpk b9 kd9 e9) then 1 else 0, (cmF s pg (kpk b9 kd9 e9), ntF pa pm s, ntK pm + 1, co, ck, em, ek, er, ei, el, sn, ke, ks, kp), (c_X7_packet_y (by omega) h0 h1 h2 h3 w0 hb9 hkd9 he9 hrg hrep (by omega)).mono ?_, fun E1 hm => ?_⟩
    · rintro r E2 ⟨cs2, op2, pg2, hd2, lst2, md2, pt2, g1, g2, g3, g4, hf, hr1, hrg2, hr⟩
      exact ⟨hr, ⟨⟨h0.same (hf _ (by omega) (by omega) (by omega) (by omega) (by omega)), ⟨_, _, _, _, _, _, _, ⟨g1, g2, g3⟩, hr1, by omega⟩, hrg2, hAr.same (hf _ (by omega) (by omega) (by omega) (by omega) (by omega)), (hI0.same (fun j _ _ => hf j (by omega) (by omega) (by omega) (by omega) (by omega))).mono (by omega), (hI1.same (fun j _ _ => hf j (by omega) (by omega) (by omega) (by omega) (by omega))).mono (by omega), hkp.same (hf _ (by omega) (by omega) (by omega) (by omega) (by omega)), hbk.same (fun j _ _ => hf j (by omega) (by omega) (by omega) (by omega) (by omega)), hrd.same (fun j _ _ => hf j (by omega) (by omega) (by omega) (by omega) (by omega)), hsg.same (hf _ (by omega) (by omega) (by omega) (by omega) (by omega)), ⟨_, g4⟩⟩, ⟨k0, k1, k2, k3, k4, k5, (k6.note hrep.1.2.2.1 hcm).mono (by omega)⟩⟩, fun j hj => hf j (by omega) (by omega) (by omega) (by omega) (by omega)⟩
    · obtain ⟨⟨th, m0⟩, m1, ⟨pt, m2⟩, ⟨cg, m3, m3b⟩, m4, m5, ⟨kl, m6, m6b⟩, m7, ⟨en8, m8, m8b⟩, ⟨od, m9⟩, ⟨og, m10⟩, ⟨le, m11⟩, ⟨wa, m12⟩⟩ := hm
      refine (c_X8_packet_y hN0 m0 m1 m2 m4 hb9 hkd9 he9 hrep.ok hrg.le (rep_pgS hrep).symm).mono ?_
      rintro r E2 ⟨pt2, g0, g1, g2, g4, hf, hr⟩
      exact ⟨hr, ⟨⟨_, g0⟩, g1, ⟨_, g2⟩, ⟨cg, (hf _ (by omega) (by omega) (by omega) (by omega)).trans m3, m3b⟩, g4, (hf _ (by omega) (by omega) (by omega) (by omega)).trans m5, ⟨kl, (hf _ (by omega) (by omega) (by omega) (by omega)).trans m6, m6b⟩, (hf _ (by omega) (by omega) (by omega) (by omega)).trans m7, ⟨en8, (hf _ (by omega) (by omega) (by omega) (by omega)).trans m8, m8b⟩, ⟨od, (hf _ (by omega) (by omega) (by omega) (by omega)).trans m9⟩, ⟨og, (hf _ (by omega) (by omega) (by omega) (by omega)).trans m10⟩, ⟨le, (hf _ (by omega) (by omega) (by omega) (by omega)).trans m11⟩, ⟨wa, (hf _ (by omega) (by omega) (by omega) (by omega)).trans m12⟩⟩, fun j hj => hf j (by omega) (by omega) (by omega) (by omega)⟩
  · exact LW.ro hc hb (c_X7_packet_n (by omega) hy) (fun E1 th m0 m1 hen m7 => c_X8_packet_n hN0 m0 hy)
set_option maxHeartbeats 1000000 in
theorem L_weight {k : Int32} {v : Int32} (hN0 : q + 13 ≤ N) (hN : o + 75 ≤ q) (hB : B ≤ 9000) (hc : CL G ad E o B (s, pa, pm, co, ck, em, ek, er, ei, el, sn, ke, ks, kp)) (hb : Bd B (s, pa, pm, co, ck, em, ek, er, ei, el, sn, ke, ks, kp)) : LW l G tC ad N o q yX7_weight wsX7_weight ({ frames := 3, cells := 0, slots := 0, locals := 82 } : Room) yX8_weight wsX8_weight ({ frames := 2, cells := 0, slots := 0, locals := 46 } : Room) B E (s, pa, pm, co, ck, em, ek, er, ei, el, sn, ke, ks, kp) [.int k, .int v] := by
  obtain ⟨h0, hst, hrg, hAr, hI0, hI1, hkp, hbk, hrd, hsg, hwh⟩ := id hc
  obtain ⟨pg, cm, hd, lst, md, cs, op, ⟨h1, h2, h3⟩, hrep, hcm⟩ := id hst
  obtain ⟨k0, k1, k2, k3, k4, k5, k6⟩ := id hb
  have hs0 := hrep.1.1
  have hpg := hrep.1.2.1
  by_cases hy : hasP pg k ∧ (nI 1 ≤ v ∧ v ≤ nI 9)
  · obtain ⟨k9, hk9, rfl⟩ := has_of hy.1
    obtain ⟨v9, hv1, hv9, rfl⟩ := in_of1 (by omega) (by omega) hy.2
    refine ⟨s (8 + 50 * k9 + 4), (upd s (8 + 50 * k9 + 4) (nI v9), ntF pa pm s, ntK pm + 1, co, ck, em, ek, er, ei, el, sn, ke, ks, kp), (c_X7_weight_y (by omega) h0 h1 h2 h3 hk9 hv1 hv9 hrg hrep (by omega)).mono ?_, fun E1 hm => ?_⟩
    · rintro r E2 ⟨g2, hf, hr1, hrg2, hr⟩
      exact ⟨hr, ⟨⟨h0.same (hf _ (by omega) (by omega)), ⟨pg, cm, hd, lst, md, _, op, ⟨(hf _ (by omega) (by omega)).trans h1, g2, (hf _ (by omega) (by omega)).trans h3⟩, hr1, by omega⟩, hrg2, hAr.same (hf _ (by omega) (by omega)), (hI0.same (fun j _ _ => hf j (by omega) (by omega))).mono (by omega), (hI1.same (fun j _ _ => hf j (by omega) (by omega))).mono (by omega), hkp.same (hf _ (by omega) (by omega)), hbk.same (fun j _ _ => hf j (by omega) (by omega)), hrd.same (fun j _ _ => hf j (by omega) (by omega)), hsg.same (hf _ (by omega) (by omega)), hwh.same (hf _ (by omega) (by omega))⟩, ⟨k0, k1, k2, k3, k4, k5, (k6.note hrep.1.2.2.1 hcm).mono (by omega)⟩⟩, fun j hj => hf j (by omega) (by omega)⟩
    · obtain ⟨⟨th, m0⟩, m1, ⟨pt, m2⟩, ⟨cg, m3, m3b⟩, m4, m5, ⟨kl, m6, m6b⟩, m7, ⟨en8, m8, m8b⟩, ⟨od, m9⟩, ⟨og, m10⟩, ⟨le, m11⟩, ⟨wa, m12⟩⟩ := hm
      refine (c_X8_weight_y hN0 m0 m1 m4 hs0 hpg hk9 hv1 hv9 hrg.le).mono ?_
      rintro r E2 ⟨g0, g1, g4, hf, hr⟩
      exact ⟨hr, ⟨⟨_, g0⟩, g1, ⟨pt, (hf _ (by omega) (by omega) (by omega)).trans m2⟩, ⟨cg, (hf _ (by omega) (by omega) (by omega)).trans m3, m3b⟩, g4, (hf _ (by omega) (by omega) (by omega)).trans m5, ⟨kl, (hf _ (by omega) (by omega) (by omega)).trans m6, m6b⟩, (hf _ (by omega) (by omega) (by omega)).trans m7, ⟨en8, (hf _ (by omega) (by omega) (by omega)).trans m8, m8b⟩, ⟨od, (hf _ (by omega) (by omega) (by omega)).trans m9⟩, ⟨og, (hf _ (by omega) (by omega) (by omega)).trans m10⟩, ⟨le, (hf _ (by omega) (by omega) (by omega)).trans m11⟩, ⟨wa, (hf _ (by omega) (by omega) (by omega)).trans m12⟩⟩, fun j hj => hf j (by omega) (by omega) (by omega)⟩
  · exact LW.ro hc hb (c_X7_weight_n (by omega) h0 h1 h2 h3 hy hrep) (fun E1 th m0 m1 hen m7 => c_X8_weight_n hN0 m0 m1 hs0 hpg hy)
set_option maxHeartbeats 1000000 in
theorem L_drop {k : Int32} (hN0 : q + 13 ≤ N) (hN : o + 75 ≤ q) (hB : B ≤ 9000) (hc : CL G ad E o B (s, pa, pm, co, ck, em, ek, er, ei, el, sn, ke, ks, kp)) (hb : Bd B (s, pa, pm, co, ck, em, ek, er, ei, el, sn, ke, ks, kp)) : LW l G tC ad N o q yX7_drop wsX7_drop ({ frames := 3, cells := 0, slots := 0, locals := 82 } : Room) yX8_drop wsX8_drop ({ frames := 2, cells := 0, slots := 0, locals := 46 } : Room) B E (s, pa, pm, co, ck, em, ek, er, ei, el, sn, ke, ks, kp) [.int k] := by
  obtain ⟨h0, hst, hrg, hAr, hI0, hI1, hkp, hbk, hrd, hsg, hwh⟩ := id hc
  obtain ⟨pg, cm, hd, lst, md, cs, op, ⟨h1, h2, h3⟩, hrep, hcm⟩ := id hst
  obtain ⟨k0, k1, k2, k3, k4, k5, k6⟩ := id hb
  have hs0 := hrep.1.1
  have hpg := hrep.1.2.1
  by_cases hy : hasP pg k
  · obtain ⟨k9, hk9, rfl⟩ := has_of hy
    refine ⟨nI (pg - 1), (goesF s pg k9, ntF pa pm s, ntK pm + 1, co, ck, em, ek, er, ei, el, sn, ke, ks, kp), (c_X7_drop_y (by omega) h0 h1 h2 h3 hk9 hrg hrep (by omega)).mono ?_, fun E1 hm => ?_⟩
    · rintro r E2 ⟨g1, g2, g3, hf, hr1, hrg2, hr⟩
      exact ⟨hr, ⟨⟨h0.same (hf _ (by omega) (by omega) (by omega) (by omega)), ⟨_, _, _, _, _, _, _, ⟨g1, g2, g3⟩, hr1, by omega⟩, hrg2, hAr.same (hf _ (by omega) (by omega) (by omega) (by omega)), (hI0.same (fun j _ _ => hf j (by omega) (by omega) (by omega) (by omega))).mono (by omega), (hI1.same (fun j _ _ => hf j (by omega) (by omega) (by omega) (by omega))).mono (by omega), hkp.same (hf _ (by omega) (by omega) (by omega) (by omega)), hbk.same (fun j _ _ => hf j (by omega) (by omega) (by omega) (by omega)), hrd.same (fun j _ _ => hf j (by omega) (by omega) (by omega) (by omega)), hsg.same (hf _ (by omega) (by omega) (by omega) (by omega)), hwh.same (hf _ (by omega) (by omega) (by omega) (by omega))⟩, ⟨k0, k1, k2, k3, k4, k5, (k6.note hrep.1.2.2.1 hcm).mono (by omega)⟩⟩, fun j hj => hf j (by omega) (by omega) (by omega) (by omega)⟩
    · obtain ⟨⟨th, m0⟩, m1, ⟨pt, m2⟩, ⟨cg, m3, m3b⟩, m4, m5, ⟨kl, m6, m6b⟩, m7, ⟨en8, m8, m8b⟩, ⟨od, m9⟩, ⟨og, m10⟩, ⟨le, m11⟩, ⟨wa, m12⟩⟩ := hm
      refine (c_X8_drop_y hN0 m0 m1 m4 hs0 hpg hk9 hrg.le).mono ?_
      rintro r E2 ⟨g0, g1, g4, hf, hr⟩
      exact ⟨hr, ⟨⟨_, g0⟩, g1, ⟨pt, (hf _ (by omega) (by omega) (by omega)).trans m2⟩, ⟨cg, (hf _ (by omega) (by omega) (by omega)).trans m3, m3b⟩, g4, (hf _ (by omega) (by omega) (by omega)).trans m5, ⟨kl, (hf _ (by omega) (by omega) (by omega)).trans m6, m6b⟩, (hf _ (by omega) (by omega) (by omega)).trans m7, ⟨en8, (hf _ (by omega) (by omega) (by omega)).trans m8, m8b⟩, ⟨od, (hf _ (by omega) (by omega) (by omega)).trans m9⟩, ⟨og, (hf _ (by omega) (by omega) (by omega)).trans m10⟩, ⟨le, (hf _ (by omega) (by omega) (by omega)).trans m11⟩, ⟨wa, (hf _ (by omega) (by omega) (by omega)).trans m12⟩⟩, fun j hj => hf j (by omega) (by omega) (by omega)⟩
  · exact LW.ro hc hb (c_X7_drop_n (by omega) h0 h1 h2 h3 hy hrep) (fun E1 th m0 m1 hen m7 => c_X8_drop_n hN0 m0 m1 hs0 hpg hy)
set_option maxHeartbeats 1000000 in
theorem L_drift {n : Int32} (hN0 : q + 13 ≤ N) (hN : o + 75 ≤ q) (hB : B ≤ 9000) (hc : CL G ad E o B (s, pa, pm, co, ck, em, ek, er, ei, el, sn, ke, ks, kp)) (hb : Bd B (s, pa, pm, co, ck, em, ek, er, ei, el, sn, ke, ks, kp)) : LW l G tC ad N o q yX7_drift wsX7_drift ({ frames := 7, cells := 0, slots := 0, locals := 162 } : Room) yX8_drift wsX8_drift ({ frames := 9, cells := 0, slots := 0, locals := 204 } : Room) B E (s, pa, pm, co, ck, em, ek, er, ei, el, sn, ke, ks, kp) [.int n] := by
  obtain ⟨h0, hst, hrg, hAr, hI0, hI1, hkp, hbk, hrd, hsg, hwh⟩ := id hc
  obtain ⟨pg, cm, hd, lst, md, cs, op, ⟨h1, h2, h3⟩, hrep, hcm⟩ := id hst
  obtain ⟨k0, k1, k2, k3, k4, k5, k6⟩ := id hb
  have hs0 := hrep.1.1
  have hpg := hrep.1.2.1
  by_cases hy : nI 1 ≤ n ∧ n ≤ nI 16
  · obtain ⟨n9, hn1, hn9, rfl⟩ := in_of1 (by omega) (by omega) hy
    obtain ⟨ptt, w0⟩ := id hwh
    have hdB := dfI_B (sn := sn) (k6.mono (show B ≤ B + 16 by omega)) hrep.1.2.2.1 n9 (by omega)
    refine ⟨(dfI (s, pa, pm, sn) n9).1 0, ((dfI (s, pa, pm, sn) n9).1, (dfI (s, pa, pm, sn) n9).2.1, (dfI (s, pa, pm, sn) n9).2.2.1, co, ck, em, ek, er, ei, el, (dfI (s, pa, pm, sn) n9).2.2.2, ke, ks, kp), (c_X7_drift_y (by omega) h0 h1 h2 h3 w0 hn1 hn9 hrg hrep (by omega) k3).mono ?_, fun E1 hm => ?_⟩
    · rintro r E2 ⟨g, pb, pt2, cs2, op2, pm2, sd2, pg2, cm2, hd2, lst2, md2, g1, g2, g3, g4, hf, hdf, hr1, hcm2, hsd2, hrg2, hr⟩
      rw [← hdf] at hdB ⊢
      replace hr : r = g 0 := hr.trans hr1.1.1.symm
      exact ⟨hr, ⟨⟨h0.same (hf _ (by omega) (by omega) (by omega) (by omega) (by omega)), ⟨_, _, _, _, _, _, _, ⟨g1, g2, g3⟩, hr1, by omega⟩, hrg2, hAr.same (hf _ (by omega) (by omega) (by omega) (by omega) (by omega)), (hI0.same (fun j _ _ => hf j (by omega) (by omega) (by omega) (by omega) (by omega))).mono (by omega), (hI1.same (fun j _ _ => hf j (by omega) (by omega) (by omega) (by omega) (by omega))).mono (by omega), hkp.same (hf _ (by omega) (by omega) (by omega) (by omega) (by omega)), hbk.same (fun j _ _ => hf j (by omega) (by omega) (by omega) (by omega) (by omega)), hrd.same (fun j _ _ => hf j (by omega) (by omega) (by omega) (by omega) (by omega)), hsg.same (hf _ (by omega) (by omega) (by omega) (by omega) (by omega)), ⟨_, g4⟩⟩, ⟨k0, k1, k2, hsd2, k4, k5, hdB.1⟩⟩, fun j hj => hf j (by omega) (by omega) (by omega) (by omega) (by omega)⟩
    · obtain ⟨⟨th, m0⟩, m1, ⟨pt, m2⟩, ⟨cg, m3, m3b⟩, m4, m5, ⟨kl, m6, m6b⟩, m7, ⟨en8, m8, m8b⟩, ⟨od, m9⟩, ⟨og, m10⟩, ⟨le, m11⟩, ⟨wa, m12⟩⟩ := hm
      refine (c_X8_drift_y hN0 m0 m1 m2 m4 hn1 hn9 hrep.ok hrg.le k3).mono ?_
      rintro r E2 ⟨g, pb, pt2, pm2, sd2, g0, g1, g2, g4, hf, hdf, hr⟩
      rw [← hdf]
      exact ⟨hr, ⟨⟨_, g0⟩, g1, ⟨_, g2⟩, ⟨cg, (hf _ (by omega) (by omega) (by omega) (by omega)).trans m3, m3b⟩, g4, (hf _ (by omega) (by omega) (by omega) (by omega)).trans m5, ⟨kl, (hf _ (by omega) (by omega) (by omega) (by omega)).trans m6, m6b⟩, (hf _ (by omega) (by omega) (by omega) (by omega)).trans m7, ⟨en8, (hf _ (by omega) (by omega) (by omega) (by omega)).trans m8, m8b⟩, ⟨od, (hf _ (by omega) (by omega) (by omega) (by omega)).trans m9⟩, ⟨og, (hf _ (by omega) (by omega) (by omega) (by omega)).trans m10⟩, ⟨le, (hf _ (by omega) (by omega) (by omega) (by omega)).trans m11⟩, ⟨wa, (hf _ (by omega) (by omega) (by omega) (by omega)).trans m12⟩⟩, fun j hj => hf j (by omega) (by omega) (by omega) (by omega)⟩
  · exact LW.ro hc hb (c_X7_drift_n (by omega) hy) (fun E1 th m0 m1 hen m7 => c_X8_drift_n hN0 m0 hy)
set_option maxHeartbeats 1000000 in
theorem L_undo {n : Int32} (hN0 : q + 13 ≤ N) (hN : o + 75 ≤ q) (hB : B ≤ 9000) (hc : CL G ad E o B (s, pa, pm, co, ck, em, ek, er, ei, el, sn, ke, ks, kp)) (hb : Bd B (s, pa, pm, co, ck, em, ek, er, ei, el, sn, ke, ks, kp)) : LW l G tC ad N o q yX7_undo wsX7_undo ({ frames := 3, cells := 0, slots := 0, locals := 83 } : Room) yX8_undo wsX8_undo ({ frames := 1, cells := 0, slots := 0, locals := 25 } : Room) B E (s, pa, pm, co, ck, em, ek, er, ei, el, sn, ke, ks, kp) [.int n] := by
  obtain ⟨h0, hst, hrg, hAr, hI0, hI1, hkp, hbk, hrd, hsg, hwh⟩ := id hc
  obtain ⟨pg, cm, hd, lst, md, cs, op, ⟨h1, h2, h3⟩, hrep, hcm⟩ := id hst
  obtain ⟨k0, k1, k2, k3, k4, k5, k6⟩ := id hb
  have hs0 := hrep.1.1
  have hpg := hrep.1.2.1
  have hpm := hrg.le
  by_cases hy : (nI 1 ≤ n ∧ n ≤ nI 16) ∧ n ≤ nI pm
  · obtain ⟨n9, hn1, hn9, rfl⟩ := in_of1 (by omega) (by omega) hy.1
    have hnp : n9 ≤ pm := (nI_leI (by omega) (by omega)).mp hy.2
    refine ⟨slc pa (pm - n9) 1, (slc pa (pm - n9), pa, pm - n9, co, ck, em, ek, er, ei, el, sn, ke, ks, kp), (c_X7_undo_y (by omega) h0 h1 h2 h3 hn1 hnp hpm hrg).mono ?_, fun E1 hm => ?_⟩
    · rintro r E2 ⟨cs2, op2, pg2, hd2, lst2, md2, cm2, g1, g2, g3, hf, hr1, hrg2, hcb, hr⟩
      obtain ⟨c9, e1, e2⟩ := k6 (pm - n9) (by omega)
      have hcc : cm2 ≤ B + 16 := by
        have := cm_eqN (hr1.1.2.2.1.symm.trans e1) hcb (by omega)
        omega
      exact ⟨hr, ⟨⟨h0.same (hf _ (by omega) (by omega) (by omega) (by omega)), ⟨_, _, _, _, _, _, _, ⟨g1, g2, g3⟩, hr1, hcc⟩, hrg2, hAr.same (hf _ (by omega) (by omega) (by omega) (by omega)), (hI0.same (fun j _ _ => hf j (by omega) (by omega) (by omega) (by omega))).mono (by omega), (hI1.same (fun j _ _ => hf j (by omega) (by omega) (by omega) (by omega))).mono (by omega), hkp.same (hf _ (by omega) (by omega) (by omega) (by omega)), hbk.same (fun j _ _ => hf j (by omega) (by omega) (by omega) (by omega)), hrd.same (fun j _ _ => hf j (by omega) (by omega) (by omega) (by omega)), hsg.same (hf _ (by omega) (by omega) (by omega) (by omega)), hwh.same (hf _ (by omega) (by omega) (by omega) (by omega))⟩, ⟨k0, k1, k2, k3, k4, k5, k6.less.mono (by omega)⟩⟩, fun j hj => hf j (by omega) (by omega) (by omega) (by omega)⟩
    · obtain ⟨⟨th, m0⟩, m1, ⟨pt, m2⟩, ⟨cg, m3, m3b⟩, m4, m5, ⟨kl, m6, m6b⟩, m7, ⟨en8, m8, m8b⟩, ⟨od, m9⟩, ⟨og, m10⟩, ⟨le, m11⟩, ⟨wa, m12⟩⟩ := hm
      refine (c_X8_undo_y hN0 m0 m1 m4 hn1 hnp hpm).mono ?_
      rintro r E2 ⟨g0, g1, hf, hr⟩
      exact ⟨hr, ⟨⟨_, g0⟩, g1, ⟨pt, (hf _ (by omega) (by omega)).trans m2⟩, ⟨cg, (hf _ (by omega) (by omega)).trans m3, m3b⟩, (hf _ (by omega) (by omega)).trans m4, (hf _ (by omega) (by omega)).trans m5, ⟨kl, (hf _ (by omega) (by omega)).trans m6, m6b⟩, (hf _ (by omega) (by omega)).trans m7, ⟨en8, (hf _ (by omega) (by omega)).trans m8, m8b⟩, ⟨od, (hf _ (by omega) (by omega)).trans m9⟩, ⟨og, (hf _ (by omega) (by omega)).trans m10⟩, ⟨le, (hf _ (by omega) (by omega)).trans m11⟩, ⟨wa, (hf _ (by omega) (by omega)).trans m12⟩⟩, fun j hj => hf j (by omega) (by omega)⟩
  · exact LW.ro hc hb (c_X7_undo_n (by omega) h0 hy hrg) (fun E1 th m0 m1 hen m7 => c_X8_undo_n hN0 m0 hpm hy)
set_option maxHeartbeats 1000000 in
theorem L_write {k : Int32} {row : Int32} {i : Int32} {lt : Int32} (hN0 : q + 13 ≤ N) (hN : o + 75 ≤ q) (hB : B ≤ 9000) (hc : CL G ad E o B (s, pa, pm, co, ck, em, ek, er, ei, el, sn, ke, ks, kp)) (hb : Bd B (s, pa, pm, co, ck, em, ek, er, ei, el, sn, ke, ks, kp)) : LW l G tC ad N o q yX7_write wsX7_write ({ frames := 2, cells := 0, slots := 0, locals := 46 } : Room) yX8_write wsX8_write ({ frames := 2, cells := 0, slots := 0, locals := 46 } : Room) B E (s, pa, pm, co, ck, em, ek, er, ei, el, sn, ke, ks, kp) [.int k, .int row, .int i, .int lt] := by
  obtain ⟨h0, hst, hrg, hAr, hI0, hI1, hkp, hbk, hrd, hsg, hwh⟩ := id hc
  obtain ⟨pg, cm, hd, lst, md, cs, op, ⟨h1, h2, h3⟩, hrep, hcm⟩ := id hst
  obtain ⟨k0, k1, k2, k3, k4, k5, k6⟩ := id hb
  have hs0 := hrep.1.1
  have hpg := hrep.1.2.1
  obtain ⟨bp, br, bi, bl, b0, b1, b2, b3, b4, b5⟩ := id hbk
  by_cases hy : hasP pg k ∧ ((nI 0 ≤ row ∧ row ≤ nI 4) ∧ (nI 0 ≤ i ∧ i ≤ nI 7) ∧ (nI 0 ≤ lt ∧ lt ≤ nI 127)) ∧ em < 20
  · obtain ⟨k9, hk9, rfl⟩ := has_of hy.1
    obtain ⟨w9, hw9, rfl⟩ := in_of (by omega) hy.2.1.1
    obtain ⟨i9, hi9, rfl⟩ := in_of (by omega) hy.2.1.2.1
    obtain ⟨t9, ht9, rfl⟩ := in_of (by omega) hy.2.1.2.2
    have hem := hy.2.2
    refine ⟨nI (em + 1), (s, pa, pm, co, ck, em + 1, fun i => if i = em then k9 else ek i, fun i => if i = em then w9 else er i, fun i => if i = em then i9 else ei i, fun i => if i = em then t9 else el i, sn, ke, ks, kp), (c_X7_write_y (by omega) h0 h1 h2 h3 b0 b1 b2 b3 b4 hk9 hw9 hi9 ht9 hem hrep).mono ?_, fun E1 hm => ?_⟩
    · rintro r E2 ⟨g0, g1, g2, g3, g4, hf, hr⟩
      exact ⟨hr, ⟨⟨h0.same (hf _ (by omega) (by omega) (by omega) (by omega) (by omega)), (hst.same (fun j _ _ => hf j (by omega) (by omega) (by omega) (by omega) (by omega))).mono (by omega), hrg.same (fun j _ _ => hf j (by omega) (by omega) (by omega) (by omega) (by omega)), hAr.same (hf _ (by omega) (by omega) (by omega) (by omega) (by omega)), (hI0.same (fun j _ _ => hf j (by omega) (by omega) (by omega) (by omega) (by omega))).mono (by omega), (hI1.same (fun j _ _ => hf j (by omega) (by omega) (by omega) (by omega) (by omega))).mono (by omega), hkp.same (hf _ (by omega) (by omega) (by omega) (by omega) (by omega)), ⟨_, _, _, _, g0, g1, g2, g3, g4, bk_step b5 (by omega) (by omega) (by omega)⟩, hrd.same (fun j _ _ => hf j (by omega) (by omega) (by omega) (by omega) (by omega)), hsg.same (hf _ (by omega) (by omega) (by omega) (by omega) (by omega)), hwh.same (hf _ (by omega) (by omega) (by omega) (by omega) (by omega))⟩, ⟨k0, k1, (by omega), k3, k4, k5, k6.mono (by omega)⟩⟩, fun j hj => hf j (by omega) (by omega) (by omega) (by omega) (by omega)⟩
    · obtain ⟨⟨th, m0⟩, m1, ⟨pt, m2⟩, ⟨cg, m3, m3b⟩, m4, m5, ⟨kl, m6, m6b⟩, m7, ⟨en8, m8, m8b⟩, ⟨od, m9⟩, ⟨og, m10⟩, ⟨le, m11⟩, ⟨wa, m12⟩⟩ := hm
      refine (c_X8_write_y hN0 m0 m1 m8 hs0 hpg hk9 hw9 hi9 ht9 hem).mono ?_
      rintro r E2 ⟨g0, g8, hf, hr⟩
      exact ⟨hr, ⟨⟨_, g0⟩, (hf _ (by omega) (by omega)).trans m1, ⟨pt, (hf _ (by omega) (by omega)).trans m2⟩, ⟨cg, (hf _ (by omega) (by omega)).trans m3, m3b⟩, (hf _ (by omega) (by omega)).trans m4, (hf _ (by omega) (by omega)).trans m5, ⟨kl, (hf _ (by omega) (by omega)).trans m6, m6b⟩, (hf _ (by omega) (by omega)).trans m7, ⟨_, g8, en_step m8b (by omega) (by omega) (by omega)⟩, ⟨od, (hf _ (by omega) (by omega)).trans m9⟩, ⟨og, (hf _ (by omega) (by omega)).trans m10⟩, ⟨le, (hf _ (by omega) (by omega)).trans m11⟩, ⟨wa, (hf _ (by omega) (by omega)).trans m12⟩⟩, fun j hj => hf j (by omega) (by omega)⟩
  · exact LW.ro hc hb (c_X7_write_n (by omega) h0 h1 h2 h3 b0 b1 b2 b3 b4 k2 hy hrep) (fun E1 th m0 m1 hen m7 => c_X8_write_n hN0 m0 m1 hs0 hpg k2 hy)
set_option maxHeartbeats 1000000 in
theorem L_tear  (hN0 : q + 13 ≤ N) (hN : o + 75 ≤ q) (hB : B ≤ 9000) (hc : CL G ad E o B (s, pa, pm, co, ck, em, ek, er, ei, el, sn, ke, ks, kp)) (hb : Bd B (s, pa, pm, co, ck, em, ek, er, ei, el, sn, ke, ks, kp)) : LW l G tC ad N o q yX7_tear wsX7_tear ({ frames := 0, cells := 0, slots := 0, locals := 0 } : Room) yX8_tear wsX8_tear ({ frames := 0, cells := 0, slots := 0, locals := 0 } : Room) B E (s, pa, pm, co, ck, em, ek, er, ei, el, sn, ke, ks, kp) [] := by
  obtain ⟨h0, hst, hrg, hAr, hI0, hI1, hkp, hbk, hrd, hsg, hwh⟩ := id hc
  obtain ⟨pg, cm, hd, lst, md, cs, op, ⟨h1, h2, h3⟩, hrep, hcm⟩ := id hst
  obtain ⟨k0, k1, k2, k3, k4, k5, k6⟩ := id hb
  have hs0 := hrep.1.1
  have hpg := hrep.1.2.1
  obtain ⟨bp, br, bi, bl, b0, b1, b2, b3, b4, b5⟩ := id hbk
  refine ⟨nI em, (s, pa, pm, co, ck, 0, ek, er, ei, el, sn, ke, ks, kp), (c_X7_tear (by omega) h0 b0).mono ?_, fun E1 hm => ?_⟩
  · rintro r E2 ⟨g0, hf, hr⟩
    exact ⟨hr, ⟨⟨h0.same (hf _ (by omega)), (hst.same (fun j _ _ => hf j (by omega))).mono (by omega), hrg.same (fun j _ _ => hf j (by omega)), hAr.same (hf _ (by omega)), (hI0.same (fun j _ _ => hf j (by omega))).mono (by omega), (hI1.same (fun j _ _ => hf j (by omega))).mono (by omega), hkp.same (hf _ (by omega)), ⟨_, _, _, _, g0, (hf _ (by omega)).trans b1, (hf _ (by omega)).trans b2, (hf _ (by omega)).trans b3, (hf _ (by omega)).trans b4, fun e he => absurd he (Nat.not_lt_zero e)⟩, hrd.same (fun j _ _ => hf j (by omega)), hsg.same (hf _ (by omega)), hwh.same (hf _ (by omega))⟩, ⟨k0, k1, (by omega), k3, k4, k5, k6.mono (by omega)⟩⟩, fun j hj => hf j (by omega)⟩
  · obtain ⟨⟨th, m0⟩, m1, ⟨pt, m2⟩, ⟨cg, m3, m3b⟩, m4, m5, ⟨kl, m6, m6b⟩, m7, ⟨en8, m8, m8b⟩, ⟨od, m9⟩, ⟨og, m10⟩, ⟨le, m11⟩, ⟨wa, m12⟩⟩ := hm
    refine (c_X8_tear hN0 m0).mono ?_
    rintro r E2 ⟨g0, hf, hr⟩
    exact ⟨hr, ⟨⟨_, g0⟩, (hf _ (by omega)).trans m1, ⟨pt, (hf _ (by omega)).trans m2⟩, ⟨cg, (hf _ (by omega)).trans m3, m3b⟩, (hf _ (by omega)).trans m4, (hf _ (by omega)).trans m5, ⟨kl, (hf _ (by omega)).trans m6, m6b⟩, (hf _ (by omega)).trans m7, ⟨_, (hf _ (by omega)).trans m8, fun e he => absurd he (Nat.not_lt_zero e)⟩, ⟨od, (hf _ (by omega)).trans m9⟩, ⟨og, (hf _ (by omega)).trans m10⟩, ⟨le, (hf _ (by omega)).trans m11⟩, ⟨wa, (hf _ (by omega)).trans m12⟩⟩, fun j hj => hf j (by omega)⟩
set_option maxHeartbeats 1000000 in
theorem L_seed {v : Int32} (hN0 : q + 13 ≤ N) (hN : o + 75 ≤ q) (hB : B ≤ 9000) (hc : CL G ad E o B (s, pa, pm, co, ck, em, ek, er, ei, el, sn, ke, ks, kp)) (hb : Bd B (s, pa, pm, co, ck, em, ek, er, ei, el, sn, ke, ks, kp)) : LW l G tC ad N o q yX7_seed wsX7_seed ({ frames := 0, cells := 0, slots := 0, locals := 0 } : Room) yX8_seed wsX8_seed ({ frames := 0, cells := 0, slots := 0, locals := 0 } : Room) B E (s, pa, pm, co, ck, em, ek, er, ei, el, sn, ke, ks, kp) [.int v] := by
  obtain ⟨h0, hst, hrg, hAr, hI0, hI1, hkp, hbk, hrd, hsg, hwh⟩ := id hc
  obtain ⟨pg, cm, hd, lst, md, cs, op, ⟨h1, h2, h3⟩, hrep, hcm⟩ := id hst
  obtain ⟨k0, k1, k2, k3, k4, k5, k6⟩ := id hb
  have hs0 := hrep.1.1
  have hpg := hrep.1.2.1
  by_cases hy : v < 0
  · exact LW.ro hc hb (c_X7_seed_n (by omega) hy) (fun E1 th m0 m1 hen m7 => c_X8_seed_n hN0 m0 hy)
  · obtain ⟨v9, hv9, rfl⟩ := has_of (pg := 2147483648) (k := v) ⟨Int32.le_iff_toInt_le.mp (Int32.not_lt.mp hy), Int32.toInt_lt v⟩
    refine ⟨nI sn, (s, pa, pm, co, ck, em, ek, er, ei, el, v9, ke, ks, kp), (c_X7_seed_y (by omega) h0 h1 hv9).mono ?_, fun E1 hm => ?_⟩
    · rintro r E2 ⟨g1, hf, hr⟩
      exact ⟨hr, ⟨⟨h0.same (hf _ (by omega)), ⟨pg, cm, hd, lst, md, cs, op, ⟨g1, (hf _ (by omega)).trans h2, (hf _ (by omega)).trans h3⟩, hrep, by omega⟩, hrg.same (fun j _ _ => hf j (by omega)), hAr.same (hf _ (by omega)), (hI0.same (fun j _ _ => hf j (by omega))).mono (by omega), (hI1.same (fun j _ _ => hf j (by omega))).mono (by omega), hkp.same (hf _ (by omega)), hbk.same (fun j _ _ => hf j (by omega)), hrd.same (fun j _ _ => hf j (by omega)), hsg.same (hf _ (by omega)), hwh.same (hf _ (by omega))⟩, ⟨k0, k1, k2, hv9, k4, k5, k6.mono (by omega)⟩⟩, fun j hj => hf j (by omega)⟩
    · obtain ⟨⟨th, m0⟩, m1, ⟨pt, m2⟩, ⟨cg, m3, m3b⟩, m4, m5, ⟨kl, m6, m6b⟩, m7, ⟨en8, m8, m8b⟩, ⟨od, m9⟩, ⟨og, m10⟩, ⟨le, m11⟩, ⟨wa, m12⟩⟩ := hm
      refine (c_X8_seed_y hN0 m0 hv9).mono ?_
      rintro r E2 ⟨g0, hf, hr⟩
      exact ⟨hr, ⟨⟨_, g0⟩, (hf _ (by omega)).trans m1, ⟨pt, (hf _ (by omega)).trans m2⟩, ⟨cg, (hf _ (by omega)).trans m3, m3b⟩, (hf _ (by omega)).trans m4, (hf _ (by omega)).trans m5, ⟨kl, (hf _ (by omega)).trans m6, m6b⟩, (hf _ (by omega)).trans m7, ⟨en8, (hf _ (by omega)).trans m8, m8b⟩, ⟨od, (hf _ (by omega)).trans m9⟩, ⟨og, (hf _ (by omega)).trans m10⟩, ⟨le, (hf _ (by omega)).trans m11⟩, ⟨wa, (hf _ (by omega)).trans m12⟩⟩, fun j hj => hf j (by omega)⟩
set_option maxHeartbeats 1000000 in
theorem L_keep {i : Int32} (hN0 : q + 13 ≤ N) (hN : o + 75 ≤ q) (hB : B ≤ 9000) (hc : CL G ad E o B (s, pa, pm, co, ck, em, ek, er, ei, el, sn, ke, ks, kp)) (hb : Bd B (s, pa, pm, co, ck, em, ek, er, ei, el, sn, ke, ks, kp)) : LW l G tC ad N o q yX7_keep wsX7_keep ({ frames := 2, cells := 0, slots := 0, locals := 61 } : Room) yX8_keep wsX8_keep ({ frames := 1, cells := 0, slots := 0, locals := 25 } : Room) B E (s, pa, pm, co, ck, em, ek, er, ei, el, sn, ke, ks, kp) [.int i] := by
  obtain ⟨h0, hst, hrg, hAr, hI0, hI1, hkp, hbk, hrd, hsg, hwh⟩ := id hc
  obtain ⟨pg, cm, hd, lst, md, cs, op, ⟨h1, h2, h3⟩, hrep, hcm⟩ := id hst
  obtain ⟨k0, k1, k2, k3, k4, k5, k6⟩ := id hb
  have hs0 := hrep.1.1
  have hpg := hrep.1.2.1
  by_cases hy : nI 0 ≤ i ∧ i ≤ nI 1
  · obtain ⟨i9, hi9, rfl⟩ := in_of (by omega) hy
    obtain ⟨fi, f0, f1, f2⟩ := id hAr
    rcases (show i9 = 0 ∨ i9 = 1 by omega) with rfl | rfl
    · obtain ⟨pgz, cmz, hdz, lstz, mdz, sdz, csz, opz, ⟨z0, z1, z2⟩, zr⟩ := id hI0
      refine ⟨nI 1, (s, pa, 0, co, ck, em, ek, er, ei, el, sn, va_cpy s ke 0 (508 * 0) 508, fun j => if j = 0 then sn else ks j, upd kp 0 (nI 1)), (c_X7_keep_y (pb := pa) (by omega) h0 h1 h2 h3 f0 hkp z0 z1 z2 (by omega) (by omega) f1 hrg hrep).mono ?_, fun E1 hm => ?_⟩
      · rintro r E2 ⟨g0, g1, g2, gk, hf, hrg2, hr⟩
        exact ⟨hr, ⟨⟨h0.same (hf _ (by omega) (by omega) (by omega) (by omega) (by omega)), (hst.same (fun j _ _ => hf j (by omega) (by omega) (by omega) (by omega) (by omega))).mono (by omega), hrg2, hAr.same (hf _ (by omega) (by omega) (by omega) (by omega) (by omega)), ⟨_, _, _, _, _, _, _, _, ⟨g0, g1, g2⟩, fun _ => ⟨rfl, (rep_copy hrep).congr (slc_in 0), by omega⟩⟩, ((hI1.congr (fun zk => (upd_n kp (nI 1) (by omega)).symm.trans zk) (slc_out (by omega)) (if_neg (by omega))).same (fun j _ _ => hf j (by omega) (by omega) (by omega) (by omega) (by omega))).mono (by omega), gk, hbk.same (fun j _ _ => hf j (by omega) (by omega) (by omega) (by omega) (by omega)), hrd.same (fun j _ _ => hf j (by omega) (by omega) (by omega) (by omega) (by omega)), hsg.same (hf _ (by omega) (by omega) (by omega) (by omega) (by omega)), hwh.same (hf _ (by omega) (by omega) (by omega) (by omega) (by omega))⟩, ⟨k0, k1, k2, k3, kp_01 0 k4, kp_sd 0 k3 k5, pcB.none pa⟩⟩, fun j hj => hf j (by omega) (by omega) (by omega) (by omega) (by omega)⟩
      · obtain ⟨⟨th, m0⟩, m1, ⟨pt, m2⟩, ⟨cg, m3, m3b⟩, m4, m5, ⟨kl, m6, m6b⟩, m7, ⟨en8, m8, m8b⟩, ⟨od, m9⟩, ⟨og, m10⟩, ⟨le, m11⟩, ⟨wa, m12⟩⟩ := hm
        refine (c_X8_keep_y hN0 m0 m1 m5 m6 m7 hi9).mono ?_
        rintro r E2 ⟨g0, g5, g6, g7, hf, hr⟩
        exact ⟨hr, ⟨⟨_, g0⟩, (hf _ (by omega) (by omega) (by omega) (by omega)).trans m1, ⟨pt, (hf _ (by omega) (by omega) (by omega) (by omega)).trans m2⟩, ⟨cg, (hf _ (by omega) (by omega) (by omega) (by omega)).trans m3, m3b⟩, (hf _ (by omega) (by omega) (by omega) (by omega)).trans m4, g5, ⟨_, g6, kl_step 0 m6b⟩, g7, ⟨en8, (hf _ (by omega) (by omega) (by omega) (by omega)).trans m8, m8b⟩, ⟨od, (hf _ (by omega) (by omega) (by omega) (by omega)).trans m9⟩, ⟨og, (hf _ (by omega) (by omega) (by omega) (by omega)).trans m10⟩, ⟨le, (hf _ (by omega) (by omega) (by omega) (by omega)).trans m11⟩, ⟨wa, (hf _ (by omega) (by omega) (by omega) (by omega)).trans m12⟩⟩, fun j hj => hf j (by omega) (by omega) (by omega) (by omega)⟩
    · obtain ⟨pgz, cmz, hdz, lstz, mdz, sdz, csz, opz, ⟨z0, z1, z2⟩, zr⟩ := id hI1
      refine ⟨nI 1, (s, pa, 0, co, ck, em, ek, er, ei, el, sn, va_cpy s ke 0 (508 * 1) 508, fun j => if j = 1 then sn else ks j, upd kp 1 (nI 1)), (c_X7_keep_y (pb := pa) (by omega) h0 h1 h2 h3 f0 hkp z0 z1 z2 (by omega) (by omega) f2 hrg hrep).mono ?_, fun E1 hm => ?_⟩
      · rintro r E2 ⟨g0, g1, g2, gk, hf, hrg2, hr⟩
        exact ⟨hr, ⟨⟨h0.same (hf _ (by omega) (by omega) (by omega) (by omega) (by omega)), (hst.same (fun j _ _ => hf j (by omega) (by omega) (by omega) (by omega) (by omega))).mono (by omega), hrg2, hAr.same (hf _ (by omega) (by omega) (by omega) (by omega) (by omega)), ((hI0.congr (fun zk => (upd_n kp (nI 1) (by omega)).symm.trans zk) (slc_out (by omega)) (if_neg (by omega))).same (fun j _ _ => hf j (by omega) (by omega) (by omega) (by omega) (by omega))).mono (by omega), ⟨_, _, _, _, _, _, _, _, ⟨g0, g1, g2⟩, fun _ => ⟨rfl, (rep_copy hrep).congr (slc_in 1), by omega⟩⟩, gk, hbk.same (fun j _ _ => hf j (by omega) (by omega) (by omega) (by omega) (by omega)), hrd.same (fun j _ _ => hf j (by omega) (by omega) (by omega) (by omega) (by omega)), hsg.same (hf _ (by omega) (by omega) (by omega) (by omega) (by omega)), hwh.same (hf _ (by omega) (by omega) (by omega) (by omega) (by omega))⟩, ⟨k0, k1, k2, k3, kp_01 1 k4, kp_sd 1 k3 k5, pcB.none pa⟩⟩, fun j hj => hf j (by omega) (by omega) (by omega) (by omega) (by omega)⟩
      · obtain ⟨⟨th, m0⟩, m1, ⟨pt, m2⟩, ⟨cg, m3, m3b⟩, m4, m5, ⟨kl, m6, m6b⟩, m7, ⟨en8, m8, m8b⟩, ⟨od, m9⟩, ⟨og, m10⟩, ⟨le, m11⟩, ⟨wa, m12⟩⟩ := hm
        refine (c_X8_keep_y hN0 m0 m1 m5 m6 m7 hi9).mono ?_
        rintro r E2 ⟨g0, g5, g6, g7, hf, hr⟩
        exact ⟨hr, ⟨⟨_, g0⟩, (hf _ (by omega) (by omega) (by omega) (by omega)).trans m1, ⟨pt, (hf _ (by omega) (by omega) (by omega) (by omega)).trans m2⟩, ⟨cg, (hf _ (by omega) (by omega) (by omega) (by omega)).trans m3, m3b⟩, (hf _ (by omega) (by omega) (by omega) (by omega)).trans m4, g5, ⟨_, g6, kl_step 1 m6b⟩, g7, ⟨en8, (hf _ (by omega) (by omega) (by omega) (by omega)).trans m8, m8b⟩, ⟨od, (hf _ (by omega) (by omega) (by omega) (by omega)).trans m9⟩, ⟨og, (hf _ (by omega) (by omega) (by omega) (by omega)).trans m10⟩, ⟨le, (hf _ (by omega) (by omega) (by omega) (by omega)).trans m11⟩, ⟨wa, (hf _ (by omega) (by omega) (by omega) (by omega)).trans m12⟩⟩, fun j hj => hf j (by omega) (by omega) (by omega) (by omega)⟩
  · exact LW.ro hc hb (c_X7_keep_n (by omega) hy) (fun E1 th m0 m1 hen m7 => c_X8_keep_n hN0 m0 hy)
set_option maxHeartbeats 1000000 in
theorem L_goBack {i : Int32} (hN0 : q + 13 ≤ N) (hN : o + 75 ≤ q) (hB : B ≤ 9000) (hc : CL G ad E o B (s, pa, pm, co, ck, em, ek, er, ei, el, sn, ke, ks, kp)) (hb : Bd B (s, pa, pm, co, ck, em, ek, er, ei, el, sn, ke, ks, kp)) : LW l G tC ad N o q yX7_goBack wsX7_goBack ({ frames := 2, cells := 0, slots := 0, locals := 61 } : Room) yX8_goBack wsX8_goBack ({ frames := 1, cells := 0, slots := 0, locals := 25 } : Room) B E (s, pa, pm, co, ck, em, ek, er, ei, el, sn, ke, ks, kp) [.int i] := by
  obtain ⟨h0, hst, hrg, hAr, hI0, hI1, hkp, hbk, hrd, hsg, hwh⟩ := id hc
  obtain ⟨pg, cm, hd, lst, md, cs, op, ⟨h1, h2, h3⟩, hrep, hcm⟩ := id hst
  obtain ⟨k0, k1, k2, k3, k4, k5, k6⟩ := id hb
  have hs0 := hrep.1.1
  have hpg := hrep.1.2.1
  by_cases hy : nI 0 ≤ i ∧ i ≤ nI 1
  · obtain ⟨i9, hi9, rfl⟩ := in_of (by omega) hy
    obtain ⟨fi, f0, f1, f2⟩ := id hAr
    rcases k4 i9 (by omega) with hk | hk
    · exact LW.ro hc hb (c_X7_goBack_0 (by omega) h0 hkp hi9 hk) (fun E1 th m0 m1 hen m7 => c_X8_goBack_0 hN0 m0 m7 hi9 hk)
    · have hsn := k5 i9 (by omega) hk
      rcases (show i9 = 0 ∨ i9 = 1 by omega) with rfl | rfl
      · obtain ⟨pgz, cmz, hdz, lstz, mdz, sdz, csz, opz, ⟨z0, z1, z2⟩, zr⟩ := id hI0
        obtain ⟨rfl, zr1, zr2⟩ := zr hk
        refine ⟨nI 1, (slc ke 0, pa, 0, co, ck, em, ek, er, ei, el, ks 0, ke, ks, kp), (c_X7_goBack_y (pb := pa) (s := s) (by omega) h0 h1 h2 h3 f0 hkp z0 z1 z2 (by omega) (by omega) f1 hk zr1.1.2.1 hrg).mono ?_, fun E1 hm => ?_⟩
        · rintro r E2 ⟨g1, g2, g3, hf, hrg2, hr⟩
          exact ⟨hr, ⟨⟨h0.same (hf _ (by omega) (by omega) (by omega) (by omega)), ⟨_, _, _, _, _, _, _, ⟨g1, g2, g3⟩, rep_copy zr1, by omega⟩, hrg2, hAr.same (hf _ (by omega) (by omega) (by omega) (by omega)), (hI0.same (fun j _ _ => hf j (by omega) (by omega) (by omega) (by omega))).mono (by omega), (hI1.same (fun j _ _ => hf j (by omega) (by omega) (by omega) (by omega))).mono (by omega), hkp.same (hf _ (by omega) (by omega) (by omega) (by omega)), hbk.same (fun j _ _ => hf j (by omega) (by omega) (by omega) (by omega)), hrd.same (fun j _ _ => hf j (by omega) (by omega) (by omega) (by omega)), hsg.same (hf _ (by omega) (by omega) (by omega) (by omega)), hwh.same (hf _ (by omega) (by omega) (by omega) (by omega))⟩, ⟨k0, k1, k2, hsn, k4, k5, pcB.none pa⟩⟩, fun j hj => hf j (by omega) (by omega) (by omega) (by omega)⟩
        · obtain ⟨⟨th, m0⟩, m1, ⟨pt, m2⟩, ⟨cg, m3, m3b⟩, m4, m5, ⟨kl, m6, m6b⟩, m7, ⟨en8, m8, m8b⟩, ⟨od, m9⟩, ⟨og, m10⟩, ⟨le, m11⟩, ⟨wa, m12⟩⟩ := hm
          refine (c_X8_goBack_y hN0 m0 m1 m5 m6 m7 hi9 hk).mono ?_
          rintro r E2 ⟨g0, g1, hf, hr⟩
          rw [m6b 0 (by omega) hk] at g0
          exact ⟨hr, ⟨⟨_, g0⟩, g1, ⟨pt, (hf _ (by omega) (by omega)).trans m2⟩, ⟨cg, (hf _ (by omega) (by omega)).trans m3, m3b⟩, (hf _ (by omega) (by omega)).trans m4, (hf _ (by omega) (by omega)).trans m5, ⟨kl, (hf _ (by omega) (by omega)).trans m6, m6b⟩, (hf _ (by omega) (by omega)).trans m7, ⟨en8, (hf _ (by omega) (by omega)).trans m8, m8b⟩, ⟨od, (hf _ (by omega) (by omega)).trans m9⟩, ⟨og, (hf _ (by omega) (by omega)).trans m10⟩, ⟨le, (hf _ (by omega) (by omega)).trans m11⟩, ⟨wa, (hf _ (by omega) (by omega)).trans m12⟩⟩, fun j hj => hf j (by omega) (by omega)⟩
      · obtain ⟨pgz, cmz, hdz, lstz, mdz, sdz, csz, opz, ⟨z0, z1, z2⟩, zr⟩ := id hI1
        obtain ⟨rfl, zr1, zr2⟩ := zr hk
        refine ⟨nI 1, (slc ke 1, pa, 0, co, ck, em, ek, er, ei, el, ks 1, ke, ks, kp), (c_X7_goBack_y (pb := pa) (s := s) (by omega) h0 h1 h2 h3 f0 hkp z0 z1 z2 (by omega) (by omega) f2 hk zr1.1.2.1 hrg).mono ?_, fun E1 hm => ?_⟩
        · rintro r E2 ⟨g1, g2, g3, hf, hrg2, hr⟩
          exact ⟨hr, ⟨⟨h0.same (hf _ (by omega) (by omega) (by omega) (by omega)), ⟨_, _, _, _, _, _, _, ⟨g1, g2, g3⟩, rep_copy zr1, by omega⟩, hrg2, hAr.same (hf _ (by omega) (by omega) (by omega) (by omega)), (hI0.same (fun j _ _ => hf j (by omega) (by omega) (by omega) (by omega))).mono (by omega), (hI1.same (fun j _ _ => hf j (by omega) (by omega) (by omega) (by omega))).mono (by omega), hkp.same (hf _ (by omega) (by omega) (by omega) (by omega)), hbk.same (fun j _ _ => hf j (by omega) (by omega) (by omega) (by omega)), hrd.same (fun j _ _ => hf j (by omega) (by omega) (by omega) (by omega)), hsg.same (hf _ (by omega) (by omega) (by omega) (by omega)), hwh.same (hf _ (by omega) (by omega) (by omega) (by omega))⟩, ⟨k0, k1, k2, hsn, k4, k5, pcB.none pa⟩⟩, fun j hj => hf j (by omega) (by omega) (by omega) (by omega)⟩
        · obtain ⟨⟨th, m0⟩, m1, ⟨pt, m2⟩, ⟨cg, m3, m3b⟩, m4, m5, ⟨kl, m6, m6b⟩, m7, ⟨en8, m8, m8b⟩, ⟨od, m9⟩, ⟨og, m10⟩, ⟨le, m11⟩, ⟨wa, m12⟩⟩ := hm
          refine (c_X8_goBack_y hN0 m0 m1 m5 m6 m7 hi9 hk).mono ?_
          rintro r E2 ⟨g0, g1, hf, hr⟩
          rw [m6b 1 (by omega) hk] at g0
          exact ⟨hr, ⟨⟨_, g0⟩, g1, ⟨pt, (hf _ (by omega) (by omega)).trans m2⟩, ⟨cg, (hf _ (by omega) (by omega)).trans m3, m3b⟩, (hf _ (by omega) (by omega)).trans m4, (hf _ (by omega) (by omega)).trans m5, ⟨kl, (hf _ (by omega) (by omega)).trans m6, m6b⟩, (hf _ (by omega) (by omega)).trans m7, ⟨en8, (hf _ (by omega) (by omega)).trans m8, m8b⟩, ⟨od, (hf _ (by omega) (by omega)).trans m9⟩, ⟨og, (hf _ (by omega) (by omega)).trans m10⟩, ⟨le, (hf _ (by omega) (by omega)).trans m11⟩, ⟨wa, (hf _ (by omega) (by omega)).trans m12⟩⟩, fun j hj => hf j (by omega) (by omega)⟩
  · exact LW.ro hc hb (c_X7_goBack_n (by omega) hy) (fun E1 th m0 m1 hen m7 => c_X8_goBack_n hN0 m0 hy)
end P76
