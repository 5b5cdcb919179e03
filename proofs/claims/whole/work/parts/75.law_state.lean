/-! FOR THE LAW: the class's cells and the reference's stand for one state. -/
theorem MI.mono {l : Launch} {y : MethodName} {ws : List Cond} {rm : Room} {G : vG} {tC : Nat} {ad : Nat → Nat} {N : Nat} {E : Nat → va_E} {av : List Value} {post post2 : Int32 → (Nat → va_E) → Prop} (h : MI l y ws rm G tC ad N E av post) (hp : ∀ r E2, post r E2 → post2 r E2) : MI l y ws rm G tC ad N E av post2 := by
  intro sz
  refine MetFree.mono (h sz) (fun _ _ q => q) (fun _ _ _ _ _ q => q) (fun a s o t _ q => ?_)
  obtain ⟨⟨⟨r, u, h1, h2, h3⟩, h4⟩, h5⟩ := q
  exact ⟨⟨⟨r, u, h1, hp r u h2, h3⟩, h4⟩, h5⟩
/-- the state: the reference's cells; what is kept to be undone, how many; octets of a packet that is not whole; the book of letters; the seed; images, their seeds, whether they are kept -/
abbrev SG : Type := (Nat → Int32) × (Nat → Int32) × Nat × Nat × (Nat → Nat) × Nat × (Nat → Nat) × (Nat → Nat) × (Nat → Nat) × (Nat → Nat) × Nat × (Nat → Int32) × (Nat → Nat) × (Nat → Int32)
/-! pieces of the class's cells -/
def qObj (ad : Nat → Nat) (E : Nat → va_E) (o co : Nat) : Prop := E o = .inr (4, [.ref (ad (o + 1)), .ref (ad (o + 4)), .ref (ad (o + 54)), .ref (ad (o + 61)), .ref (ad (o + 62)), .ref (ad (o + 67)), .ref (ad (o + 73)), .ref (ad (o + 74)), .int (nI co)])
def qSt (G : vG) (ad : Nat → Nat) (E : Nat → va_E) (o B : Nat) (s : Nat → Int32) (sn : Nat) : Prop := ∃ (pg cm hd : Nat) (lst md : Int32) (cs op : Nat → Int32), (E (o + 1) = .inr (2, [.ref (ad (o + 2)), .ref (ad (o + 3)), .int (nI pg), .int (nI cm), .int lst, .int md, .int (nI sn), .int (nI hd)]) ∧ E (o + 2) = eI G 500 cs ∧ E (o + 3) = eI G 4 op) ∧ RepS s cs op pg cm hd lst md (cm + 1) ∧ cm ≤ B
def qIm (G : vG) (ad : Nat → Nat) (E : Nat → va_E) (z B : Nat) (kq : Int32) (s : Nat → Int32) (sn : Nat) : Prop := ∃ (pg cm hd : Nat) (lst md sd : Int32) (cs op : Nat → Int32), (E z = .inr (2, [.ref (ad (z + 1)), .ref (ad (z + 2)), .int (nI pg), .int (nI cm), .int lst, .int md, .int sd, .int (nI hd)]) ∧ E (z + 1) = eI G 500 cs ∧ E (z + 2) = eI G 4 op) ∧ (kq = nI 1 → sd = nI sn ∧ RepS s cs op pg cm hd lst md (cm + 1) ∧ cm ≤ B)
def qAr (G : vG) (ad : Nat → Nat) (E : Nat → va_E) (o : Nat) : Prop := ∃ fi : Nat → Option Nat, E (o + 54) = eR G 2 fi ∧ fi 0 = some (ad (o + 55)) ∧ fi 1 = some (ad (o + 58))
def qBk (G : vG) (ad : Nat → Nat) (E : Nat → va_E) (o em : Nat) (ek er ei el : Nat → Nat) : Prop := ∃ (bp br bi bl : Nat → Int32), E (o + 62) = .inr (0, [.ref (ad (o + 63)), .ref (ad (o + 64)), .ref (ad (o + 65)), .ref (ad (o + 66)), .int (nI em)]) ∧ E (o + 63) = eI G 20 bp ∧ E (o + 64) = eI G 20 br ∧ E (o + 65) = eI G 20 bi ∧ E (o + 66) = eI G 20 bl ∧ bkOk bp br bi bl em ek er ei el
def qRd (G : vG) (ad : Nat → Nat) (E : Nat → va_E) (o : Nat) : Prop := ∃ (rp : Nat) (tm : Int32) (ln wt og en wa : Nat → Int32), E (o + 67) = .inr (1, [.ref (ad (o + 68)), .ref (ad (o + 69)), .ref (ad (o + 70)), .ref (ad (o + 71)), .ref (ad (o + 72)), .int (nI rp), .int tm]) ∧ E (o + 68) = eI G 10 ln ∧ E (o + 69) = eI G 10 wt ∧ E (o + 70) = eI G 10 og ∧ E (o + 71) = eI G 10 en ∧ E (o + 72) = eI G 10 wa
def qSg (G : vG) (E : Nat → va_E) (o co : Nat) (ck : Nat → Nat) : Prop := ∃ cg : Nat → Int32, E (o + 73) = eI G 10 cg ∧ ∀ j, j < co → cg j = nI (ck j)
def qWh (G : vG) (E : Nat → va_E) (o : Nat) : Prop := ∃ pt : Nat → Int32, E (o + 74) = eI G 10 pt
def qKp (G : vG) (E : Nat → va_E) (o : Nat) (kp : Nat → Int32) : Prop := E (o + 61) = eZ G 2 kp
/-- the class's world -/
def CL (G : vG) (ad : Nat → Nat) (E : Nat → va_E) (o B : Nat) (x : SG) : Prop := match x with
  | (s, pa, pm, co, ck, em, ek, er, ei, el, sn, ke, ks, kp) => qObj ad E o co ∧ qSt G ad E o B s sn ∧ Ring G ad E (o + 4) pa pm ∧ qAr G ad E o ∧ qIm G ad E (o + 55) B (kp 0) (slc ke 0) (ks 0) ∧ qIm G ad E (o + 58) B (kp 1) (slc ke 1) (ks 1) ∧ qKp G E o kp ∧ qBk G ad E o em ek er ei el ∧ qRd G ad E o ∧ qSg G E o co ck ∧ qWh G E o
/-- the reference's object -/
abbrev mO (ad : Nat → Nat) (q : Nat) (th : Int32) (sn co pm em : Nat) : va_E := .inr (5, [.int th, .ref (ad (q + 1)), .long (lN sn), .ref (ad (q + 2)), .ref (ad (q + 3)), .int (nI co), .ref (ad (q + 4)), .int (nI pm), .ref (ad (q + 5)), .ref (ad (q + 6)), .ref (ad (q + 7)), .ref (ad (q + 8)), .int (nI em), .ref (ad (q + 9)), .ref (ad (q + 10)), .ref (ad (q + 11)), .ref (ad (q + 12))])
/-- the reference's world -/
def ML (G : vG) (ad : Nat → Nat) (E : Nat → va_E) (q : Nat) (x : SG) : Prop := match x with
  | (s, pa, pm, co, ck, em, ek, er, ei, el, sn, ke, ks, kp) => (∃ th : Int32, E q = mO ad q th sn co pm em) ∧ E (q + 1) = eI G 508 s ∧ (∃ pt : Nat → Int32, E (q + 2) = eI G 10 pt) ∧ (∃ cg : Nat → Int32, E (q + 3) = eI G 10 cg ∧ ∀ j, j < co → cg j = nI (ck j)) ∧ E (q + 4) = eI G 8128 pa ∧ E (q + 5) = eI G 1016 ke ∧ (∃ kl : Nat → Int64, E (q + 6) = eJ G 2 kl ∧ ∀ j, j < 2 → kp j = nI 1 → kl j = lN (ks j)) ∧ E (q + 7) = eZ G 2 kp ∧ (∃ en : Nat → Int32, E (q + 8) = eI G 80 en ∧ enOk en em ek er ei el) ∧ (∃ od : Nat → Int32, E (q + 9) = eI G 60 od) ∧ (∃ og : Nat → Int32, E (q + 10) = eI G 10 og) ∧ (∃ le : Nat → Int32, E (q + 11) = eI G 10 le) ∧ (∃ wa : Nat → Int32, E (q + 12) = eI G 10 wa)
/-- bounds -/
def Bd (B : Nat) (x : SG) : Prop := match x with
  | (s, pa, pm, co, ck, em, ek, er, ei, el, sn, ke, ks, kp) => co ≤ 9 ∧ (∀ j, j < co → ck j < 256) ∧ em ≤ 20 ∧ sn < 2147483648 ∧ (∀ j, j < 2 → kp j = nI 0 ∨ kp j = nI 1) ∧ (∀ j, j < 2 → kp j = nI 1 → ks j < 2147483648) ∧ pcB pa pm B
section P75
variable {G : vG} {ad : Nat → Nat} {E E2 : Nat → va_E} {o q z B B2 co em sn : Nat} {s : Nat → Int32} {ck ek er ei el : Nat → Nat} {kq : Int32} {kp : Nat → Int32}
theorem qObj.same (h : qObj ad E o co) (h0 : E2 o = E o) : qObj ad E2 o co := h0.trans h
theorem qKp.same (h : qKp G E o kp) (h0 : E2 (o + 61) = E (o + 61)) : qKp G E2 o kp := h0.trans h
theorem qSt.same (h : qSt G ad E o B s sn) (hf : ∀ j, o + 1 ≤ j → j < o + 4 → E2 j = E j) : qSt G ad E2 o B s sn := by
  obtain ⟨pg, cm, hd, lst, md, cs, op, ⟨h0, h1, h2⟩, h3⟩ := h
  exact ⟨pg, cm, hd, lst, md, cs, op, ⟨(hf _ (by omega) (by omega)).trans h0, (hf _ (by omega) (by omega)).trans h1, (hf _ (by omega) (by omega)).trans h2⟩, h3⟩
theorem qSt.mono (h : qSt G ad E o B s sn) (hB : B ≤ B2) : qSt G ad E o B2 s sn := by
  obtain ⟨pg, cm, hd, lst, md, cs, op, h0, h1, h2⟩ := h
  exact ⟨pg, cm, hd, lst, md, cs, op, h0, h1, by omega⟩
theorem qIm.same (h : qIm G ad E z B kq s sn) (hf : ∀ j, z ≤ j → j < z + 3 → E2 j = E j) : qIm G ad E2 z B kq s sn := by
  obtain ⟨pg, cm, hd, lst, md, sd, cs, op, ⟨h0, h1, h2⟩, h3⟩ := h
  exact ⟨pg, cm, hd, lst, md, sd, cs, op, ⟨(hf _ (by omega) (by omega)).trans h0, (hf _ (by omega) (by omega)).trans h1, (hf _ (by omega) (by omega)).trans h2⟩, h3⟩
theorem qIm.mono (h : qIm G ad E z B kq s sn) (hB : B ≤ B2) : qIm G ad E z B2 kq s sn := by
  obtain ⟨pg, cm, hd, lst, md, sd, cs, op, h0, h1⟩ := h
  exact ⟨pg, cm, hd, lst, md, sd, cs, op, h0, fun k => ⟨(h1 k).1, (h1 k).2.1, by have := (h1 k).2.2; omega⟩⟩
theorem qAr.same (h : qAr G ad E o) (h0 : E2 (o + 54) = E (o + 54)) : qAr G ad E2 o := by
  obtain ⟨fi, h1, h2⟩ := h
  exact ⟨fi, h0.trans h1, h2⟩
theorem qBk.same (h : qBk G ad E o em ek er ei el) (hf : ∀ j, o + 62 ≤ j → j < o + 67 → E2 j = E j) : qBk G ad E2 o em ek er ei el := by
  obtain ⟨bp, br, bi, bl, h0, h1, h2, h3, h4, h5⟩ := h
  exact ⟨bp, br, bi, bl, (hf _ (by omega) (by omega)).trans h0, (hf _ (by omega) (by omega)).trans h1, (hf _ (by omega) (by omega)).trans h2, (hf _ (by omega) (by omega)).trans h3, (hf _ (by omega) (by omega)).trans h4, h5⟩
theorem qRd.same (h : qRd G ad E o) (hf : ∀ j, o + 67 ≤ j → j < o + 73 → E2 j = E j) : qRd G ad E2 o := by
  obtain ⟨rp, tm, ln, wt, og, en, wa, h0, h1, h2, h3, h4, h5⟩ := h
  exact ⟨rp, tm, ln, wt, og, en, wa, (hf _ (by omega) (by omega)).trans h0, (hf _ (by omega) (by omega)).trans h1, (hf _ (by omega) (by omega)).trans h2, (hf _ (by omega) (by omega)).trans h3, (hf _ (by omega) (by omega)).trans h4, (hf _ (by omega) (by omega)).trans h5⟩
theorem qSg.same (h : qSg G E o co ck) (h0 : E2 (o + 73) = E (o + 73)) : qSg G E2 o co ck := by
  obtain ⟨cg, h1, h2⟩ := h
  exact ⟨cg, h0.trans h1, h2⟩
theorem qWh.same (h : qWh G E o) (h0 : E2 (o + 74) = E (o + 74)) : qWh G E2 o := by
  obtain ⟨pt, h1⟩ := h
  exact ⟨pt, h0.trans h1⟩
theorem CL.same {x : SG} (h : CL G ad E o B x) (hf : ∀ j, o ≤ j → j < o + 75 → E2 j = E j) : CL G ad E2 o B x := by
  obtain ⟨s, pa, pm, co, ck, em, ek, er, ei, el, sn, ke, ks, kp⟩ := x
  obtain ⟨h0, h1, h2, h3, h4, h5, h6, h7, h8, h9, h10⟩ := h
  exact ⟨h0.same (hf _ (by omega) (by omega)), h1.same (fun j _ _ => hf j (by omega) (by omega)), h2.same (fun j _ _ => hf j (by omega) (by omega)), h3.same (hf _ (by omega) (by omega)), h4.same (fun j _ _ => hf j (by omega) (by omega)), h5.same (fun j _ _ => hf j (by omega) (by omega)), h6.same (hf _ (by omega) (by omega)), h7.same (fun j _ _ => hf j (by omega) (by omega)), h8.same (fun j _ _ => hf j (by omega) (by omega)), h9.same (hf _ (by omega) (by omega)), h10.same (hf _ (by omega) (by omega))⟩
theorem CL.mono {x : SG} (h : CL G ad E o B x) (hB : B ≤ B2) : CL G ad E o B2 x := by
  obtain ⟨s, pa, pm, co, ck, em, ek, er, ei, el, sn, ke, ks, kp⟩ := x
  obtain ⟨h0, h1, h2, h3, h4, h5, h6⟩ := h
  exact ⟨h0, h1.mono hB, h2, h3, h4.mono hB, h5.mono hB, h6⟩
theorem Bd.mono {x : SG} (h : Bd B x) (hB : B ≤ B2) : Bd B2 x := by
  obtain ⟨s, pa, pm, co, ck, em, ek, er, ei, el, sn, ke, ks, kp⟩ := x
  obtain ⟨h0, h1, h2, h3, h4, h5, h6⟩ := h
  exact ⟨h0, h1, h2, h3, h4, h5, h6.mono hB⟩
theorem ML.same {x : SG} (h : ML G ad E q x) (hf : ∀ j, q ≤ j → j < q + 13 → E2 j = E j) : ML G ad E2 q x := by
  obtain ⟨s, pa, pm, co, ck, em, ek, er, ei, el, sn, ke, ks, kp⟩ := x
  obtain ⟨⟨th, m0⟩, m1, ⟨pt, m2⟩, ⟨cg, m3, m3b⟩, m4, m5, ⟨kl, m6, m6b⟩, m7, ⟨en, m8, m8b⟩, ⟨od, m9⟩, ⟨og, m10⟩, ⟨le, m11⟩, ⟨wa, m12⟩⟩ := h
  exact ⟨⟨th, (hf _ (by omega) (by omega)).trans m0⟩, (hf _ (by omega) (by omega)).trans m1, ⟨pt, (hf _ (by omega) (by omega)).trans m2⟩, ⟨cg, (hf _ (by omega) (by omega)).trans m3, m3b⟩, (hf _ (by omega) (by omega)).trans m4, (hf _ (by omega) (by omega)).trans m5, ⟨kl, (hf _ (by omega) (by omega)).trans m6, m6b⟩, (hf _ (by omega) (by omega)).trans m7, ⟨en, (hf _ (by omega) (by omega)).trans m8, m8b⟩, ⟨od, (hf _ (by omega) (by omega)).trans m9⟩, ⟨og, (hf _ (by omega) (by omega)).trans m10⟩, ⟨le, (hf _ (by omega) (by omega)).trans m11⟩, ⟨wa, (hf _ (by omega) (by omega)).trans m12⟩⟩
theorem Ring.le {t pm : Nat} {pa : Nat → Int32} (h : Ring G ad E t pa pm) : pm ≤ 16 := by
  obtain ⟨nx, f, h⟩ := h
  exact h.2.1
/-- how many packets came, by the int that tells it -/
theorem cm_eqN {a c : Nat} (h : nI a = nI c) (ha : a < 1000000) (hc : c < 1000000) : a = c := (nI_eq (by omega) (by omega)).mp h
end P75
/-- a call of the law on both: the answers are the same, and both stand for one state again -/
def LW (l : Launch) (G : vG) (tC : Nat) (ad : Nat → Nat) (N o q : Nat) (y7 : MethodName) (ws7 : List Cond) (rm7 : Room) (y8 : MethodName) (ws8 : List Cond) (rm8 : Room) (B : Nat) (E : Nat → va_E) (x : SG) (av : List Value) : Prop :=
  ∃ (r0 : Int32) (x2 : SG), MI l y7 ws7 rm7 G tC ad N E (.ref (ad o) :: av) (fun r E2 => r = r0 ∧ (CL G ad E2 o (B + 16) x2 ∧ Bd (B + 16) x2) ∧ ∀ j, o + 75 ≤ j → E2 j = E j) ∧ ∀ E1, ML G ad E1 q x → MI l y8 ws8 rm8 G tC ad N E1 (.ref (ad q) :: av) (fun r E2 => r = r0 ∧ ML G ad E2 q x2 ∧ ∀ j, j < q → E2 j = E1 j)
section P75b
variable {l : Launch} {G : vG} {tC : Nat} {ad : Nat → Nat} {N o q : Nat} {y7 : MethodName} {ws7 : List Cond} {rm7 : Room} {y8 : MethodName} {ws8 : List Cond} {rm8 : Room} {B : Nat} {E : Nat → va_E} {av : List Value}
variable {s pa : Nat → Int32} {pm co : Nat} {ck : Nat → Nat} {em : Nat} {ek er ei el : Nat → Nat} {sn : Nat} {ke : Nat → Int32} {ks : Nat → Nat} {kp : Nat → Int32}
/-- a call that changes nothing -/
theorem LW.ro {a : Int32} (hc : CL G ad E o B (s, pa, pm, co, ck, em, ek, er, ei, el, sn, ke, ks, kp)) (hb : Bd B (s, pa, pm, co, ck, em, ek, er, ei, el, sn, ke, ks, kp))
    (h7 : MI l y7 ws7 rm7 G tC ad N E (.ref (ad o) :: av) (fun r E2 => E2 = E ∧ r = a))
    (h8 : ∀ E1 (th : Int32), E1 q = mO ad q th sn co pm em → E1 (q + 1) = eI G 508 s → (∃ en : Nat → Int32, E1 (q + 8) = eI G 80 en ∧ enOk en em ek er ei el) → E1 (q + 7) = eZ G 2 kp → MI l y8 ws8 rm8 G tC ad N E1 (.ref (ad q) :: av) (fun r E2 => E2 q = mO ad q (nI 0) sn co pm em ∧ (∀ j, j ≠ q → E2 j = E1 j) ∧ r = a)) :
    LW l G tC ad N o q y7 ws7 rm7 y8 ws8 rm8 B E (s, pa, pm, co, ck, em, ek, er, ei, el, sn, ke, ks, kp) av := by
  refine ⟨a, (s, pa, pm, co, ck, em, ek, er, ei, el, sn, ke, ks, kp), h7.mono ?_, fun E1 hm => ?_⟩
  · rintro r E2 ⟨rfl, h⟩
    exact ⟨h, ⟨hc.mono (by omega), hb.mono (by omega)⟩, fun _ _ => rfl⟩
  · obtain ⟨⟨th, m0⟩, m1, ⟨pt, m2⟩, ⟨cg, m3, m3b⟩, m4, m5, ⟨kl, m6, m6b⟩, m7, ⟨en, m8, m8b⟩, ⟨od, m9⟩, ⟨og, m10⟩, ⟨le, m11⟩, ⟨wa, m12⟩⟩ := hm
    refine (h8 E1 th m0 m1 ⟨en, m8, m8b⟩ m7).mono ?_
    rintro r E2 ⟨h0, hf, h⟩
    exact ⟨h, ⟨⟨_, h0⟩, (hf _ (by omega)).trans m1, ⟨pt, (hf _ (by omega)).trans m2⟩, ⟨cg, (hf _ (by omega)).trans m3, m3b⟩, (hf _ (by omega)).trans m4, (hf _ (by omega)).trans m5, ⟨kl, (hf _ (by omega)).trans m6, m6b⟩, (hf _ (by omega)).trans m7, ⟨en, (hf _ (by omega)).trans m8, m8b⟩, ⟨od, (hf _ (by omega)).trans m9⟩, ⟨og, (hf _ (by omega)).trans m10⟩, ⟨le, (hf _ (by omega)).trans m11⟩, ⟨wa, (hf _ (by omega)).trans m12⟩⟩, fun j hj => hf j (by omega)⟩
end P75b
