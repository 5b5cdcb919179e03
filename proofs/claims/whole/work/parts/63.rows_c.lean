/-! WHAT MAKES CELLS: constructors, and the rows that they are made of. -/
/-- what a constructor finds: the world, and the class of arrays of states -/
def wK (G : vG) (tC : Nat) (ad : Nat → Nat) (E : Nat → va_E) (N sz : Nat) (U : State) : Prop := wI G tC ad E N sz U ∧ va_AO RX5 U
theorem wK.blind {G : vG} {tC : Nat} {ad : Nat → Nat} {E : Nat → va_E} {N sz : Nat} (av : List Value) : FrameBlind (va_Pc av (wK G tC ad E N sz)) := by
  intro a U g mk q
  obtain ⟨q0, q1, q2⟩ := q
  have h := wI.blind (G := G) (tC := tC) (ad := ad) (E := E) (N := N) (sz := sz) av a U g mk ⟨q0, q1⟩
  exact ⟨h.1, h.2, va_AO.moved (u := U) (U := U.calling g mk a) (Vm.Alike.refl U.vm) q2⟩
/-- a constructor: mc cells of ms slots are new; the world's addresses stay -/
def MK (l : Launch) (y : MethodName) (ws : List Cond) (rm : Room) (mc ms : Nat) (G : vG) (tC : Nat) (ad : Nat → Nat) (N N2 : Nat) (E : Nat → va_E) (av : List Value) (post : (Nat → Nat) → (Nat → va_E) → Prop) : Prop :=
  ∀ sz : Nat, Met l y ws rm (va_Pc av (wK G tC ad E N sz)) (va_Qv (fun u : (Nat → Nat) × (Nat → va_E) => (∀ i, i < N → u.1 i = ad i) ∧ post u.1 u.2) (fun u t => wO G u.1 u.2 N2 (va_A (Wo ad E N) sz) t) (va_A (Wo ad E N) sz)) mc ms (va_A (Wo ad E N) sz)
abbrev QK (below : List Frame) (args : Array Value) (s : State) (G : vG) (ad : Nat → Nat) (N N2 : Nat) (A : Nat → Prop) (mc ms : Nat) (post : (Nat → Nat) → (Nat → va_E) → Prop) : State → Prop :=
  MQ below (va_Qv (fun u : (Nat → Nat) × (Nat → va_E) => (∀ i, i < N → u.1 i = ad i) ∧ post u.1 u.2) (fun u t => wO G u.1 u.2 N2 A t) A) args s mc ms A
theorem MK_of {l : Launch} {y : MethodName} {ws ws' : List Cond} {rm : Room} {mc ms : Nat} {G : vG} {tC : Nat} {ad : Nat → Nat} {N N2 : Nat} {E : Nat → va_E} {av : List Value} {post : (Nat → Nat) → (Nat → va_E) → Prop} {cc : ByteArray} {maxL : Nat} {ret : Option FieldType} (own : String) (ho : y.cls = own) (hy : plainName y.cls = true) (hi : y.name = "<init>") (hw : ws = Cond.code y cc maxL ret :: ws') (hn : (lg_sl av).length ≤ maxL)
    (K : ∀ (p : Program) (e : Env) (s : State) (m : MethodId) (args : Array Value) (below : List Frame) (meth : Method) (c : Code) (A : Nat → Prop) (ls : Array Slot), Cx p s m meth c args cc maxL ret ws own G tC A → meth.name = "<init>" → va_AO RX5 s → Wd G A s.heap s.heap [] ad E N → lv_has ls maxL (lv_args 0 av) → W p l e rm s m args below meth c s.heap [] 0 0 (QK below args s G ad N N2 A mc ms post) (F0 m 0 ls [])) : MK l y ws rm mc ms G tC ad N N2 E av post := by
  intro sz
  refine Met.ofW (cc := cc) (maxL := maxL) (ret := ret) hy hw ?_
  intro p e s m args below meth c s₁ B hml hv
  obtain ⟨rfl, ⟨hsz, hP, hD0, hU, hst⟩, hAO⟩ := hv
  subst hsz
  have hl := lv_entry av (n := maxL) hn
  rw [lg_entry_eq]
  exact K p e s m _ below meth c _ _ ⟨B.exec, B.bytes, B.returns, hml, by rw [← ho]; exact findClass_of_methodNamed B.named, atoms_spec (ws := ws) B.pre, hU, hst, fun q h => Or.inr h, B.notSynchronized⟩ ((name_of_methodNamed B.named B.method).1.trans hi) hAO ⟨hP, hD0.self, va_S.rf⟩ hl
section R63
variable {p : Program} {l : Launch} {e : Env} {R : Room} {s : State} {m : MethodId} {args : Array Value} {below : List Frame} {meth : Method} {c : Code} {H : Heap} {locs : List Loc} {cells slots : Nat} {Q : State → Prop}
variable {cc : ByteArray} {pc nL : Nat} {ret : Option FieldType} {ls : Array Slot} {st rest : List Value} {Ts : List Cond} {own : String} {G : vG} {tC : Nat} {A : Nat → Prop} {ad : Nat → Nat} {E : Nat → va_E} {N : Nat}
theorem r_kret (C : Cx p s m meth c args cc nL none Ts own G tC A) {ad2 : Nat → Nat} {E2 : Nat → va_E} {N2 mc ms : Nat} (hw : Wd G A s.heap H locs ad2 E2 N2) {post : (Nat → Nat) → (Nat → va_E) → Prop} (ha : ∀ i, i < N → ad2 i = ad i) (hdg : decode cc pc = .ok (.return_, 1)) (hp : post ad2 E2) : W p l e R s m args below meth c H locs mc ms (QK below args s G ad N N2 A mc ms post) (F0 m pc ls []) := by
  obtain ⟨hx, hb, hr, hml, hown, hts, hU, hst, hA, hlk⟩ := C
  exact W.vret hx hb hr (fun t ht hW => ⟨⟨(ad2, E2), rfl, ⟨ha, hp⟩, by rw [ht]; exact hw.1, hw.2.1⟩, hw.2.2.F ht⟩) hw.2.2.2.2 hdg hlk
theorem r_objInit (C : Cx p s m meth c args cc nL ret Ts own G tC A) {index : Nat} (h1 : Cond.methodLink own index objectInit ∈ Ts) (h2 : Cond.instanceMethod objectInit ∈ Ts) (h3 : Cond.code objectInit ⟨#[0xb1]⟩ 1 none ∈ Ts) (hsz : ls.size = nL) {a : Nat} (hdg : decode cc pc = .ok (.invokespecial index, 3)) (hfr : 1 ≤ R.frames) (hlo : 2 * (F0 m pc ls (.ref a :: rest)).monitorRoom + (rest.map fun v => v.category).sum + 12 ≤ R.locals)
    (kk : W p l e R s m args below meth c H locs cells slots Q (F0 m (pc + 3) ls rest)) : W p l e R s m args below meth c H locs cells slots Q (F0 m pc ls (.ref a :: rest)) := by
  obtain ⟨hx, hb, hr, hml, hown, hts, hU, hst, hA, hlk⟩ := C
  refine W.objInit hx hb hown (hts _ h1) (hts _ h2) (hts _ h3) rfl (by rw [hml]; exact hsz) rfl hdg hfr hlo ?_
  exact W.eq (g2 := F0 m (pc + 3) ls rest) rfl kk
theorem r_stk {st2 : List Value} (h : st = st2) (kk : W p l e R s m args below meth c H locs cells slots Q (F0 m pc ls st2)) : W p l e R s m args below meth c H locs cells slots Q (F0 m pc ls st) := by
  rw [h]; exact kk
theorem r_new (C : Cx p s m meth c args cc nL ret Ts own G tC A) (hw : Wd G A s.heap H locs ad E N) {C0 : String} {T : u_T} {n ci index : Nat} (hin : ∀ w ∈ u_ws C0 T n, w ∈ Ts) (ty : Nat → FieldType) (hty : ∀ k, k < n → parseFieldDescriptor (T k).2.2.1 = some (ty k)) (hcl : Cond.classLink own index C0 ∈ Ts) (hinst : Cond.instantiable C0 n ∈ Ts) (hini : Cond.initialized C0 ∈ Ts) (hc : vwCl[ci]? = some (C0, T, n)) {fs : List Value} (hfs : ∀ j, j < n → defaultValue (ty j) = vp_V fs j) (hcells : cells + 1 ≤ R.cells) (hslots : slots + n ≤ R.slots) (hdg : decode cc pc = .ok (.new index, 3))
    (kk : ∀ (ad2 : Nat → Nat) (E2 : Nat → va_E) (H1 : Heap), (∀ i, i < N → ad2 i = ad i) → E2 N = .inr (ci, fs) → (∀ j, j < N → E2 j = E j) → Wd G A s.heap H1 locs ad2 E2 (N + 1) → W p l e R s m args below meth c H1 locs (cells + 1) (slots + n) Q (F0 m (pc + 3) ls (.ref (ad2 N) :: rest))) : W p l e R s m args below meth c H locs cells slots Q (F0 m pc ls rest) := by
  obtain ⟨hx, hb, hr, hml, hown, hts, hU, hst, hA, hlk⟩ := C
  refine va_new hx hb hts hin ty hty hown (hts _ hcl) (hts _ hinst) (hts _ hini) hU.1 hw.1 hw.2.1 hw.2.2 hA hc hfs hcells hslots hdg (fun q H1 g1 g2 g3 => ?_)
  rw [Wo_push] at g1 g2
  have := kk _ _ H1 (fun i hi => up_n ad q (Nat.ne_of_lt hi)) (up_s E N _) (fun j hj => up_n E _ (Nat.ne_of_lt hj)) ⟨g1, g2, g3⟩
  rw [up_s] at this
  exact this
theorem r_newR (C : Cx p s m meth c args cc nL ret Ts own G tC A) (hAO : va_AO RX5 s) (hw : Wd G A s.heap H locs ad E N) {index n : Nat} (hcl : Cond.classLink own index RX5 ∈ Ts) (hn : n < 1000) (hcells : cells + 1 ≤ R.cells) (hslots : slots + n ≤ R.slots) (hdg : decode cc pc = .ok (.anewarray index, 3))
    (kk : ∀ (ad2 : Nat → Nat) (E2 : Nat → va_E) (H1 : Heap), (∀ i, i < N → ad2 i = ad i) → E2 N = eR G n (fun _ => none) → (∀ j, j < N → E2 j = E j) → Wd G A s.heap H1 locs ad2 E2 (N + 1) → W p l e R s m args below meth c H1 locs (cells + 1) (slots + n) Q (F0 m (pc + 3) ls (.ref (ad2 N) :: rest))) : W p l e R s m args below meth c H locs cells slots Q (F0 m pc ls (.int (nI n) :: rest)) := by
  obtain ⟨hx, hb, hr, hml, hown, hts, hU, hst, hA, hlk⟩ := C
  refine va_newq hx hb hown (hts _ hcl) hAO hU.1 hw.1 hw.2.1 hw.2.2 hA (nI_pos (by omega)) (nI_clamp (by omega)) (by omega) hcells hslots hdg (fun q cA H1 g0 g1 g2 g3 => ?_)
  have e1 := (g0.2 4 (cA, .object RX5) rfl).2
  have e2 := (hU.1.2 3 (G.2 3, .object RX5) rfl).2
  obtain ⟨-, -, -, -, -, e1⟩ := e1
  obtain ⟨-, -, -, -, -, e2⟩ := e2
  have e3 : cA = G.2 3 := Option.some.inj (e1.symm.trans e2)
  subst e3
  rw [Wo_push] at g1 g2
  have := kk _ _ H1 (fun i hi => up_n ad q (Nat.ne_of_lt hi)) (up_s E N _) (fun j hj => up_n E _ (Nat.ne_of_lt hj)) ⟨g1, g2, g3⟩
  rw [up_s] at this
  exact this
theorem r_newI (C : Cx p s m meth c args cc nL ret Ts own G tC A) (hw : Wd G A s.heap H locs ad E N) {n : Nat} (hac : Cond.arrayClass .int ∈ Ts) (hn : n < 10000) (hcells : cells + 1 ≤ R.cells) (hslots : slots + n ≤ R.slots) (hdg : decode cc pc = .ok (.newarray .int, 2))
    (kk : ∀ (ad2 : Nat → Nat) (E2 : Nat → va_E) (H1 : Heap), (∀ i, i < N → ad2 i = ad i) → E2 N = eI G n (fun _ => nI 0) → (∀ j, j < N → E2 j = E j) → Wd G A s.heap H1 locs ad2 E2 (N + 1) → W p l e R s m args below meth c H1 locs (cells + 1) (slots + n) Q (F0 m (pc + 2) ls (.ref (ad2 N) :: rest))) : W p l e R s m args below meth c H locs cells slots Q (F0 m pc ls (.int (nI n) :: rest)) := by
  obtain ⟨hx, hb, hr, hml, hown, hts, hU, hst, hA, hlk⟩ := C
  refine va_newa (atype := .int) (a0 := (n, .inl (fun _ => nI 0))) (ty := .int) hx hb (hts _ hac) rfl hU.1 hw.1 hw.2.1 hw.2.2 hA (N' := n) (fun cA => rfl) (nI_pos (by omega)) (nI_clamp (by omega)) (by simp only [componentBytes]; omega) hcells hslots hdg (fun q cA H1 g0 g1 g2 g3 => ?_)
  have e1 := (g0.2 4 (cA, .int) rfl).2
  have e2 := (hU.1.2 0 (G.2 0, .int) rfl).2
  have e3 : cA = G.2 0 := Option.some.inj (Eq.trans (Eq.symm e1) e2)
  subst e3
  rw [Wo_push] at g1 g2
  have := kk _ _ H1 (fun i hi => up_n ad q (Nat.ne_of_lt hi)) (up_s E N _) (fun j hj => up_n E _ (Nat.ne_of_lt hj)) ⟨g1, g2, g3⟩
  rw [up_s] at this
  exact this
theorem r_newJ (C : Cx p s m meth c args cc nL ret Ts own G tC A) (hw : Wd G A s.heap H locs ad E N) {n : Nat} (hac : Cond.arrayClass .long ∈ Ts) (hn : n < 10000) (hcells : cells + 1 ≤ R.cells) (hslots : slots + n ≤ R.slots) (hdg : decode cc pc = .ok (.newarray .long, 2))
    (kk : ∀ (ad2 : Nat → Nat) (E2 : Nat → va_E) (H1 : Heap), (∀ i, i < N → ad2 i = ad i) → E2 N = eJ G n (fun _ => 0) → (∀ j, j < N → E2 j = E j) → Wd G A s.heap H1 locs ad2 E2 (N + 1) → W p l e R s m args below meth c H1 locs (cells + 1) (slots + n) Q (F0 m (pc + 2) ls (.ref (ad2 N) :: rest))) : W p l e R s m args below meth c H locs cells slots Q (F0 m pc ls (.int (nI n) :: rest)) := by
  obtain ⟨hx, hb, hr, hml, hown, hts, hU, hst, hA, hlk⟩ := C
  refine va_newa (atype := .long) (a0 := (n, .inr (.inl (fun _ => 0)))) (ty := .long) hx hb (hts _ hac) rfl hU.1 hw.1 hw.2.1 hw.2.2 hA (N' := n) (fun cA => rfl) (nI_pos (by omega)) (nI_clamp (by omega)) (by simp only [componentBytes]; omega) hcells hslots hdg (fun q cA H1 g0 g1 g2 g3 => ?_)
  have e1 := (g0.2 4 (cA, .long) rfl).2
  have e2 := (hU.1.2 1 (G.2 1, .long) rfl).2
  have e3 : cA = G.2 1 := Option.some.inj (Eq.trans (Eq.symm e1) e2)
  subst e3
  rw [Wo_push] at g1 g2
  have := kk _ _ H1 (fun i hi => up_n ad q (Nat.ne_of_lt hi)) (up_s E N _) (fun j hj => up_n E _ (Nat.ne_of_lt hj)) ⟨g1, g2, g3⟩
  rw [up_s] at this
  exact this
theorem r_newZ (C : Cx p s m meth c args cc nL ret Ts own G tC A) (hw : Wd G A s.heap H locs ad E N) {n : Nat} (hac : Cond.arrayClass .boolean ∈ Ts) (hn : n < 10000) (hcells : cells + 1 ≤ R.cells) (hslots : slots + n ≤ R.slots) (hdg : decode cc pc = .ok (.newarray .boolean, 2))
    (kk : ∀ (ad2 : Nat → Nat) (E2 : Nat → va_E) (H1 : Heap), (∀ i, i < N → ad2 i = ad i) → E2 N = eZ G n (fun _ => nI 0) → (∀ j, j < N → E2 j = E j) → Wd G A s.heap H1 locs ad2 E2 (N + 1) → W p l e R s m args below meth c H1 locs (cells + 1) (slots + n) Q (F0 m (pc + 2) ls (.ref (ad2 N) :: rest))) : W p l e R s m args below meth c H locs cells slots Q (F0 m pc ls (.int (nI n) :: rest)) := by
  obtain ⟨hx, hb, hr, hml, hown, hts, hU, hst, hA, hlk⟩ := C
  refine va_newa (atype := .boolean) (a0 := (n, .inl (fun _ => nI 0))) (ty := .boolean) hx hb (hts _ hac) rfl hU.1 hw.1 hw.2.1 hw.2.2 hA (N' := n) (fun cA => rfl) (nI_pos (by omega)) (nI_clamp (by omega)) (by simp only [componentBytes]; omega) hcells hslots hdg (fun q cA H1 g0 g1 g2 g3 => ?_)
  have e1 := (g0.2 4 (cA, .boolean) rfl).2
  have e2 := (hU.1.2 2 (G.2 2, .boolean) rfl).2
  have e3 : cA = G.2 2 := Option.some.inj (Eq.trans (Eq.symm e1) e2)
  subst e3
  rw [Wo_push] at g1 g2
  have := kk _ _ H1 (fun i hi => up_n ad q (Nat.ne_of_lt hi)) (up_s E N _) (fun j hj => up_n E _ (Nat.ne_of_lt hj)) ⟨g1, g2, g3⟩
  rw [up_s] at this
  exact this
theorem r_aast (C : Cx p s m meth c args cc nL ret Ts own G tC A) (hw : Wd G A s.heap H locs ad E N) {i k : Nat} (hi : i < N) (hk : k < N) {n j : Nat} {f : Nat → Option Nat} (hE : E i = eR G n f) {fs : List Value} (hK : E k = .inr (2, fs)) (hj : j < n) (hn : n < 1000) (hdg : decode cc pc = .ok (.aastore, 1))
    (kk : ∀ (E2 : Nat → va_E) (H1 : Heap) (locs1 : List Loc), E2 i = eR G n (va_up f j (some (ad k))) → (∀ x, x ≠ i → E2 x = E x) → Wd G A s.heap H1 locs1 ad E2 N → W p l e R s m args below meth c H1 locs1 cells slots Q (F0 m (pc + 1) ls rest)) : W p l e R s m args below meth c H locs cells slots Q (F0 m pc ls (.ref (ad k) :: .int (nI j) :: .ref (ad i) :: rest)) := by
  obtain ⟨hx, hb, hr, hml, hown, hts, hU, hst, hA, hlk⟩ := C
  refine va_astq hx hb hU.1 hw.1 hw.2.1 hw.2.2 i 3 k 2 (by rw [Wo_get hi, hE]) rfl (by rw [Wo_get hk, hK]) rfl (vp_in_nI hj (by omega)) hdg (fun H1 locs1 g1 g2 g3 => ?_)
  rw [Wo_set hi, nI_clamp (by omega)] at g1 g2
  exact kk _ H1 locs1 (up_s _ _ _) (fun x hx => up_n _ _ hx) ⟨g1, g2, g3⟩
theorem r_backK (C : Cx p s m meth c args cc nL ret Ts own G tC A) (hw : Wd G A s.heap H locs ad E N) {post : (Nat → Nat) → (Nat → va_E) → Prop} {N2 mc ms : Nat} {st0 : List Value} {a : Array Value}
    (hr : va_Run p l e R s m args below meth c H locs cells slots mc ms (F0 m pc ls st0) rest (va_Qv (fun u : (Nat → Nat) × (Nat → va_E) => (∀ i, i < N → u.1 i = ad i) ∧ post u.1 u.2) (fun u t => wO G u.1 u.2 N2 (va_A (Wo ad E N) H.size) t) (va_A (Wo ad E N) H.size) a) (va_A (Wo ad E N) H.size))
    (kk : ∀ (ad2 : Nat → Nat) (E2 : Nat → va_E) (H1 : Heap) (locs1 : List Loc), (∀ i, i < N → ad2 i = ad i) → post ad2 E2 → Wd G A s.heap H1 locs1 ad2 E2 N2 → W p l e R s m args below meth c H1 locs1 (cells + mc) (slots + ms) Q (F0 m (pc + 3) ls rest)) : W p l e R s m args below meth c H locs cells slots Q (F0 m pc ls st0) := by
  have hAB := wA.in hw.2.1 hw.2.2 C.2.2.2.2.2.2.2.2.1
  refine va_callv hr hw.2.2 (fun q _ h => hAB q h) hAB (fun u t H1 locs1 ht hvm hp hB hz hk hS => ?_)
  exact kk u.1 u.2 H1 locs1 hp.1 hp.2 ⟨by rw [← ht]; exact hB.1, hB.2.weaken (fun _ q _ h => hAB q.1 h), hS⟩
theorem r_ctor (C : Cx p s m meth c args cc nL ret Ts own G tC A) (hAO : va_AO RX5 s) (hw : Wd G A s.heap H locs ad E N) (hsz : ls.size = nL) {b : Nat} {y : MethodName} {ws ws' : List Cond} {rm : Room} {mc ms N2 : Nat} {post : (Nat → Nat) → (Nat → va_E) → Prop} (hM : MK l y ws rm mc ms G tC ad N N2 E [.ref b] post) {index maxL : Nat} {bytes : ByteArray} (hg : GoodIn Ts ws) (hws : ws = .code y bytes maxL none :: ws') (hrm : rm.cells = mc ∧ rm.slots = ms) (h1 : Cond.methodLink own index y ∈ Ts) (h2 : Cond.instanceMethod y ∈ Ts) (h3 : Cond.initialized y.cls ∈ Ts) (hi : y.name = "<init>")
    (hd : y.cls ≠ "java/lang/invoke/MethodHandle" ∧ y.cls ≠ "java/lang/invoke/VarHandle" ∧ (parseMethodDescriptor y.desc).map (fun d => d.parameters.length) = some 0) (hR : rm.frames + 1 ≤ R.frames ∧ 8 + (maxL + 11) + rm.locals ≤ R.locals) (hrest : (rest.map fun v => v.category).sum ≤ 8) (hdg : decode cc pc = .ok (.invokespecial index, 3)) (hf : cells + mc ≤ R.cells ∧ slots + ms ≤ R.slots)
    (kk : ∀ (ad2 : Nat → Nat) (E2 : Nat → va_E) (H1 : Heap) (locs1 : List Loc), (∀ i, i < N → ad2 i = ad i) → post ad2 E2 → Wd G A s.heap H1 locs1 ad2 E2 N2 → W p l e R s m args below meth c H1 locs1 (cells + mc) (slots + ms) Q (F0 m (pc + 3) ls rest)) : W p l e R s m args below meth c H locs cells slots Q (F0 m pc ls (.ref b :: rest)) := by
  have C' := C
  obtain ⟨hx, hb, hr, hml, hown, hts, hU, hstt, hA, hlk⟩ := C
  exact r_backK C' hw (va_runI (As := []) (rest := rest) ⟨hx, hb, hml, hown, hts⟩ (hM H.size) (cwI 0 hts hg hws hrm.1 hrm.2 (hts _ h3) (hts _ h1) (hts _ h2) hi hd hR) ⟨wK.blind _, fun U hH hW => ⟨rfl, wI.of hU hstt hA hw U hH hW, va_AO.moved hW.alike hAO⟩⟩ rfl rfl hsz rfl (lv_room hrest) hdg hf) kk
theorem r_ctorN (C : Cx p s m meth c args cc nL ret Ts own G tC A) (hAO : va_AO RX5 s) (hw : Wd G A s.heap H locs ad E N) (hsz : ls.size = nL) {b : Nat} {y : MethodName} {ws ws' : List Cond} {rm : Room} {mc ms N2 : Nat} {post : (Nat → Nat) → (Nat → va_E) → Prop} (hM : MK l y ws rm mc ms G tC ad N N2 E [.ref b] post) {index maxL : Nat} {bytes : ByteArray} {host : String} (hn : va_Nw (.methodLinkNest own index y host) s) (hg : GoodIn Ts ws) (hws : ws = .code y bytes maxL none :: ws') (hrm : rm.cells = mc ∧ rm.slots = ms) (h2 : Cond.instanceMethod y ∈ Ts) (h3 : Cond.initialized y.cls ∈ Ts) (hi : y.name = "<init>")
    (hd : y.cls ≠ "java/lang/invoke/MethodHandle" ∧ y.cls ≠ "java/lang/invoke/VarHandle" ∧ (parseMethodDescriptor y.desc).map (fun d => d.parameters.length) = some 0) (hR : rm.frames + 1 ≤ R.frames ∧ 8 + (maxL + 11) + rm.locals ≤ R.locals) (hrest : (rest.map fun v => v.category).sum ≤ 8) (hdg : decode cc pc = .ok (.invokespecial index, 3)) (hf : cells + mc ≤ R.cells ∧ slots + ms ≤ R.slots)
    (kk : ∀ (ad2 : Nat → Nat) (E2 : Nat → va_E) (H1 : Heap) (locs1 : List Loc), (∀ i, i < N → ad2 i = ad i) → post ad2 E2 → Wd G A s.heap H1 locs1 ad2 E2 N2 → W p l e R s m args below meth c H1 locs1 (cells + mc) (slots + ms) Q (F0 m (pc + 3) ls rest)) : W p l e R s m args below meth c H locs cells slots Q (F0 m pc ls (.ref b :: rest)) := by
  have C' := C
  obtain ⟨hx, hb, hr, hml, hown, hts, hU, hstt, hA, hlk⟩ := C
  exact r_backK C' hw (va_runIN (As := []) (rest := rest) ⟨hx, hb, hml, hown, hts⟩ (hM H.size) ⟨va_cnB 0 hts hg hws hrm.1 hrm.2 hn (hts _ h3) hd hR, hi, hts _ h2⟩ ⟨wK.blind _, fun U hH hW => ⟨rfl, wI.of hU hstt hA hw U hH hW, va_AO.moved hW.alike hAO⟩⟩ rfl rfl hsz rfl (lv_room hrest) hdg hf) kk
end R63
