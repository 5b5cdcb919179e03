/-! WORLDS BY AN INDEX: cell i of a world stands at the address ad i and holds E i; a call hands on the whole world. -/
def Wo (ad : Nat → Nat) (E : Nat → va_E) (N : Nat) : va_W := (List.range N).map (fun i => (ad i, E i))
theorem Wo_get {ad : Nat → Nat} {E : Nat → va_E} {N i : Nat} (h : i < N) : (Wo ad E N)[i]? = some (ad i, E i) := by simp [Wo, h]
theorem Wo_at {ad : Nat → Nat} {E : Nat → va_E} {N k : Nat} {q : Nat × va_E} (h : (Wo ad E N)[k]? = some q) : k < N ∧ q = (ad k, E k) := by
  have hk : k < (Wo ad E N).length := (List.getElem?_eq_some_iff.mp h).1
  have hk' : k < N := by simpa [Wo] using hk
  rw [Wo_get hk'] at h
  exact ⟨hk', (Option.some.inj h).symm⟩
theorem Wo_set {ad : Nat → Nat} {E : Nat → va_E} {N i : Nat} (h : i < N) (x : va_E) : (Wo ad E N).set i (ad i, x) = Wo ad (va_up E i x) N := by
  apply List.ext_getElem?
  intro k
  by_cases hk : k < N
  · rw [Wo_get hk]
    by_cases hki : i = k
    · subst hki
      rw [List.getElem?_set_self (by simpa [Wo] using h)]
      simp [va_up]
    · rw [List.getElem?_set_ne hki, Wo_get hk]
      simp [va_up, Ne.symm hki]
  · rw [List.getElem?_eq_none (by simpa [Wo] using hk), List.getElem?_eq_none (by simpa [Wo] using hk)]
theorem Wo_push (ad : Nat → Nat) (E : Nat → va_E) (N a : Nat) (x : va_E) : Wo ad E N ++ [(a, x)] = Wo (va_up ad N a) (va_up E N x) (N + 1) := by
  simp only [Wo, List.range_succ, List.map_append, List.map_cons, List.map_nil]
  congr 1
  · apply List.map_congr_left
    intro k hk
    have : k < N := List.mem_range.mp hk
    simp [va_up, Nat.ne_of_lt this]
  · simp [va_up]
theorem up_s {α : Type} (f : Nat → α) (k : Nat) (v : α) : va_up f k v k = v := by simp [va_up]
theorem up_n {α : Type} (f : Nat → α) {k j : Nat} (v : α) (h : j ≠ k) : va_up f k v j = f j := by simp [va_up, h]
abbrev vG : Type := va_G × (Nat → ClassId)
def tysOf (cy : Nat → ClassId) : List (ClassId × FieldType) := [(cy 0, .int), (cy 1, .long), (cy 2, .boolean), (cy 3, .object RX5)]
def codeT : Nat → Int32 := fun j => ([21, 2, 73, 94, 100, 115, 56, 47, 208, 199, 140, 155, 161, 182, 253, 234] : List Int32).getD j 0
def stat (tC : Nat) (A : Nat → Prop) (U : State) (H : Heap) : Prop := va_Z RX1 "CODES" "[I" (.ref tC) A U H ∧ va_T .int tC 16 (fun j => .int (codeT j)) A U H
/-- the words on calls among nest mates -/
def nestOk (U : State) : Prop := va_Nw (.methodLinkNest RX2 28 yX7_isWithin RX7) U ∧ va_Nw (.methodLinkNest RX3 21 yX7_isWithin RX7) U ∧ va_Nw (.methodLinkNest RX4 66 yX7_isWithin RX7) U ∧ va_Nw (.methodLinkNest RX5 72 yX7_isWithin RX7) U ∧ va_Nw (.methodLinkNest RX7 33 yX2_init RX7) U ∧ va_Nw (.methodLinkNest RX7 40 yX4_init RX7) U
def wU (G : vG) (U : State) : Prop := va_K G.1 vwCl (tysOf G.2) U ∧ nestOk U
/-- what a method finds, and leaves -/
def wI (G : vG) (tC : Nat) (ad : Nat → Nat) (E : Nat → va_E) (N sz : Nat) (U : State) : Prop := U.heap.size = sz ∧ va_P G.1 vwCl (Wo ad E N) U.heap ∧ va_D (fun _ => True) (Wo ad E N) ∧ wU G U ∧ stat tC (va_A (Wo ad E N) sz) U U.heap
def wO (G : vG) (ad : Nat → Nat) (E : Nat → va_E) (N : Nat) (A : Nat → Prop) (t : State) : Prop := va_P G.1 vwCl (Wo ad E N) t.heap ∧ va_D A (Wo ad E N)
/-- contracts: an int (or boolean), nothing -/
def MI (l : Launch) (y : MethodName) (ws : List Cond) (rm : Room) (G : vG) (tC : Nat) (ad : Nat → Nat) (N : Nat) (E : Nat → va_E) (av : List Value) (post : Int32 → (Nat → va_E) → Prop) : Prop :=
  ∀ sz : Nat, Met l y ws rm (va_Pc av (wI G tC ad E N sz)) (va_Qi post (fun E2 t => wO G ad E2 N (va_A (Wo ad E N) sz) t) (va_A (Wo ad E N) sz)) 0 0 (va_A (Wo ad E N) sz)
def MV (l : Launch) (y : MethodName) (ws : List Cond) (rm : Room) (G : vG) (tC : Nat) (ad : Nat → Nat) (N : Nat) (E : Nat → va_E) (av : List Value) (post : (Nat → va_E) → Prop) : Prop :=
  ∀ sz : Nat, Met l y ws rm (va_Pc av (wI G tC ad E N sz)) (va_Qv post (fun E2 t => wO G ad E2 N (va_A (Wo ad E N) sz) t) (va_A (Wo ad E N) sz)) 0 0 (va_A (Wo ad E N) sz)
/-- a method that makes cells: a new world of N2 cells; mc cells of ms slots are new -/
def MC (l : Launch) (y : MethodName) (ws : List Cond) (rm : Room) (mc ms : Nat) (G : vG) (tC : Nat) (ad : Nat → Nat) (N N2 : Nat) (E : Nat → va_E) (av : List Value) (post : (Nat → Nat) → (Nat → va_E) → Prop) : Prop :=
  ∀ sz : Nat, Met l y ws rm (va_Pc av (wI G tC ad E N sz)) (va_Qv (fun u : (Nat → Nat) × (Nat → va_E) => (∀ i, i < N → u.1 i = ad i) ∧ post u.1 u.2) (fun u t => wO G u.1 u.2 N2 (va_A (Wo ad E N) sz) t) (va_A (Wo ad E N) sz)) mc ms (va_A (Wo ad E N) sz)
/-- what stands fast in a method's body -/
def Cx (p : Program) (s : State) (m : MethodId) (meth : Method) (c : Code) (args : Array Value) (cc : ByteArray) (nL : Nat) (ret : Option FieldType) (Ts : List Cond) (own : String) (G : vG) (tC : Nat) (A : Nat → Prop) : Prop :=
  p.tables.exec = Jvm.exec ∧ c.code = cc ∧ meth.sig.returnType = ret ∧ c.maxLocals = nL ∧ s.vm.findClass own = some m.cls ∧ (∀ w ∈ Ts, w.before args s = true) ∧ wU G s ∧ stat tC A s s.heap ∧ (∀ q, s.heap.size ≤ q → A q) ∧ meth.locks = false
/-- the world as it is now -/
def Wd (G : vG) (A : Nat → Prop) (H0 H : Heap) (locs : List Loc) (ad : Nat → Nat) (E : Nat → va_E) (N : Nat) : Prop := va_P G.1 vwCl (Wo ad E N) H ∧ va_D A (Wo ad E N) ∧ va_S A H0 H locs
abbrev eI (G : vG) (n : Nat) (f : Nat → Int32) : va_E := .inl (G.2 0, n, .inl f)
abbrev eJ (G : vG) (n : Nat) (f : Nat → Int64) : va_E := .inl (G.2 1, n, .inr (.inl f))
abbrev eZ (G : vG) (n : Nat) (f : Nat → Int32) : va_E := .inl (G.2 2, n, .inl f)
abbrev eR (G : vG) (n : Nat) (f : Nat → Option Nat) : va_E := .inl (G.2 3, n, .inr (.inr (.inr (.inr f))))
abbrev QI (below : List Frame) (args : Array Value) (s : State) (G : vG) (ad : Nat → Nat) (N : Nat) (A : Nat → Prop) (post : Int32 → (Nat → va_E) → Prop) : State → Prop := MQ below (va_Qi post (fun E2 t => wO G ad E2 N A t) A) args s 0 0 A
abbrev QV (below : List Frame) (args : Array Value) (s : State) (G : vG) (ad : Nat → Nat) (N : Nat) (A : Nat → Prop) (post : (Nat → va_E) → Prop) : State → Prop := MQ below (va_Qv post (fun E2 t => wO G ad E2 N A t) A) args s 0 0 A
theorem wI.blind {G : vG} {tC : Nat} {ad : Nat → Nat} {E : Nat → va_E} {N sz : Nat} (av : List Value) : FrameBlind (va_Pc av (wI G tC ad E N sz)) := by
  intro a U g mk q
  obtain ⟨q0, q1, q2, q3, ⟨q4, n1, n2, n3, n4, n5, n6⟩, q5, q6⟩ := q
  have hv : U.vm.Alike (U.calling g mk a).vm := Vm.Alike.refl U.vm
  have hn : ∀ {w : Cond}, w.onTables = true → va_Nw w U → va_Nw w (U.calling g mk a) := fun hw h => va_Nw.same hw (rfl : U.vm = (U.calling g mk a).vm) h
  exact ⟨q0, q1, q2, q3, ⟨va_K.moved hv q4, hn rfl n1, hn rfl n2, hn rfl n3, hn rfl n4, hn rfl n5, hn rfl n6⟩, va_Z.moved hv q5, va_T.moved hv q6⟩
theorem wA.in {A : Nat → Prop} {ad : Nat → Nat} {E : Nat → va_E} {N : Nat} {H0 H : Heap} {locs : List Loc} (hD : va_D A (Wo ad E N)) (hS : va_S A H0 H locs) (hA : ∀ q, H0.size ≤ q → A q) : ∀ q, va_A (Wo ad E N) H.size q → A q := by
  intro q h
  rcases h with ⟨k, x, h⟩ | h
  · exact hD.2 k (q, x) h
  · exact hA q (Nat.le_trans hS.1 h)
theorem wI.of {s : State} {G : vG} {tC : Nat} {A : Nat → Prop} {ad : Nat → Nat} {E : Nat → va_E} {N : Nat} {H : Heap} {locs : List Loc} (hU : wU G s) (hst : stat tC A s s.heap) (hA : ∀ q, s.heap.size ≤ q → A q) (hw : Wd G A s.heap H locs ad E N) (U : State) (hH : U.heap = H) (hW : s.WarmedH U.vm) : wI G tC ad E N H.size U := by
  obtain ⟨hP, hD, hS⟩ := hw
  obtain ⟨hK, n1, n2, n3, n4, n5, n6⟩ := hU
  have hAB := wA.in hD hS hA
  subst hH
  refine ⟨rfl, hP, hD.weaken (fun _ _ _ _ => trivial), ⟨va_K.moved hW.alike hK, va_Nw.warmM hW n1, va_Nw.warmM hW n2, va_Nw.warmM hW n3, va_Nw.warmM hW n4, va_Nw.warmM hW n5, va_Nw.warmM hW n6⟩, ?_, ?_⟩
  · exact va_Z.moved hW.alike ((hst.1.kept hS.2.1).narrow hAB)
  · exact va_T.moved hW.alike ((hst.2.kept hS.2.1).narrow hAB)
theorem arr_ext {cA : ClassId} {n : Nat} {f g : Nat → Value} (h : ∀ j, j < n → f j = g j) : arrV cA n f = arrV cA n g := by
  unfold arrV
  congr 2
  funext j
  exact h j.val j.isLt
/-- contents that are the same within the array's length -/
theorem Wd_cong {G : vG} {A : Nat → Prop} {H0 H : Heap} {locs : List Loc} {ad : Nat → Nat} {E : Nat → va_E} {N i : Nat} {e0 e1 : va_E} (hw : Wd G A H0 H locs ad E N) (hi : i < N) (hE : E i = e0) (he : va_at G.1 vwCl (ad i, e0) H → va_at G.1 vwCl (ad i, e1) H) : Wd G A H0 H locs ad (va_up E i e1) N := by
  obtain ⟨hP, hD, hS⟩ := hw
  have h0 : (Wo ad E N)[i]? = some (ad i, e0) := by rw [Wo_get hi, hE]
  refine ⟨fun k q hk => ?_, ?_, hS⟩
  · obtain ⟨hk', rfl⟩ := Wo_at hk
    by_cases h : k = i
    · subst h; rw [up_s]; exact he (hP k _ h0)
    · rw [up_n _ _ h]; exact hP k _ (Wo_get hk')
  · rw [← Wo_set hi]; exact hD.set h0
theorem r_congI {p : Program} {l : Launch} {e : Env} {R : Room} {s : State} {m : MethodId} {args : Array Value} {below : List Frame} {meth : Method} {c : Code} {H0 H : Heap} {locs : List Loc} {cells slots : Nat} {Q : State → Prop} {g : JFrame} {G : vG} {A : Nat → Prop} {ad : Nat → Nat} {E : Nat → va_E} {N : Nat} (hw : Wd G A H0 H locs ad E N) {i : Nat} (hi : i < N) {n : Nat} {f f2 : Nat → Int32} (hE : E i = eI G n f) (hf : ∀ j, j < n → f j = f2 j)
    (kk : ∀ (E2 : Nat → va_E), E2 i = eI G n f2 → (∀ j, j ≠ i → E2 j = E j) → Wd G A H0 H locs ad E2 N → W p l e R s m args below meth c H locs cells slots Q g) : W p l e R s m args below meth c H locs cells slots Q g := by
  refine kk _ (up_s E i _) (fun j hj => up_n _ _ hj) (Wd_cong hw hi hE (fun h => ?_))
  show H[ad i]? = some (vp_cell _ _)
  rw [show H[ad i]? = some (vp_cell (G.2 0) (n, .inl f)) from h, vp_cell_i, vp_cell_i, arr_ext (fun j hj => by rw [hf j hj])]
section R10
variable {p : Program} {l : Launch} {e : Env} {R : Room} {s : State} {m : MethodId} {args : Array Value} {below : List Frame} {meth : Method} {c : Code} {H : Heap} {locs : List Loc} {cells slots : Nat} {Q : State → Prop}
variable {cc : ByteArray} {pc nL : Nat} {ret : Option FieldType} {ls : Array Slot} {st rest : List Value} {Ts : List Cond} {own : String} {G : vG} {tC : Nat} {A : Nat → Prop} {ad : Nat → Nat} {E : Nat → va_E} {N : Nat}
theorem r_get (C : Cx p s m meth c args cc nL ret Ts own G tC A) (hw : Wd G A s.heap H locs ad E N) (Cn : String) (T : u_T) (n ci : Nat) {index : Nat} (hin : ∀ w ∈ u_ws Cn T n, w ∈ Ts) {i : Nat} (hi : i < N) {fs : List Value} (hE : E i = .inr (ci, fs)) (hc : vwCl[ci]? = some (Cn, T, n)) (k : Nat) (hk : k < n) (hl : Cond.fieldLink own index Cn (T k).2.1 (T k).2.2.1 ∈ Ts) (h1 : (T k).1 = Cn) {v : Value} (hv : fs[k]? = some v) (hdg : decode cc pc = .ok (.getfield index, 3))
    (kk : W p l e R s m args below meth c H locs cells slots Q (F0 m (pc + 3) ls (v :: rest))) : W p l e R s m args below meth c H locs cells slots Q (F0 m pc ls (.ref (ad i) :: rest)) := by
  obtain ⟨hx, hb, hr, hml, hown, hts, hU, hst, hA, hlk⟩ := C
  exact va_get hx hb hts hin hown hU.1 hw.1 i (by rw [Wo_get hi, hE]) hc k hk (hts _ hl) (by rw [h1]; exact fun _ h => h) hv hdg kk
theorem r_put (C : Cx p s m meth c args cc nL ret Ts own G tC A) (hw : Wd G A s.heap H locs ad E N) (Cn : String) (T : u_T) (n ci : Nat) {index : Nat} (hin : ∀ w ∈ u_ws Cn T n, w ∈ Ts) (ty0 : Nat → FieldType) (hty : ∀ k, k < n → parseFieldDescriptor (T k).2.2.1 = some (ty0 k)) (hnm : ∀ a, a < n → ∀ b, b < n → a ≠ b → (T a).2.1 ≠ (T b).2.1) {i : Nat} (hi : i < N) {fs : List Value} (hE : E i = .inr (ci, fs)) (hc : vwCl[ci]? = some (Cn, T, n)) (k : Nat) (hk : k < n) (hl : Cond.fieldLink own index Cn (T k).2.1 (T k).2.2.1 ∈ Ts) (h1 : (T k).1 = Cn) (hfin : (T k).2.2.2 = false) {v : Value} (hn : narrow (ty0 k) v = v) (hfit : fits (ty0 k) v = true) (hlen : k < fs.length) (hdg : decode cc pc = .ok (.putfield index, 3))
    (kk : ∀ (E2 : Nat → va_E) (H1 : Heap) (locs1 : List Loc), E2 i = .inr (ci, fs.set k v) → (∀ j, j ≠ i → E2 j = E j) → Wd G A s.heap H1 locs1 ad E2 N → W p l e R s m args below meth c H1 locs1 cells slots Q (F0 m (pc + 3) ls rest)) : W p l e R s m args below meth c H locs cells slots Q (F0 m pc ls (v :: .ref (ad i) :: rest)) := by
  obtain ⟨hx, hb, hr, hml, hown, hts, hU, hst, hA, hlk⟩ := C
  refine va_put hx hb hts hin ty0 hty hnm hown hU.1 hw.1 hw.2.1 hw.2.2 i (by rw [Wo_get hi, hE]) hc k hk (hts _ hl) (by rw [h1]; exact fun _ h => h) hfin (hty k hk) hn hfit hlen hdg (fun H1 locs1 g1 g2 g3 => ?_)
  rw [Wo_set hi] at g1 g2
  exact kk _ H1 locs1 (up_s _ _ _) (fun j hj => up_n _ _ hj) ⟨g1, g2, g3⟩
theorem r_putF (C : Cx p s m meth c args cc nL ret Ts own G tC A) (hnam : meth.name = "<init>") (hw : Wd G A s.heap H locs ad E N) (Cn : String) (T : u_T) (n ci : Nat) {index : Nat} (hin : ∀ w ∈ u_ws Cn T n, w ∈ Ts) (ty0 : Nat → FieldType) (hty : ∀ k, k < n → parseFieldDescriptor (T k).2.2.1 = some (ty0 k)) (hnm : ∀ a, a < n → ∀ b, b < n → a ≠ b → (T a).2.1 ≠ (T b).2.1) {i : Nat} (hi : i < N) {fs : List Value} (hE : E i = .inr (ci, fs)) (hc : vwCl[ci]? = some (Cn, T, n)) (k : Nat) (hk : k < n) (hl : Cond.fieldLink own index Cn (T k).2.1 (T k).2.2.1 ∈ Ts) (h1 : (T k).1 = Cn) (h2 : (T k).1 = own) (hfin : (T k).2.2.2 = true) {v : Value} (hn : narrow (ty0 k) v = v) (hfit : fits (ty0 k) v = true) (hlen : k < fs.length) (hdg : decode cc pc = .ok (.putfield index, 3))
    (kk : ∀ (E2 : Nat → va_E) (H1 : Heap) (locs1 : List Loc), E2 i = .inr (ci, fs.set k v) → (∀ j, j ≠ i → E2 j = E j) → Wd G A s.heap H1 locs1 ad E2 N → W p l e R s m args below meth c H1 locs1 cells slots Q (F0 m (pc + 3) ls rest)) : W p l e R s m args below meth c H locs cells slots Q (F0 m pc ls (v :: .ref (ad i) :: rest)) := by
  obtain ⟨hx, hb, hr, hml, hown, hts, hU, hst, hA, hlk⟩ := C
  refine va_putF hx hb hts hin ty0 hty hnm hown hU.1 hw.1 hw.2.1 hw.2.2 i (by rw [Wo_get hi, hE]) hc k hk (hts _ hl) (by rw [h1]; exact fun _ h => h) hfin hnam h2 (hty k hk) hn hfit hlen hdg (fun H1 locs1 g1 g2 g3 => ?_)
  rw [Wo_set hi] at g1 g2
  exact kk _ H1 locs1 (up_s _ _ _) (fun j hj => up_n _ _ hj) ⟨g1, g2, g3⟩
theorem r_iald (C : Cx p s m meth c args cc nL ret Ts own G tC A) (hw : Wd G A s.heap H locs ad E N) {i : Nat} (hi : i < N) {n : Nat} {f : Nat → Int32} (hE : E i = eI G n f) {x : Int32} (hin : vp_in x n) (hdg : decode cc pc = .ok (.iaload, 1))
    (kk : W p l e R s m args below meth c H locs cells slots Q (F0 m (pc + 1) ls (.int (f x.toNatClampNeg) :: rest))) : W p l e R s m args below meth c H locs cells slots Q (F0 m pc ls (.int x :: .ref (ad i) :: rest)) := by
  obtain ⟨hx, hb, hr, hml, hown, hts, hU, hst, hA, hlk⟩ := C
  exact va_iald hx hb hU.1 hw.1 i 0 (by rw [Wo_get hi, hE]) rfl hin hdg kk
/-- an index by its number -/
theorem r_iaN (C : Cx p s m meth c args cc nL ret Ts own G tC A) (hw : Wd G A s.heap H locs ad E N) {i : Nat} (hi : i < N) {n : Nat} {f : Nat → Int32} (hE : E i = eI G n f) {j : Nat} (hj : j < n) (hn : n < 2147483648) (hdg : decode cc pc = .ok (.iaload, 1))
    (kk : W p l e R s m args below meth c H locs cells slots Q (F0 m (pc + 1) ls (.int (f j) :: rest))) : W p l e R s m args below meth c H locs cells slots Q (F0 m pc ls (.int (nI j) :: .ref (ad i) :: rest)) := by
  refine r_iald C hw hi hE (vp_in_nI hj hn) hdg ?_
  rw [nI_clamp (Nat.lt_trans hj hn)]
  exact kk
theorem r_zaN (C : Cx p s m meth c args cc nL ret Ts own G tC A) (hw : Wd G A s.heap H locs ad E N) {i : Nat} (hi : i < N) {n : Nat} {f : Nat → Int32} (hE : E i = eZ G n f) {j : Nat} (hj : j < n) (hn : n < 2147483648) (hdg : decode cc pc = .ok (.baload, 1))
    (kk : W p l e R s m args below meth c H locs cells slots Q (F0 m (pc + 1) ls (.int (f j) :: rest))) : W p l e R s m args below meth c H locs cells slots Q (F0 m pc ls (.int (nI j) :: .ref (ad i) :: rest)) := by
  obtain ⟨hx, hb, hr, hml, hown, hts, hU, hst, hA, hlk⟩ := C
  refine va_zald hx hb hU.1 hw.1 i 2 (by rw [Wo_get hi, hE]) rfl (vp_in_nI hj hn) hdg ?_
  rw [nI_clamp (Nat.lt_trans hj hn)]
  exact kk
theorem r_laN (C : Cx p s m meth c args cc nL ret Ts own G tC A) (hw : Wd G A s.heap H locs ad E N) {i : Nat} (hi : i < N) {n : Nat} {f : Nat → Int64} (hE : E i = eJ G n f) {j : Nat} (hj : j < n) (hn : n < 2147483648) (hdg : decode cc pc = .ok (.laload, 1))
    (kk : W p l e R s m args below meth c H locs cells slots Q (F0 m (pc + 1) ls (.long (f j) :: rest))) : W p l e R s m args below meth c H locs cells slots Q (F0 m pc ls (.int (nI j) :: .ref (ad i) :: rest)) := by
  obtain ⟨hx, hb, hr, hml, hown, hts, hU, hst, hA, hlk⟩ := C
  refine va_lald hx hb hU.1 hw.1 i 1 (by rw [Wo_get hi, hE]) rfl (vp_in_nI hj hn) hdg ?_
  rw [nI_clamp (Nat.lt_trans hj hn)]
  exact kk
theorem r_raN (C : Cx p s m meth c args cc nL ret Ts own G tC A) (hw : Wd G A s.heap H locs ad E N) {i : Nat} (hi : i < N) {n : Nat} {f : Nat → Option Nat} (hE : E i = eR G n f) {j : Nat} (hj : j < n) (hn : n < 2147483648) {a : Nat} (hf : f j = some a) (hdg : decode cc pc = .ok (.aaload, 1))
    (kk : W p l e R s m args below meth c H locs cells slots Q (F0 m (pc + 1) ls (.ref a :: rest))) : W p l e R s m args below meth c H locs cells slots Q (F0 m pc ls (.int (nI j) :: .ref (ad i) :: rest)) := by
  obtain ⟨hx, hb, hr, hml, hown, hts, hU, hst, hA, hlk⟩ := C
  refine va_aldq hx hb hU.1 hw.1 i 3 (by rw [Wo_get hi, hE]) rfl (vp_in_nI hj hn) hdg ?_
  rw [nI_clamp (Nat.lt_trans hj hn), hf]
  exact kk
theorem r_iasN (C : Cx p s m meth c args cc nL ret Ts own G tC A) (hw : Wd G A s.heap H locs ad E N) {i : Nat} (hi : i < N) {n : Nat} {f : Nat → Int32} (hE : E i = eI G n f) {j : Nat} (hj : j < n) (hn : n < 2147483648) {v : Int32} (hdg : decode cc pc = .ok (.iastore, 1))
    (kk : ∀ (E2 : Nat → va_E) (H1 : Heap) (locs1 : List Loc), E2 i = eI G n (upd f j v) → (∀ j, j ≠ i → E2 j = E j) → Wd G A s.heap H1 locs1 ad E2 N → W p l e R s m args below meth c H1 locs1 cells slots Q (F0 m (pc + 1) ls rest)) : W p l e R s m args below meth c H locs cells slots Q (F0 m pc ls (.int v :: .int (nI j) :: .ref (ad i) :: rest)) := by
  obtain ⟨hx, hb, hr, hml, hown, hts, hU, hst, hA, hlk⟩ := C
  refine va_iast hx hb hU.1 hw.1 hw.2.1 hw.2.2 i 0 (by rw [Wo_get hi, hE]) rfl (vp_in_nI hj hn) hdg (fun H1 locs1 g1 g2 g3 => ?_)
  rw [Wo_set hi, nI_clamp (Nat.lt_trans hj hn)] at g1 g2
  exact kk _ H1 locs1 (up_s _ _ _) (fun j hj => up_n _ _ hj) ⟨g1, g2, g3⟩
theorem r_zasN (C : Cx p s m meth c args cc nL ret Ts own G tC A) (hw : Wd G A s.heap H locs ad E N) {i : Nat} (hi : i < N) {n : Nat} {f : Nat → Int32} (hE : E i = eZ G n f) {j : Nat} (hj : j < n) (hn : n < 2147483648) {v : Int32} (hdg : decode cc pc = .ok (.bastore, 1))
    (kk : ∀ (E2 : Nat → va_E) (H1 : Heap) (locs1 : List Loc), E2 i = eZ G n (upd f j (vp_nar .boolean v)) → (∀ j, j ≠ i → E2 j = E j) → Wd G A s.heap H1 locs1 ad E2 N → W p l e R s m args below meth c H1 locs1 cells slots Q (F0 m (pc + 1) ls rest)) : W p l e R s m args below meth c H locs cells slots Q (F0 m pc ls (.int v :: .int (nI j) :: .ref (ad i) :: rest)) := by
  obtain ⟨hx, hb, hr, hml, hown, hts, hU, hst, hA, hlk⟩ := C
  refine va_zast hx hb hU.1 hw.1 hw.2.1 hw.2.2 i 2 (by rw [Wo_get hi, hE]) rfl (vp_in_nI hj hn) hdg (fun H1 locs1 g1 g2 g3 => ?_)
  rw [Wo_set hi, nI_clamp (Nat.lt_trans hj hn)] at g1 g2
  exact kk _ H1 locs1 (up_s _ _ _) (fun j hj => up_n _ _ hj) ⟨g1, g2, g3⟩
theorem r_lasN (C : Cx p s m meth c args cc nL ret Ts own G tC A) (hw : Wd G A s.heap H locs ad E N) {i : Nat} (hi : i < N) {n : Nat} {f : Nat → Int64} (hE : E i = eJ G n f) {j : Nat} (hj : j < n) (hn : n < 2147483648) {v : Int64} (hdg : decode cc pc = .ok (.lastore, 1))
    (kk : ∀ (E2 : Nat → va_E) (H1 : Heap) (locs1 : List Loc), E2 i = eJ G n (vp_updL f j v) → (∀ j, j ≠ i → E2 j = E j) → Wd G A s.heap H1 locs1 ad E2 N → W p l e R s m args below meth c H1 locs1 cells slots Q (F0 m (pc + 1) ls rest)) : W p l e R s m args below meth c H locs cells slots Q (F0 m pc ls (.long v :: .int (nI j) :: .ref (ad i) :: rest)) := by
  obtain ⟨hx, hb, hr, hml, hown, hts, hU, hst, hA, hlk⟩ := C
  refine va_last hx hb hU.1 hw.1 hw.2.1 hw.2.2 i 1 (by rw [Wo_get hi, hE]) rfl (vp_in_nI hj hn) hdg (fun H1 locs1 g1 g2 g3 => ?_)
  rw [Wo_set hi, nI_clamp (Nat.lt_trans hj hn)] at g1 g2
  exact kk _ H1 locs1 (up_s _ _ _) (fun j hj => up_n _ _ hj) ⟨g1, g2, g3⟩
theorem r_alenI (C : Cx p s m meth c args cc nL ret Ts own G tC A) (hw : Wd G A s.heap H locs ad E N) {i : Nat} (hi : i < N) {n : Nat} {f : Nat → Int32} (hE : E i = eI G n f) (hdg : decode cc pc = .ok (.arraylength, 1))
    (kk : W p l e R s m args below meth c H locs cells slots Q (F0 m (pc + 1) ls (.int (nI n) :: rest))) : W p l e R s m args below meth c H locs cells slots Q (F0 m pc ls (.ref (ad i) :: rest)) := by
  obtain ⟨hx, hb, hr, hml, hown, hts, hU, hst, hA, hlk⟩ := C
  exact va_alen (x := (n, .inl f)) hx hb hU.1 hw.1 i 0 (by rw [Wo_get hi, hE]) rfl rfl hdg kk
/-- the table of codes -/
theorem r_codes (C : Cx p s m meth c args cc nL ret Ts own G tC A) (hw : Wd G A s.heap H locs ad E N) {index : Nat} (hl : Cond.fieldLink own index RX1 "CODES" "[I" ∈ Ts) (hdg : decode cc pc = .ok (.getstatic index, 3))
    (kk : W p l e R s m args below meth c H locs cells slots Q (F0 m (pc + 3) ls (.ref tC :: rest))) : W p l e R s m args below meth c H locs cells slots Q (F0 m pc ls rest) := by
  obtain ⟨hx, hb, hr, hml, hown, hts, hU, hst, hA, hlk⟩ := C
  exact va_gets hx hb hst.1 hw.2.2 hown (hts _ hl) (fun _ h => h) hdg kk
theorem r_codeN (C : Cx p s m meth c args cc nL ret Ts own G tC A) (hw : Wd G A s.heap H locs ad E N) {j : Nat} (hj : j < 16) (hdg : decode cc pc = .ok (.iaload, 1))
    (kk : W p l e R s m args below meth c H locs cells slots Q (F0 m (pc + 1) ls (.int (codeT j) :: rest))) : W p l e R s m args below meth c H locs cells slots Q (F0 m pc ls (.int (nI j) :: .ref tC :: rest)) := by
  obtain ⟨hx, hb, hr, hml, hown, hts, hU, hst, hA, hlk⟩ := C
  refine va_ti hx hb hst.2 hw.2.2 (vp_in_nI hj (by omega)) (v := .int (codeT j)) (by rw [nI_clamp (by omega)]) hdg kk
theorem r_codeL (C : Cx p s m meth c args cc nL ret Ts own G tC A) (hw : Wd G A s.heap H locs ad E N) (hdg : decode cc pc = .ok (.arraylength, 1))
    (kk : W p l e R s m args below meth c H locs cells slots Q (F0 m (pc + 1) ls (.int (nI 16) :: rest))) : W p l e R s m args below meth c H locs cells slots Q (F0 m pc ls (.ref tC :: rest)) := by
  obtain ⟨hx, hb, hr, hml, hown, hts, hU, hst, hA, hlk⟩ := C
  exact va_tlen hx hb hst.2 hw.2.2 rfl hdg kk
/-- an int on the stack by its number -/
theorem r_nat {x : Int32} (n : Nat) (h : x = nI n) (kk : W p l e R s m args below meth c H locs cells slots Q (F0 m pc ls (.int (nI n) :: rest))) : W p l e R s m args below meth c H locs cells slots Q (F0 m pc ls (.int x :: rest)) := by
  rw [h]; exact kk
theorem r_as {x : Int32} (y : Int32) (h : x = y) (kk : W p l e R s m args below meth c H locs cells slots Q (F0 m pc ls (.int y :: rest))) : W p l e R s m args below meth c H locs cells slots Q (F0 m pc ls (.int x :: rest)) := by
  rw [h]; exact kk
/-- ends -/
theorem r_iret (C : Cx p s m meth c args cc nL (some .int) Ts own G tC A) (hw : Wd G A s.heap H locs ad E N) {v : Int32} {post : Int32 → (Nat → va_E) → Prop} (hdg : decode cc pc = .ok (.ireturn, 1)) (hp : post v E) : W p l e R s m args below meth c H locs 0 0 (QI below args s G ad N A post) (F0 m pc ls [.int v]) := by
  obtain ⟨hx, hb, hr, hml, hown, hts, hU, hst, hA, hlk⟩ := C
  exact W.iret (v := v) hx hb hr (fun t ht hW => ⟨⟨v, E, rfl, hp, by rw [ht]; exact hw.1, hw.2.1⟩, hw.2.2.F ht⟩) hw.2.2.2.2 hdg hlk
theorem r_zret (C : Cx p s m meth c args cc nL (some .boolean) Ts own G tC A) (hw : Wd G A s.heap H locs ad E N) {v : Int32} {post : Int32 → (Nat → va_E) → Prop} (hdg : decode cc pc = .ok (.ireturn, 1)) (hn : v = 0 ∨ v = 1) (hp : post v E) : W p l e R s m args below meth c H locs 0 0 (QI below args s G ad N A post) (F0 m pc ls [.int v]) := by
  obtain ⟨hx, hb, hr, hml, hown, hts, hU, hst, hA, hlk⟩ := C
  exact W.zret (v := v) hx hb hr (by rcases hn with rfl | rfl <;> rfl) (fun t ht hW => ⟨⟨v, E, rfl, hp, by rw [ht]; exact hw.1, hw.2.1⟩, hw.2.2.F ht⟩) hw.2.2.2.2 hdg hlk
theorem r_vret (C : Cx p s m meth c args cc nL none Ts own G tC A) (hw : Wd G A s.heap H locs ad E N) {post : (Nat → va_E) → Prop} (hdg : decode cc pc = .ok (.return_, 1)) (hp : post E) : W p l e R s m args below meth c H locs 0 0 (QV below args s G ad N A post) (F0 m pc ls []) := by
  obtain ⟨hx, hb, hr, hml, hown, hts, hU, hst, hA, hlk⟩ := C
  exact W.vret hx hb hr (fun t ht hW => ⟨⟨E, rfl, hp, by rw [ht]; exact hw.1, hw.2.1⟩, hw.2.2.F ht⟩) hw.2.2.2.2 hdg hlk
/-- behind a call -/
theorem r_backI (C : Cx p s m meth c args cc nL ret Ts own G tC A) (hw : Wd G A s.heap H locs ad E N) {post : Int32 → (Nat → va_E) → Prop} {st0 : List Value} {a : Array Value}
    (hr : va_Run p l e R s m args below meth c H locs cells slots 0 0 (F0 m pc ls st0) rest (va_Qi post (fun E2 t => wO G ad E2 N (va_A (Wo ad E N) H.size) t) (va_A (Wo ad E N) H.size) a) (va_A (Wo ad E N) H.size))
    (kk : ∀ (r : Int32) (E2 : Nat → va_E) (H1 : Heap) (locs1 : List Loc), post r E2 → Wd G A s.heap H1 locs1 ad E2 N → W p l e R s m args below meth c H1 locs1 cells slots Q (F0 m (pc + 3) ls (.int r :: rest))) : W p l e R s m args below meth c H locs cells slots Q (F0 m pc ls st0) := by
  have hAB := wA.in hw.2.1 hw.2.2 C.2.2.2.2.2.2.2.2.1
  refine va_calli hr hw.2.2 (fun q _ h => hAB q h) hAB (fun r E2 t H1 locs1 ht hvm hp hB hz hk hS => ?_)
  exact kk r E2 H1 locs1 hp ⟨by rw [← ht]; exact hB.1, hB.2.weaken (fun _ q _ h => hAB q.1 h), hS⟩
theorem r_backV (C : Cx p s m meth c args cc nL ret Ts own G tC A) (hw : Wd G A s.heap H locs ad E N) {post : (Nat → va_E) → Prop} {st0 : List Value} {a : Array Value}
    (hr : va_Run p l e R s m args below meth c H locs cells slots 0 0 (F0 m pc ls st0) rest (va_Qv post (fun E2 t => wO G ad E2 N (va_A (Wo ad E N) H.size) t) (va_A (Wo ad E N) H.size) a) (va_A (Wo ad E N) H.size))
    (kk : ∀ (E2 : Nat → va_E) (H1 : Heap) (locs1 : List Loc), post E2 → Wd G A s.heap H1 locs1 ad E2 N → W p l e R s m args below meth c H1 locs1 cells slots Q (F0 m (pc + 3) ls rest)) : W p l e R s m args below meth c H locs cells slots Q (F0 m pc ls st0) := by
  have hAB := wA.in hw.2.1 hw.2.2 C.2.2.2.2.2.2.2.2.1
  refine va_callv hr hw.2.2 (fun q _ h => hAB q h) hAB (fun E2 t H1 locs1 ht hvm hp hB hz hk hS => ?_)
  exact kk E2 H1 locs1 hp ⟨by rw [← ht]; exact hB.1, hB.2.weaken (fun _ q _ h => hAB q.1 h), hS⟩
/-- calls: of a method of an object, of a static one, of a nest mate's static one -/
theorem r_vI (C : Cx p s m meth c args cc nL ret Ts own G tC A) (hw : Wd G A s.heap H locs ad E N) (hsz : ls.size = nL) {i : Nat} (hi : i < N) {ci : Nat} {fs : List Value} (hE : E i = .inr (ci, fs)) {Cn : String} {T : u_T} {n : Nat} (hc : vwCl[ci]? = some (Cn, T, n)) {y : MethodName} {ws ws' : List Cond} {rm : Room} {post : Int32 → (Nat → va_E) → Prop} (As : List Value) (nn : Nat) (hnn : As.length = nn) (hM : MI l y ws rm G tC ad N E (.ref (ad i) :: As) post) {index maxL : Nat} {bytes : ByteArray} {rt : Option FieldType} (hg : GoodIn Ts (wsV own index Cn y ws)) (hws : ws = .code y bytes maxL rt :: ws') (hrm : rm.cells = 0 ∧ rm.slots = 0)
    (hd : y.cls = Cn ∧ y.cls ≠ "java/lang/invoke/MethodHandle" ∧ y.cls ≠ "java/lang/invoke/VarHandle" ∧ (parseMethodDescriptor y.desc).map (fun d => d.parameters.length) = some nn) (hR : rm.frames + 1 ≤ R.frames ∧ 8 + (maxL + 11) + rm.locals ≤ R.locals) (hst : st = As.reverse ++ .ref (ad i) :: rest) (hrest : (rest.map fun v => v.category).sum ≤ 8) (hdg : decode cc pc = .ok (.invokevirtual index, 3)) (hf : cells ≤ R.cells ∧ slots ≤ R.slots)
    (kk : ∀ (r : Int32) (E2 : Nat → va_E) (H1 : Heap) (locs1 : List Loc), post r E2 → Wd G A s.heap H1 locs1 ad E2 N → W p l e R s m args below meth c H1 locs1 cells slots Q (F0 m (pc + 3) ls (.int r :: rest))) : W p l e R s m args below meth c H locs cells slots Q (F0 m pc ls st) := by
  have C' := C
  obtain ⟨hx, hb, hr, hml, hown, hts, hU, hstt, hA, hlk⟩ := C
  refine r_backI C' hw (va_runV (As := As) (rest := rest) ⟨hx, hb, hml, hown, hts⟩ (hM H.size) (cwV nn hts hg hws hrm.1 hrm.2 hd hR) ⟨wI.blind _, va_recv hU.1 hw.1 hc (by rw [Wo_get hi, hE]), fun U hH hW => ⟨rfl, wI.of hU hstt hA hw U hH hW⟩⟩ rfl hnn hsz hst (lv_room hrest) hdg hf) kk
theorem r_vV (C : Cx p s m meth c args cc nL ret Ts own G tC A) (hw : Wd G A s.heap H locs ad E N) (hsz : ls.size = nL) {i : Nat} (hi : i < N) {ci : Nat} {fs : List Value} (hE : E i = .inr (ci, fs)) {Cn : String} {T : u_T} {n : Nat} (hc : vwCl[ci]? = some (Cn, T, n)) {y : MethodName} {ws ws' : List Cond} {rm : Room} {post : (Nat → va_E) → Prop} (As : List Value) (nn : Nat) (hnn : As.length = nn) (hM : MV l y ws rm G tC ad N E (.ref (ad i) :: As) post) {index maxL : Nat} {bytes : ByteArray} {rt : Option FieldType} (hg : GoodIn Ts (wsV own index Cn y ws)) (hws : ws = .code y bytes maxL rt :: ws') (hrm : rm.cells = 0 ∧ rm.slots = 0)
    (hd : y.cls = Cn ∧ y.cls ≠ "java/lang/invoke/MethodHandle" ∧ y.cls ≠ "java/lang/invoke/VarHandle" ∧ (parseMethodDescriptor y.desc).map (fun d => d.parameters.length) = some nn) (hR : rm.frames + 1 ≤ R.frames ∧ 8 + (maxL + 11) + rm.locals ≤ R.locals) (hst : st = As.reverse ++ .ref (ad i) :: rest) (hrest : (rest.map fun v => v.category).sum ≤ 8) (hdg : decode cc pc = .ok (.invokevirtual index, 3)) (hf : cells ≤ R.cells ∧ slots ≤ R.slots)
    (kk : ∀ (E2 : Nat → va_E) (H1 : Heap) (locs1 : List Loc), post E2 → Wd G A s.heap H1 locs1 ad E2 N → W p l e R s m args below meth c H1 locs1 cells slots Q (F0 m (pc + 3) ls rest)) : W p l e R s m args below meth c H locs cells slots Q (F0 m pc ls st) := by
  have C' := C
  obtain ⟨hx, hb, hr, hml, hown, hts, hU, hstt, hA, hlk⟩ := C
  refine r_backV C' hw (va_runV (As := As) (rest := rest) ⟨hx, hb, hml, hown, hts⟩ (hM H.size) (cwV nn hts hg hws hrm.1 hrm.2 hd hR) ⟨wI.blind _, va_recv hU.1 hw.1 hc (by rw [Wo_get hi, hE]), fun U hH hW => ⟨rfl, wI.of hU hstt hA hw U hH hW⟩⟩ rfl hnn hsz hst (lv_room hrest) hdg hf) kk
theorem r_sI (C : Cx p s m meth c args cc nL ret Ts own G tC A) (hw : Wd G A s.heap H locs ad E N) (hsz : ls.size = nL) {y : MethodName} {ws ws' : List Cond} {rm : Room} {post : Int32 → (Nat → va_E) → Prop} (As : List Value) (nn : Nat) (hnn : As.length = nn) (hM : MI l y ws rm G tC ad N E As post) {index maxL : Nat} {bytes : ByteArray} {rt : Option FieldType} (hg : GoodIn Ts (va_wsS own index y ws)) (hws : ws = .code y bytes maxL rt :: ws') (hrm : rm.cells = 0 ∧ rm.slots = 0)
    (hd : y.cls ≠ "java/lang/invoke/MethodHandle" ∧ y.cls ≠ "java/lang/invoke/VarHandle" ∧ (parseMethodDescriptor y.desc).map (fun d => d.parameters.length) = some nn) (hR : rm.frames + 1 ≤ R.frames ∧ 8 + (maxL + 11) + rm.locals ≤ R.locals) (hst : st = As.reverse ++ rest) (hrest : (rest.map fun v => v.category).sum ≤ 8) (hdg : decode cc pc = .ok (.invokestatic index, 3)) (hf : cells ≤ R.cells ∧ slots ≤ R.slots)
    (kk : ∀ (r : Int32) (E2 : Nat → va_E) (H1 : Heap) (locs1 : List Loc), post r E2 → Wd G A s.heap H1 locs1 ad E2 N → W p l e R s m args below meth c H1 locs1 cells slots Q (F0 m (pc + 3) ls (.int r :: rest))) : W p l e R s m args below meth c H locs cells slots Q (F0 m pc ls st) := by
  have C' := C
  obtain ⟨hx, hb, hr, hml, hown, hts, hU, hstt, hA, hlk⟩ := C
  refine r_backI C' hw (va_runS (As := As) (rest := rest) ⟨hx, hb, hml, hown, hts⟩ (hM H.size) (va_cwS nn hts hg hws hrm.1 hrm.2 hd hR) ⟨wI.blind _, fun U hH hW => ⟨rfl, wI.of hU hstt hA hw U hH hW⟩⟩ rfl hnn hsz hst (lv_room hrest) hdg hf) kk
theorem r_sV (C : Cx p s m meth c args cc nL ret Ts own G tC A) (hw : Wd G A s.heap H locs ad E N) (hsz : ls.size = nL) {y : MethodName} {ws ws' : List Cond} {rm : Room} {post : (Nat → va_E) → Prop} (As : List Value) (nn : Nat) (hnn : As.length = nn) (hM : MV l y ws rm G tC ad N E As post) {index maxL : Nat} {bytes : ByteArray} {rt : Option FieldType} (hg : GoodIn Ts (va_wsS own index y ws)) (hws : ws = .code y bytes maxL rt :: ws') (hrm : rm.cells = 0 ∧ rm.slots = 0)
    (hd : y.cls ≠ "java/lang/invoke/MethodHandle" ∧ y.cls ≠ "java/lang/invoke/VarHandle" ∧ (parseMethodDescriptor y.desc).map (fun d => d.parameters.length) = some nn) (hR : rm.frames + 1 ≤ R.frames ∧ 8 + (maxL + 11) + rm.locals ≤ R.locals) (hst : st = As.reverse ++ rest) (hrest : (rest.map fun v => v.category).sum ≤ 8) (hdg : decode cc pc = .ok (.invokestatic index, 3)) (hf : cells ≤ R.cells ∧ slots ≤ R.slots)
    (kk : ∀ (E2 : Nat → va_E) (H1 : Heap) (locs1 : List Loc), post E2 → Wd G A s.heap H1 locs1 ad E2 N → W p l e R s m args below meth c H1 locs1 cells slots Q (F0 m (pc + 3) ls rest)) : W p l e R s m args below meth c H locs cells slots Q (F0 m pc ls st) := by
  have C' := C
  obtain ⟨hx, hb, hr, hml, hown, hts, hU, hstt, hA, hlk⟩ := C
  refine r_backV C' hw (va_runS (As := As) (rest := rest) ⟨hx, hb, hml, hown, hts⟩ (hM H.size) (va_cwS nn hts hg hws hrm.1 hrm.2 hd hR) ⟨wI.blind _, fun U hH hW => ⟨rfl, wI.of hU hstt hA hw U hH hW⟩⟩ rfl hnn hsz hst (lv_room hrest) hdg hf) kk
theorem r_nI (C : Cx p s m meth c args cc nL ret Ts own G tC A) (hw : Wd G A s.heap H locs ad E N) (hsz : ls.size = nL) {y : MethodName} {ws ws' : List Cond} {rm : Room} {post : Int32 → (Nat → va_E) → Prop} (As : List Value) (nn : Nat) (hnn : As.length = nn) (hM : MI l y ws rm G tC ad N E As post) {index maxL : Nat} {bytes : ByteArray} {rt : Option FieldType} {host : String} (hn : va_Nw (.methodLinkNest own index y host) s) (hg : GoodIn Ts ws) (hws : ws = .code y bytes maxL rt :: ws') (hrm : rm.cells = 0 ∧ rm.slots = 0) (hstat : Cond.static y ∈ Ts) (hini : Cond.initialized y.cls ∈ Ts)
    (hd : y.cls ≠ "java/lang/invoke/MethodHandle" ∧ y.cls ≠ "java/lang/invoke/VarHandle" ∧ (parseMethodDescriptor y.desc).map (fun d => d.parameters.length) = some nn) (hR : rm.frames + 1 ≤ R.frames ∧ 8 + (maxL + 11) + rm.locals ≤ R.locals) (hst : st = As.reverse ++ rest) (hrest : (rest.map fun v => v.category).sum ≤ 8) (hdg : decode cc pc = .ok (.invokestatic index, 3)) (hf : cells ≤ R.cells ∧ slots ≤ R.slots)
    (kk : ∀ (r : Int32) (E2 : Nat → va_E) (H1 : Heap) (locs1 : List Loc), post r E2 → Wd G A s.heap H1 locs1 ad E2 N → W p l e R s m args below meth c H1 locs1 cells slots Q (F0 m (pc + 3) ls (.int r :: rest))) : W p l e R s m args below meth c H locs cells slots Q (F0 m pc ls st) := by
  have C' := C
  obtain ⟨hx, hb, hr, hml, hown, hts, hU, hstt, hA, hlk⟩ := C
  refine r_backI C' hw (va_runSN (As := As) (rest := rest) ⟨hx, hb, hml, hown, hts⟩ (hM H.size) ⟨va_cnB nn hts hg hws hrm.1 hrm.2 hn (hts _ hini) hd hR, hts _ hstat, trivial⟩ ⟨wI.blind _, fun U hH hW => ⟨rfl, wI.of hU hstt hA hw U hH hW⟩⟩ rfl hnn hsz hst (lv_room hrest) hdg hf) kk
theorem n_icmp_eq (hexec : p.tables.exec = Jvm.exec) (hb : c.code = cc) {a b : Nat} {off : Int} {tgt : Nat} (hdg : decode cc pc = .ok (.if_icmp .eq off, 3)) (ht : (pc : Int) + off = (tgt : Int)) (ha : a < 2147483648) (hb2 : b < 2147483648)
    (kt : a = b → W p l e R s m args below meth c H locs cells slots Q (F0 m tgt ls rest)) (kf : ¬ a = b → W p l e R s m args below meth c H locs cells slots Q (F0 m (pc + 3) ls rest)) : W p l e R s m args below meth c H locs cells slots Q (F0 m pc ls (.int (nI b) :: .int (nI a) :: rest)) := by
  have e1 := nI_eq ha hb2
  have e2 := nI_ltI ha hb2
  have e3 := nI_leI ha hb2
  have e4 := nI_ltI hb2 ha
  have e5 := nI_leI hb2 ha
  refine lv_icmp_eq hexec hb hdg ht (fun h => kt ?_) (fun h => kf ?_)
  · exact e1.mp h
  · exact fun q => h (e1.mpr q)
theorem n_if_eq (hexec : p.tables.exec = Jvm.exec) (hb : c.code = cc) {a : Nat} {off : Int} {tgt : Nat} (hdg : decode cc pc = .ok (.ifCond .eq off, 3)) (ht : (pc : Int) + off = (tgt : Int)) (ha : a < 2147483648)
    (kt : a = 0 → W p l e R s m args below meth c H locs cells slots Q (F0 m tgt ls rest)) (kf : ¬ a = 0 → W p l e R s m args below meth c H locs cells slots Q (F0 m (pc + 3) ls rest)) : W p l e R s m args below meth c H locs cells slots Q (F0 m pc ls (.int (nI a) :: rest)) := by
  have e0 : (0 : Int32) = nI 0 := rfl
  have e1 : nI a = 0 ↔ a = 0 := by rw [e0]; exact nI_eq ha (by omega)
  have e2 : nI a < 0 ↔ a < 0 := by rw [e0]; exact nI_ltI ha (by omega)
  have e3 : nI a ≤ 0 ↔ a ≤ 0 := by rw [e0]; exact nI_leI ha (by omega)
  have e4 : 0 < nI a ↔ 0 < a := by rw [e0]; exact nI_ltI (by omega) ha
  have e5 : 0 ≤ nI a ↔ 0 ≤ a := by rw [e0]; exact nI_leI (by omega) ha
  refine lv_if_eq hexec hb hdg ht (fun h => kt ?_) (fun h => kf ?_)
  · exact e1.mp h
  · exact fun q => h (e1.mpr q)
theorem n_icmp_ne (hexec : p.tables.exec = Jvm.exec) (hb : c.code = cc) {a b : Nat} {off : Int} {tgt : Nat} (hdg : decode cc pc = .ok (.if_icmp .ne off, 3)) (ht : (pc : Int) + off = (tgt : Int)) (ha : a < 2147483648) (hb2 : b < 2147483648)
    (kt : ¬ a = b → W p l e R s m args below meth c H locs cells slots Q (F0 m tgt ls rest)) (kf : a = b → W p l e R s m args below meth c H locs cells slots Q (F0 m (pc + 3) ls rest)) : W p l e R s m args below meth c H locs cells slots Q (F0 m pc ls (.int (nI b) :: .int (nI a) :: rest)) := by
  have e1 := nI_eq ha hb2
  have e2 := nI_ltI ha hb2
  have e3 := nI_leI ha hb2
  have e4 := nI_ltI hb2 ha
  have e5 := nI_leI hb2 ha
  refine lv_icmp_ne hexec hb hdg ht (fun h => kt ?_) (fun h => kf ?_)
  · exact fun q => h (e1.mpr q)
  · first | exact e1.mp h | exact e1.mp (Classical.byContradiction h)
theorem n_if_ne (hexec : p.tables.exec = Jvm.exec) (hb : c.code = cc) {a : Nat} {off : Int} {tgt : Nat} (hdg : decode cc pc = .ok (.ifCond .ne off, 3)) (ht : (pc : Int) + off = (tgt : Int)) (ha : a < 2147483648)
    (kt : ¬ a = 0 → W p l e R s m args below meth c H locs cells slots Q (F0 m tgt ls rest)) (kf : a = 0 → W p l e R s m args below meth c H locs cells slots Q (F0 m (pc + 3) ls rest)) : W p l e R s m args below meth c H locs cells slots Q (F0 m pc ls (.int (nI a) :: rest)) := by
  have e0 : (0 : Int32) = nI 0 := rfl
  have e1 : nI a = 0 ↔ a = 0 := by rw [e0]; exact nI_eq ha (by omega)
  have e2 : nI a < 0 ↔ a < 0 := by rw [e0]; exact nI_ltI ha (by omega)
  have e3 : nI a ≤ 0 ↔ a ≤ 0 := by rw [e0]; exact nI_leI ha (by omega)
  have e4 : 0 < nI a ↔ 0 < a := by rw [e0]; exact nI_ltI (by omega) ha
  have e5 : 0 ≤ nI a ↔ 0 ≤ a := by rw [e0]; exact nI_leI (by omega) ha
  refine lv_if_ne hexec hb hdg ht (fun h => kt ?_) (fun h => kf ?_)
  · exact fun q => h (e1.mpr q)
  · first | exact e1.mp h | exact e1.mp (Classical.byContradiction h)
theorem n_icmp_lt (hexec : p.tables.exec = Jvm.exec) (hb : c.code = cc) {a b : Nat} {off : Int} {tgt : Nat} (hdg : decode cc pc = .ok (.if_icmp .lt off, 3)) (ht : (pc : Int) + off = (tgt : Int)) (ha : a < 2147483648) (hb2 : b < 2147483648)
    (kt : a < b → W p l e R s m args below meth c H locs cells slots Q (F0 m tgt ls rest)) (kf : b ≤ a → W p l e R s m args below meth c H locs cells slots Q (F0 m (pc + 3) ls rest)) : W p l e R s m args below meth c H locs cells slots Q (F0 m pc ls (.int (nI b) :: .int (nI a) :: rest)) := by
  have e1 := nI_eq ha hb2
  have e2 := nI_ltI ha hb2
  have e3 := nI_leI ha hb2
  have e4 := nI_ltI hb2 ha
  have e5 := nI_leI hb2 ha
  refine lv_icmp_lt hexec hb hdg ht (fun h => kt ?_) (fun h => kf ?_)
  all_goals first
    | exact e2.mp h
    | exact e3.mp h
    | exact e4.mp h
    | exact e5.mp h
    | exact Nat.not_lt.mp (fun q => h (e2.mpr q))
    | exact Nat.not_lt.mp (fun q => h (e4.mpr q))
    | exact Nat.not_le.mp (fun q => h (e3.mpr q))
    | exact Nat.not_le.mp (fun q => h (e5.mpr q))
theorem n_if_lt (hexec : p.tables.exec = Jvm.exec) (hb : c.code = cc) {a : Nat} {off : Int} {tgt : Nat} (hdg : decode cc pc = .ok (.ifCond .lt off, 3)) (ht : (pc : Int) + off = (tgt : Int)) (ha : a < 2147483648)
    (kt : False → W p l e R s m args below meth c H locs cells slots Q (F0 m tgt ls rest)) (kf : True → W p l e R s m args below meth c H locs cells slots Q (F0 m (pc + 3) ls rest)) : W p l e R s m args below meth c H locs cells slots Q (F0 m pc ls (.int (nI a) :: rest)) := by
  have e0 : (0 : Int32) = nI 0 := rfl
  have e1 : nI a = 0 ↔ a = 0 := by rw [e0]; exact nI_eq ha (by omega)
  have e2 : nI a < 0 ↔ a < 0 := by rw [e0]; exact nI_ltI ha (by omega)
  have e3 : nI a ≤ 0 ↔ a ≤ 0 := by rw [e0]; exact nI_leI ha (by omega)
  have e4 : 0 < nI a ↔ 0 < a := by rw [e0]; exact nI_ltI (by omega) ha
  have e5 : 0 ≤ nI a ↔ 0 ≤ a := by rw [e0]; exact nI_leI (by omega) ha
  refine lv_if_lt hexec hb hdg ht (fun h => kt ?_) (fun h => kf ?_)
  all_goals first
    | trivial
    | (rw [e2] at h; omega)
    | (rw [e3] at h; omega)
    | (rw [e4] at h; omega)
    | (rw [e5] at h; omega)
theorem n_icmp_ge (hexec : p.tables.exec = Jvm.exec) (hb : c.code = cc) {a b : Nat} {off : Int} {tgt : Nat} (hdg : decode cc pc = .ok (.if_icmp .ge off, 3)) (ht : (pc : Int) + off = (tgt : Int)) (ha : a < 2147483648) (hb2 : b < 2147483648)
    (kt : b ≤ a → W p l e R s m args below meth c H locs cells slots Q (F0 m tgt ls rest)) (kf : a < b → W p l e R s m args below meth c H locs cells slots Q (F0 m (pc + 3) ls rest)) : W p l e R s m args below meth c H locs cells slots Q (F0 m pc ls (.int (nI b) :: .int (nI a) :: rest)) := by
  have e1 := nI_eq ha hb2
  have e2 := nI_ltI ha hb2
  have e3 := nI_leI ha hb2
  have e4 := nI_ltI hb2 ha
  have e5 := nI_leI hb2 ha
  refine lv_icmp_ge hexec hb hdg ht (fun h => kt ?_) (fun h => kf ?_)
  all_goals first
    | exact e2.mp h
    | exact e3.mp h
    | exact e4.mp h
    | exact e5.mp h
    | exact Nat.not_lt.mp (fun q => h (e2.mpr q))
    | exact Nat.not_lt.mp (fun q => h (e4.mpr q))
    | exact Nat.not_le.mp (fun q => h (e3.mpr q))
    | exact Nat.not_le.mp (fun q => h (e5.mpr q))
theorem n_if_ge (hexec : p.tables.exec = Jvm.exec) (hb : c.code = cc) {a : Nat} {off : Int} {tgt : Nat} (hdg : decode cc pc = .ok (.ifCond .ge off, 3)) (ht : (pc : Int) + off = (tgt : Int)) (ha : a < 2147483648)
    (kt : True → W p l e R s m args below meth c H locs cells slots Q (F0 m tgt ls rest)) (kf : False → W p l e R s m args below meth c H locs cells slots Q (F0 m (pc + 3) ls rest)) : W p l e R s m args below meth c H locs cells slots Q (F0 m pc ls (.int (nI a) :: rest)) := by
  have e0 : (0 : Int32) = nI 0 := rfl
  have e1 : nI a = 0 ↔ a = 0 := by rw [e0]; exact nI_eq ha (by omega)
  have e2 : nI a < 0 ↔ a < 0 := by rw [e0]; exact nI_ltI ha (by omega)
  have e3 : nI a ≤ 0 ↔ a ≤ 0 := by rw [e0]; exact nI_leI ha (by omega)
  have e4 : 0 < nI a ↔ 0 < a := by rw [e0]; exact nI_ltI (by omega) ha
  have e5 : 0 ≤ nI a ↔ 0 ≤ a := by rw [e0]; exact nI_leI (by omega) ha
  refine lv_if_ge hexec hb hdg ht (fun h => kt ?_) (fun h => kf ?_)
  all_goals first
    | trivial
    | (rw [e2] at h; omega)
    | (rw [e3] at h; omega)
    | (rw [e4] at h; omega)
    | (rw [e5] at h; omega)
theorem n_icmp_gt (hexec : p.tables.exec = Jvm.exec) (hb : c.code = cc) {a b : Nat} {off : Int} {tgt : Nat} (hdg : decode cc pc = .ok (.if_icmp .gt off, 3)) (ht : (pc : Int) + off = (tgt : Int)) (ha : a < 2147483648) (hb2 : b < 2147483648)
    (kt : b < a → W p l e R s m args below meth c H locs cells slots Q (F0 m tgt ls rest)) (kf : a ≤ b → W p l e R s m args below meth c H locs cells slots Q (F0 m (pc + 3) ls rest)) : W p l e R s m args below meth c H locs cells slots Q (F0 m pc ls (.int (nI b) :: .int (nI a) :: rest)) := by
  have e1 := nI_eq ha hb2
  have e2 := nI_ltI ha hb2
  have e3 := nI_leI ha hb2
  have e4 := nI_ltI hb2 ha
  have e5 := nI_leI hb2 ha
  refine lv_icmp_gt hexec hb hdg ht (fun h => kt ?_) (fun h => kf ?_)
  all_goals first
    | exact e2.mp h
    | exact e3.mp h
    | exact e4.mp h
    | exact e5.mp h
    | exact Nat.not_lt.mp (fun q => h (e2.mpr q))
    | exact Nat.not_lt.mp (fun q => h (e4.mpr q))
    | exact Nat.not_le.mp (fun q => h (e3.mpr q))
    | exact Nat.not_le.mp (fun q => h (e5.mpr q))
theorem n_if_gt (hexec : p.tables.exec = Jvm.exec) (hb : c.code = cc) {a : Nat} {off : Int} {tgt : Nat} (hdg : decode cc pc = .ok (.ifCond .gt off, 3)) (ht : (pc : Int) + off = (tgt : Int)) (ha : a < 2147483648)
    (kt : 0 < a → W p l e R s m args below meth c H locs cells slots Q (F0 m tgt ls rest)) (kf : a = 0 → W p l e R s m args below meth c H locs cells slots Q (F0 m (pc + 3) ls rest)) : W p l e R s m args below meth c H locs cells slots Q (F0 m pc ls (.int (nI a) :: rest)) := by
  have e0 : (0 : Int32) = nI 0 := rfl
  have e1 : nI a = 0 ↔ a = 0 := by rw [e0]; exact nI_eq ha (by omega)
  have e2 : nI a < 0 ↔ a < 0 := by rw [e0]; exact nI_ltI ha (by omega)
  have e3 : nI a ≤ 0 ↔ a ≤ 0 := by rw [e0]; exact nI_leI ha (by omega)
  have e4 : 0 < nI a ↔ 0 < a := by rw [e0]; exact nI_ltI (by omega) ha
  have e5 : 0 ≤ nI a ↔ 0 ≤ a := by rw [e0]; exact nI_leI (by omega) ha
  refine lv_if_gt hexec hb hdg ht (fun h => kt ?_) (fun h => kf ?_)
  all_goals first
    | trivial
    | (rw [e2] at h; omega)
    | (rw [e3] at h; omega)
    | (rw [e4] at h; omega)
    | (rw [e5] at h; omega)
theorem n_icmp_le (hexec : p.tables.exec = Jvm.exec) (hb : c.code = cc) {a b : Nat} {off : Int} {tgt : Nat} (hdg : decode cc pc = .ok (.if_icmp .le off, 3)) (ht : (pc : Int) + off = (tgt : Int)) (ha : a < 2147483648) (hb2 : b < 2147483648)
    (kt : a ≤ b → W p l e R s m args below meth c H locs cells slots Q (F0 m tgt ls rest)) (kf : b < a → W p l e R s m args below meth c H locs cells slots Q (F0 m (pc + 3) ls rest)) : W p l e R s m args below meth c H locs cells slots Q (F0 m pc ls (.int (nI b) :: .int (nI a) :: rest)) := by
  have e1 := nI_eq ha hb2
  have e2 := nI_ltI ha hb2
  have e3 := nI_leI ha hb2
  have e4 := nI_ltI hb2 ha
  have e5 := nI_leI hb2 ha
  refine lv_icmp_le hexec hb hdg ht (fun h => kt ?_) (fun h => kf ?_)
  all_goals first
    | exact e2.mp h
    | exact e3.mp h
    | exact e4.mp h
    | exact e5.mp h
    | exact Nat.not_lt.mp (fun q => h (e2.mpr q))
    | exact Nat.not_lt.mp (fun q => h (e4.mpr q))
    | exact Nat.not_le.mp (fun q => h (e3.mpr q))
    | exact Nat.not_le.mp (fun q => h (e5.mpr q))
theorem n_if_le (hexec : p.tables.exec = Jvm.exec) (hb : c.code = cc) {a : Nat} {off : Int} {tgt : Nat} (hdg : decode cc pc = .ok (.ifCond .le off, 3)) (ht : (pc : Int) + off = (tgt : Int)) (ha : a < 2147483648)
    (kt : a = 0 → W p l e R s m args below meth c H locs cells slots Q (F0 m tgt ls rest)) (kf : 0 < a → W p l e R s m args below meth c H locs cells slots Q (F0 m (pc + 3) ls rest)) : W p l e R s m args below meth c H locs cells slots Q (F0 m pc ls (.int (nI a) :: rest)) := by
  have e0 : (0 : Int32) = nI 0 := rfl
  have e1 : nI a = 0 ↔ a = 0 := by rw [e0]; exact nI_eq ha (by omega)
  have e2 : nI a < 0 ↔ a < 0 := by rw [e0]; exact nI_ltI ha (by omega)
  have e3 : nI a ≤ 0 ↔ a ≤ 0 := by rw [e0]; exact nI_leI ha (by omega)
  have e4 : 0 < nI a ↔ 0 < a := by rw [e0]; exact nI_ltI (by omega) ha
  have e5 : 0 ≤ nI a ↔ 0 ≤ a := by rw [e0]; exact nI_leI (by omega) ha
  refine lv_if_le hexec hb hdg ht (fun h => kt ?_) (fun h => kf ?_)
  all_goals first
    | trivial
    | (rw [e2] at h; omega)
    | (rw [e3] at h; omega)
    | (rw [e4] at h; omega)
    | (rw [e5] at h; omega)
theorem r_asL {x : Int64} (y : Int64) (h : x = y) (kk : W p l e R s m args below meth c H locs cells slots Q (F0 m pc ls (.long y :: rest))) : W p l e R s m args below meth c H locs cells slots Q (F0 m pc ls (.long x :: rest)) := by
  rw [h]; exact kk
theorem b_if_eq (hexec : p.tables.exec = Jvm.exec) (hb : c.code = cc) {P : Prop} [hP : Decidable P] {off : Int} {tgt : Nat} (hdg : decode cc pc = .ok (.ifCond .eq off, 3)) (ht : (pc : Int) + off = (tgt : Int))
    (kt : ¬ P → W p l e R s m args below meth c H locs cells slots Q (F0 m tgt ls rest)) (kf : P → W p l e R s m args below meth c H locs cells slots Q (F0 m (pc + 3) ls rest)) : W p l e R s m args below meth c H locs cells slots Q (F0 m pc ls (.int (if P then 1 else 0) :: rest)) := by
  refine lv_if_eq hexec hb hdg ht (fun h => kt ?_) (fun h => kf ?_)
  · intro q; rw [if_pos q] at h; exact absurd h (by decide)
  · apply Classical.byContradiction; intro q; rw [if_neg q] at h; exact h rfl
theorem b_if_ne (hexec : p.tables.exec = Jvm.exec) (hb : c.code = cc) {P : Prop} [hP : Decidable P] {off : Int} {tgt : Nat} (hdg : decode cc pc = .ok (.ifCond .ne off, 3)) (ht : (pc : Int) + off = (tgt : Int))
    (kt : P → W p l e R s m args below meth c H locs cells slots Q (F0 m tgt ls rest)) (kf : ¬ P → W p l e R s m args below meth c H locs cells slots Q (F0 m (pc + 3) ls rest)) : W p l e R s m args below meth c H locs cells slots Q (F0 m pc ls (.int (if P then 1 else 0) :: rest)) := by
  refine lv_if_ne hexec hb hdg ht (fun h => kt ?_) (fun h => kf ?_)
  · apply Classical.byContradiction; intro q; rw [if_neg q] at h; exact h rfl
  · intro q; rw [if_pos q] at h; exact absurd h (by decide)
theorem r_copy (C : Cx p s m meth c args cc nL ret Ts own G tC A) (hw : Wd G A s.heap H locs ad E N) (hml : c.maxLocals = ls.size) {index : Nat} (hlink : Cond.methodLink own index arraycopyName ∈ Ts) (hnat : Cond.native arraycopyName ∈ Ts) (hstat : Cond.static arraycopyName ∈ Ts) (hini : Cond.initialized "java/lang/System" ∈ Ts)
    {i0 i1 : Nat} (h0 : i0 < N) (h1 : i1 < N) {n0 n1 : Nat} {f g : Nat → Int32} (hE0 : E i0 = eI G n0 f) (hE1 : E i1 = eI G n1 g) {sp dp n : Nat} (b1 : sp < 2147483648) (b2 : dp < 2147483648) (b3 : n < 2147483648) (b4 : sp + n ≤ n0) (b5 : dp + n ≤ n1)
    (hframes : 1 ≤ R.frames) (hlocals : (rest.map fun v => v.category).sum + (nativeFrameWords "java/lang/System" "arraycopy" 5 + 11) ≤ R.locals) (hdg : decode cc pc = .ok (.invokestatic index, 3))
    (kk : ∀ (E2 : Nat → va_E) (H1 : Heap) (locs1 : List Loc), E2 i1 = eI G n1 (va_cpy f g sp dp n) → (∀ j, j ≠ i1 → E2 j = E j) → Wd G A s.heap H1 locs1 ad E2 N → W p l e R s m args below meth c H1 locs1 cells slots Q (F0 m (pc + 3) ls rest)) : W p l e R s m args below meth c H locs cells slots Q (F0 m pc ls (.int (nI n) :: .int (nI dp) :: .ref (ad i1) :: .int (nI sp) :: .ref (ad i0) :: rest)) := by
  obtain ⟨hx, hb, hr, hml', hown, hts, hU, hst, hA, hlk⟩ := C
  refine va_copyi hx hb hml hown (hts _ hlink) (hts _ hnat) (hts _ hstat) (hts _ hini) hU.1 hw.1 hw.2.1 hw.2.2 i0 i1 0 0 (by rw [Wo_get h0, hE0]) (by rw [Wo_get h1, hE1]) rfl rfl rfl (nI_pos b1) (nI_pos b2) (nI_pos b3) (by rw [nI_clamp b1, nI_clamp b3]; exact b4) (by rw [nI_clamp b2, nI_clamp b3]; exact b5) (fun _ _ => rfl) hframes hlocals hdg (fun H1 locs1 g1 g2 g3 => ?_)
  rw [Wo_set h1, nI_clamp b1, nI_clamp b2, nI_clamp b3] at g1 g2
  exact kk _ H1 locs1 (up_s _ _ _) (fun j hj => up_n _ _ hj) ⟨g1, g2, g3⟩
end R10
theorem sw_cases (x lo hi : Int) : (x < lo ∨ hi < x) ∨ (lo ≤ x ∧ x ≤ hi) := by omega
/-- a method's contract from the walk of its body -/
theorem MI_of {l : Launch} {y : MethodName} {ws ws' : List Cond} {rm : Room} {G : vG} {tC : Nat} {ad : Nat → Nat} {N : Nat} {E : Nat → va_E} {av : List Value} {post : Int32 → (Nat → va_E) → Prop} {cc : ByteArray} {maxL : Nat} {ret : Option FieldType} (own : String) (ho : y.cls = own) (hy : plainName y.cls = true) (hw : ws = Cond.code y cc maxL ret :: ws') (hn : (lg_sl av).length ≤ maxL)
    (K : ∀ (p : Program) (e : Env) (s : State) (m : MethodId) (args : Array Value) (below : List Frame) (meth : Method) (c : Code) (A : Nat → Prop) (ls : Array Slot), Cx p s m meth c args cc maxL ret ws own G tC A → Wd G A s.heap s.heap [] ad E N → lv_has ls maxL (lv_args 0 av) → W p l e rm s m args below meth c s.heap [] 0 0 (QI below args s G ad N A post) (F0 m 0 ls [])) : MI l y ws rm G tC ad N E av post := by
  intro sz
  refine Met.ofW (cc := cc) (maxL := maxL) (ret := ret) hy hw ?_
  intro p e s m args below meth c s₁ B hml hv
  obtain ⟨rfl, hsz, hP, hD0, hU, hst⟩ := hv
  subst hsz
  have hl := lv_entry av (n := maxL) hn
  rw [lg_entry_eq]
  exact K p e s m _ below meth c _ _ ⟨B.exec, B.bytes, B.returns, hml, by rw [← ho]; exact findClass_of_methodNamed B.named, atoms_spec (ws := ws) B.pre, hU, hst, fun q h => Or.inr h, B.notSynchronized⟩ ⟨hP, hD0.self, va_S.rf⟩ hl
theorem MV_of {l : Launch} {y : MethodName} {ws ws' : List Cond} {rm : Room} {G : vG} {tC : Nat} {ad : Nat → Nat} {N : Nat} {E : Nat → va_E} {av : List Value} {post : (Nat → va_E) → Prop} {cc : ByteArray} {maxL : Nat} {ret : Option FieldType} (own : String) (ho : y.cls = own) (hy : plainName y.cls = true) (hw : ws = Cond.code y cc maxL ret :: ws') (hn : (lg_sl av).length ≤ maxL)
    (K : ∀ (p : Program) (e : Env) (s : State) (m : MethodId) (args : Array Value) (below : List Frame) (meth : Method) (c : Code) (A : Nat → Prop) (ls : Array Slot), Cx p s m meth c args cc maxL ret ws own G tC A → Wd G A s.heap s.heap [] ad E N → lv_has ls maxL (lv_args 0 av) → W p l e rm s m args below meth c s.heap [] 0 0 (QV below args s G ad N A post) (F0 m 0 ls [])) : MV l y ws rm G tC ad N E av post := by
  intro sz
  refine Met.ofW (cc := cc) (maxL := maxL) (ret := ret) hy hw ?_
  intro p e s m args below meth c s₁ B hml hv
  obtain ⟨rfl, hsz, hP, hD0, hU, hst⟩ := hv
  subst hsz
  have hl := lv_entry av (n := maxL) hn
  rw [lg_entry_eq]
  exact K p e s m _ below meth c _ _ ⟨B.exec, B.bytes, B.returns, hml, by rw [← ho]; exact findClass_of_methodNamed B.named, atoms_spec (ws := ws) B.pre, hU, hst, fun q h => Or.inr h, B.notSynchronized⟩ ⟨hP, hD0.self, va_S.rf⟩ hl
