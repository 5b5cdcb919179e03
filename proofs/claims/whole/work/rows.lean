section
-- ===== PART A: goes FIRST, ahead of the names: the tables' words, and 'selects' of the private methods out of them =====
/-- a private method of a class that the tables say can be made, by its rows of tables_1 -/
def lw_okq (q : MethodName × Nat) : Prop := (q.1.cls ≠ "java/lang/invoke/MethodHandle" ∧ q.1.cls ≠ "java/lang/invoke/VarHandle") ∧ Cond.instantiable q.1.cls q.2 ∈ tables_1 ∧ Cond.privateMethod q.1 ∈ tables_1 ∧ Cond.instanceMethod q.1 ∈ tables_1
theorem lw_p0 : lw_okq (⟨"PageRounds", "comes", "([I)Z"⟩, 9) := ⟨⟨by decide +kernel, by decide +kernel⟩, List.mem_of_getElem? (i := 15) (by decide +kernel), List.mem_of_getElem? (i := 198) (by decide +kernel), List.mem_of_getElem? (i := 199) (by decide +kernel)⟩
theorem lw_p1 : lw_okq (⟨"PageRounds$State", "longestAgo", "()I"⟩, 8) := ⟨⟨by decide +kernel, by decide +kernel⟩, List.mem_of_getElem? (i := 23) (by decide +kernel), List.mem_of_getElem? (i := 246) (by decide +kernel), List.mem_of_getElem? (i := 247) (by decide +kernel)⟩
theorem lw_p2 : lw_okq (⟨"PageRounds$State", "append", "(III)I"⟩, 8) := ⟨⟨by decide +kernel, by decide +kernel⟩, List.mem_of_getElem? (i := 23) (by decide +kernel), List.mem_of_getElem? (i := 254) (by decide +kernel), List.mem_of_getElem? (i := 255) (by decide +kernel)⟩
theorem lw_p3 : lw_okq (⟨"PageRounds$LetterBook", "isRight", "(LPageRounds$State;I)Z"⟩, 5) := ⟨⟨by decide +kernel, by decide +kernel⟩, List.mem_of_getElem? (i := 87) (by decide +kernel), List.mem_of_getElem? (i := 318) (by decide +kernel), List.mem_of_getElem? (i := 319) (by decide +kernel)⟩
theorem lw_p4 : lw_okq (⟨"PageRounds", "drawPacket", "()V"⟩, 9) := ⟨⟨by decide +kernel, by decide +kernel⟩, List.mem_of_getElem? (i := 15) (by decide +kernel), List.mem_of_getElem? (i := 411) (by decide +kernel), List.mem_of_getElem? (i := 412) (by decide +kernel)⟩
theorem lw_p5 : lw_okq (⟨"PageRounds$Rounds", "foremost", "(I)I"⟩, 7) := ⟨⟨by decide +kernel, by decide +kernel⟩, List.mem_of_getElem? (i := 111) (by decide +kernel), List.mem_of_getElem? (i := 450) (by decide +kernel), List.mem_of_getElem? (i := 451) (by decide +kernel)⟩
theorem lw_p6 : lw_okq (⟨"PageRounds$Rounds", "goesAhead", "(III)Z"⟩, 7) := ⟨⟨by decide +kernel, by decide +kernel⟩, List.mem_of_getElem? (i := 111) (by decide +kernel), List.mem_of_getElem? (i := 454) (by decide +kernel), List.mem_of_getElem? (i := 455) (by decide +kernel)⟩
theorem lw_p7 : lw_okq (⟨"PageRounds$Rounds", "urgency", "(I)I"⟩, 7) := ⟨⟨by decide +kernel, by decide +kernel⟩, List.mem_of_getElem? (i := 111) (by decide +kernel), List.mem_of_getElem? (i := 458) (by decide +kernel), List.mem_of_getElem? (i := 459) (by decide +kernel)⟩
theorem lw_p8 : lw_okq (⟨"PageRounds$Rounds", "cost", "(I)I"⟩, 7) := ⟨⟨by decide +kernel, by decide +kernel⟩, List.mem_of_getElem? (i := 111) (by decide +kernel), List.mem_of_getElem? (i := 462) (by decide +kernel), List.mem_of_getElem? (i := 463) (by decide +kernel)⟩
theorem lw_p9 : lw_okq (⟨"PageRounds$Rounds", "waitEnds", "(I)V"⟩, 7) := ⟨⟨by decide +kernel, by decide +kernel⟩, List.mem_of_getElem? (i := 111) (by decide +kernel), List.mem_of_getElem? (i := 466) (by decide +kernel), List.mem_of_getElem? (i := 467) (by decide +kernel)⟩
theorem lw_p10 : lw_okq (⟨"PageRounds$Rounds", "worstWait", "(II)I"⟩, 7) := ⟨⟨by decide +kernel, by decide +kernel⟩, List.mem_of_getElem? (i := 111) (by decide +kernel), List.mem_of_getElem? (i := 485) (by decide +kernel), List.mem_of_getElem? (i := 486) (by decide +kernel)⟩
theorem lw_p11 : lw_okq (⟨"PageRoundsModel", "comes", "()I"⟩, 17) := ⟨⟨by decide +kernel, by decide +kernel⟩, List.mem_of_getElem? (i := 521) (by decide +kernel), List.mem_of_getElem? (i := 610) (by decide +kernel), List.mem_of_getElem? (i := 611) (by decide +kernel)⟩
theorem lw_p12 : lw_okq (⟨"PageRoundsModel", "notes", "()V"⟩, 17) := ⟨⟨by decide +kernel, by decide +kernel⟩, List.mem_of_getElem? (i := 521) (by decide +kernel), List.mem_of_getElem? (i := 614) (by decide +kernel), List.mem_of_getElem? (i := 615) (by decide +kernel)⟩
theorem lw_p13 : lw_okq (⟨"PageRoundsModel", "takes", "()Z"⟩, 17) := ⟨⟨by decide +kernel, by decide +kernel⟩, List.mem_of_getElem? (i := 521) (by decide +kernel), List.mem_of_getElem? (i := 618) (by decide +kernel), List.mem_of_getElem? (i := 619) (by decide +kernel)⟩
theorem lw_p14 : lw_okq (⟨"PageRoundsModel", "mends", "(II)V"⟩, 17) := ⟨⟨by decide +kernel, by decide +kernel⟩, List.mem_of_getElem? (i := 521) (by decide +kernel), List.mem_of_getElem? (i := 622) (by decide +kernel), List.mem_of_getElem? (i := 623) (by decide +kernel)⟩
theorem lw_p15 : lw_okq (⟨"PageRoundsModel", "number", "(I)I"⟩, 17) := ⟨⟨by decide +kernel, by decide +kernel⟩, List.mem_of_getElem? (i := 521) (by decide +kernel), List.mem_of_getElem? (i := 630) (by decide +kernel), List.mem_of_getElem? (i := 631) (by decide +kernel)⟩
def lw_privs_1 : List (MethodName × Nat) := [(⟨"PageRounds", "comes", "([I)Z"⟩, 9), (⟨"PageRounds$State", "longestAgo", "()I"⟩, 8), (⟨"PageRounds$State", "append", "(III)I"⟩, 8), (⟨"PageRounds$LetterBook", "isRight", "(LPageRounds$State;I)Z"⟩, 5), (⟨"PageRounds", "drawPacket", "()V"⟩, 9), (⟨"PageRounds$Rounds", "foremost", "(I)I"⟩, 7), (⟨"PageRounds$Rounds", "goesAhead", "(III)Z"⟩, 7), (⟨"PageRounds$Rounds", "urgency", "(I)I"⟩, 7), (⟨"PageRounds$Rounds", "cost", "(I)I"⟩, 7), (⟨"PageRounds$Rounds", "waitEnds", "(I)V"⟩, 7), (⟨"PageRounds$Rounds", "worstWait", "(II)I"⟩, 7), (⟨"PageRoundsModel", "comes", "()I"⟩, 17), (⟨"PageRoundsModel", "notes", "()V"⟩, 17), (⟨"PageRoundsModel", "takes", "()Z"⟩, 17), (⟨"PageRoundsModel", "mends", "(II)V"⟩, 17), (⟨"PageRoundsModel", "number", "(I)I"⟩, 17)]
theorem lw_r1 : ∀ q ∈ lw_privs_1, lw_okq q := List.forall_mem_cons.mpr ⟨lw_p0, List.forall_mem_cons.mpr ⟨lw_p1, List.forall_mem_cons.mpr ⟨lw_p2, List.forall_mem_cons.mpr ⟨lw_p3, List.forall_mem_cons.mpr ⟨lw_p4, List.forall_mem_cons.mpr ⟨lw_p5, List.forall_mem_cons.mpr ⟨lw_p6, List.forall_mem_cons.mpr ⟨lw_p7, List.forall_mem_cons.mpr ⟨lw_p8, List.forall_mem_cons.mpr ⟨lw_p9, List.forall_mem_cons.mpr ⟨lw_p10, List.forall_mem_cons.mpr ⟨lw_p11, List.forall_mem_cons.mpr ⟨lw_p12, List.forall_mem_cons.mpr ⟨lw_p13, List.forall_mem_cons.mpr ⟨lw_p14, List.forall_mem_cons.mpr ⟨lw_p15, fun _ h => absurd h List.not_mem_nil⟩⟩⟩⟩⟩⟩⟩⟩⟩⟩⟩⟩⟩⟩⟩⟩
theorem lw_p16 : lw_okq (⟨"PageRoundsModel", "heads", "(I)Z"⟩, 17) := ⟨⟨by decide +kernel, by decide +kernel⟩, List.mem_of_getElem? (i := 521) (by decide +kernel), List.mem_of_getElem? (i := 636) (by decide +kernel), List.mem_of_getElem? (i := 637) (by decide +kernel)⟩
theorem lw_p17 : lw_okq (⟨"PageRoundsModel", "pageOf", "(III)I"⟩, 17) := ⟨⟨by decide +kernel, by decide +kernel⟩, List.mem_of_getElem? (i := 521) (by decide +kernel), List.mem_of_getElem? (i := 641) (by decide +kernel), List.mem_of_getElem? (i := 642) (by decide +kernel)⟩
theorem lw_p18 : lw_okq (⟨"PageRoundsModel", "of", "(II)I"⟩, 17) := ⟨⟨by decide +kernel, by decide +kernel⟩, List.mem_of_getElem? (i := 521) (by decide +kernel), List.mem_of_getElem? (i := 645) (by decide +kernel), List.mem_of_getElem? (i := 646) (by decide +kernel)⟩
theorem lw_p19 : lw_okq (⟨"PageRoundsModel", "newPage", "(III)I"⟩, 17) := ⟨⟨by decide +kernel, by decide +kernel⟩, List.mem_of_getElem? (i := 521) (by decide +kernel), List.mem_of_getElem? (i := 652) (by decide +kernel), List.mem_of_getElem? (i := 653) (by decide +kernel)⟩
theorem lw_p20 : lw_okq (⟨"PageRoundsModel", "oldest", "()I"⟩, 17) := ⟨⟨by decide +kernel, by decide +kernel⟩, List.mem_of_getElem? (i := 521) (by decide +kernel), List.mem_of_getElem? (i := 656) (by decide +kernel), List.mem_of_getElem? (i := 657) (by decide +kernel)⟩
theorem lw_p21 : lw_okq (⟨"PageRoundsModel", "goes", "(I)V"⟩, 17) := ⟨⟨by decide +kernel, by decide +kernel⟩, List.mem_of_getElem? (i := 521) (by decide +kernel), List.mem_of_getElem? (i := 660) (by decide +kernel), List.mem_of_getElem? (i := 661) (by decide +kernel)⟩
theorem lw_p22 : lw_okq (⟨"PageRoundsModel", "empties", "(I)V"⟩, 17) := ⟨⟨by decide +kernel, by decide +kernel⟩, List.mem_of_getElem? (i := 521) (by decide +kernel), List.mem_of_getElem? (i := 664) (by decide +kernel), List.mem_of_getElem? (i := 665) (by decide +kernel)⟩
theorem lw_p23 : lw_okq (⟨"PageRoundsModel", "links", "(I)V"⟩, 17) := ⟨⟨by decide +kernel, by decide +kernel⟩, List.mem_of_getElem? (i := 521) (by decide +kernel), List.mem_of_getElem? (i := 668) (by decide +kernel), List.mem_of_getElem? (i := 669) (by decide +kernel)⟩
theorem lw_p24 : lw_okq (⟨"PageRoundsModel", "rows", "(II)V"⟩, 17) := ⟨⟨by decide +kernel, by decide +kernel⟩, List.mem_of_getElem? (i := 521) (by decide +kernel), List.mem_of_getElem? (i := 672) (by decide +kernel), List.mem_of_getElem? (i := 673) (by decide +kernel)⟩
theorem lw_p25 : lw_okq (⟨"PageRoundsModel", "wrong", "()I"⟩, 17) := ⟨⟨by decide +kernel, by decide +kernel⟩, List.mem_of_getElem? (i := 521) (by decide +kernel), List.mem_of_getElem? (i := 691) (by decide +kernel), List.mem_of_getElem? (i := 692) (by decide +kernel)⟩
theorem lw_p26 : lw_okq (⟨"PageRoundsModel", "isPage", "(I)Z"⟩, 17) := ⟨⟨by decide +kernel, by decide +kernel⟩, List.mem_of_getElem? (i := 521) (by decide +kernel), List.mem_of_getElem? (i := 695) (by decide +kernel), List.mem_of_getElem? (i := 696) (by decide +kernel)⟩
theorem lw_p27 : lw_okq (⟨"PageRoundsModel", "lengthOf", "(I)I"⟩, 17) := ⟨⟨by decide +kernel, by decide +kernel⟩, List.mem_of_getElem? (i := 521) (by decide +kernel), List.mem_of_getElem? (i := 709) (by decide +kernel), List.mem_of_getElem? (i := 710) (by decide +kernel)⟩
theorem lw_p28 : lw_okq (⟨"PageRoundsModel", "hasLinks", "(I)Z"⟩, 17) := ⟨⟨by decide +kernel, by decide +kernel⟩, List.mem_of_getElem? (i := 521) (by decide +kernel), List.mem_of_getElem? (i := 713) (by decide +kernel), List.mem_of_getElem? (i := 714) (by decide +kernel)⟩
theorem lw_p29 : lw_okq (⟨"PageRoundsModel", "lacks", "(I)I"⟩, 17) := ⟨⟨by decide +kernel, by decide +kernel⟩, List.mem_of_getElem? (i := 521) (by decide +kernel), List.mem_of_getElem? (i := 717) (by decide +kernel), List.mem_of_getElem? (i := 718) (by decide +kernel)⟩
theorem lw_p30 : lw_okq (⟨"PageRoundsModel", "sure", "(I)I"⟩, 17) := ⟨⟨by decide +kernel, by decide +kernel⟩, List.mem_of_getElem? (i := 521) (by decide +kernel), List.mem_of_getElem? (i := 721) (by decide +kernel), List.mem_of_getElem? (i := 722) (by decide +kernel)⟩
theorem lw_p31 : lw_okq (⟨"PageRoundsModel", "linked", "(I)I"⟩, 17) := ⟨⟨by decide +kernel, by decide +kernel⟩, List.mem_of_getElem? (i := 521) (by decide +kernel), List.mem_of_getElem? (i := 726) (by decide +kernel), List.mem_of_getElem? (i := 727) (by decide +kernel)⟩
def lw_privs_2 : List (MethodName × Nat) := [(⟨"PageRoundsModel", "heads", "(I)Z"⟩, 17), (⟨"PageRoundsModel", "pageOf", "(III)I"⟩, 17), (⟨"PageRoundsModel", "of", "(II)I"⟩, 17), (⟨"PageRoundsModel", "newPage", "(III)I"⟩, 17), (⟨"PageRoundsModel", "oldest", "()I"⟩, 17), (⟨"PageRoundsModel", "goes", "(I)V"⟩, 17), (⟨"PageRoundsModel", "empties", "(I)V"⟩, 17), (⟨"PageRoundsModel", "links", "(I)V"⟩, 17), (⟨"PageRoundsModel", "rows", "(II)V"⟩, 17), (⟨"PageRoundsModel", "wrong", "()I"⟩, 17), (⟨"PageRoundsModel", "isPage", "(I)Z"⟩, 17), (⟨"PageRoundsModel", "lengthOf", "(I)I"⟩, 17), (⟨"PageRoundsModel", "hasLinks", "(I)Z"⟩, 17), (⟨"PageRoundsModel", "lacks", "(I)I"⟩, 17), (⟨"PageRoundsModel", "sure", "(I)I"⟩, 17), (⟨"PageRoundsModel", "linked", "(I)I"⟩, 17)]
theorem lw_r2 : ∀ q ∈ lw_privs_2, lw_okq q := List.forall_mem_cons.mpr ⟨lw_p16, List.forall_mem_cons.mpr ⟨lw_p17, List.forall_mem_cons.mpr ⟨lw_p18, List.forall_mem_cons.mpr ⟨lw_p19, List.forall_mem_cons.mpr ⟨lw_p20, List.forall_mem_cons.mpr ⟨lw_p21, List.forall_mem_cons.mpr ⟨lw_p22, List.forall_mem_cons.mpr ⟨lw_p23, List.forall_mem_cons.mpr ⟨lw_p24, List.forall_mem_cons.mpr ⟨lw_p25, List.forall_mem_cons.mpr ⟨lw_p26, List.forall_mem_cons.mpr ⟨lw_p27, List.forall_mem_cons.mpr ⟨lw_p28, List.forall_mem_cons.mpr ⟨lw_p29, List.forall_mem_cons.mpr ⟨lw_p30, List.forall_mem_cons.mpr ⟨lw_p31, fun _ h => absurd h List.not_mem_nil⟩⟩⟩⟩⟩⟩⟩⟩⟩⟩⟩⟩⟩⟩⟩⟩
theorem lw_p32 : lw_okq (⟨"PageRoundsModel", "drifts", "()V"⟩, 17) := ⟨⟨by decide +kernel, by decide +kernel⟩, List.mem_of_getElem? (i := 521) (by decide +kernel), List.mem_of_getElem? (i := 759) (by decide +kernel), List.mem_of_getElem? (i := 760) (by decide +kernel)⟩
theorem lw_p33 : lw_okq (⟨"PageRoundsModel", "draw", "(I)I"⟩, 17) := ⟨⟨by decide +kernel, by decide +kernel⟩, List.mem_of_getElem? (i := 521) (by decide +kernel), List.mem_of_getElem? (i := 763) (by decide +kernel), List.mem_of_getElem? (i := 764) (by decide +kernel)⟩
theorem lw_p34 : lw_okq (⟨"PageRoundsModel", "sends", "(II)V"⟩, 17) := ⟨⟨by decide +kernel, by decide +kernel⟩, List.mem_of_getElem? (i := 521) (by decide +kernel), List.mem_of_getElem? (i := 781) (by decide +kernel), List.mem_of_getElem? (i := 782) (by decide +kernel)⟩
theorem lw_p35 : lw_okq (⟨"PageRoundsModel", "isBetter", "(IIII)Z"⟩, 17) := ⟨⟨by decide +kernel, by decide +kernel⟩, List.mem_of_getElem? (i := 521) (by decide +kernel), List.mem_of_getElem? (i := 785) (by decide +kernel), List.mem_of_getElem? (i := 786) (by decide +kernel)⟩
theorem lw_p36 : lw_okq (⟨"PageRoundsModel", "waited", "(II)V"⟩, 17) := ⟨⟨by decide +kernel, by decide +kernel⟩, List.mem_of_getElem? (i := 521) (by decide +kernel), List.mem_of_getElem? (i := 789) (by decide +kernel), List.mem_of_getElem? (i := 790) (by decide +kernel)⟩
theorem lw_p37 : lw_okq (⟨"PageRoundsModel", "worstBy", "(II)I"⟩, 17) := ⟨⟨by decide +kernel, by decide +kernel⟩, List.mem_of_getElem? (i := 521) (by decide +kernel), List.mem_of_getElem? (i := 802) (by decide +kernel), List.mem_of_getElem? (i := 803) (by decide +kernel)⟩
def lw_privs_3 : List (MethodName × Nat) := [(⟨"PageRoundsModel", "drifts", "()V"⟩, 17), (⟨"PageRoundsModel", "draw", "(I)I"⟩, 17), (⟨"PageRoundsModel", "sends", "(II)V"⟩, 17), (⟨"PageRoundsModel", "isBetter", "(IIII)Z"⟩, 17), (⟨"PageRoundsModel", "waited", "(II)V"⟩, 17), (⟨"PageRoundsModel", "worstBy", "(II)I"⟩, 17)]
theorem lw_r3 : ∀ q ∈ lw_privs_3, lw_okq q := List.forall_mem_cons.mpr ⟨lw_p32, List.forall_mem_cons.mpr ⟨lw_p33, List.forall_mem_cons.mpr ⟨lw_p34, List.forall_mem_cons.mpr ⟨lw_p35, List.forall_mem_cons.mpr ⟨lw_p36, List.forall_mem_cons.mpr ⟨lw_p37, fun _ h => absurd h List.not_mem_nil⟩⟩⟩⟩⟩⟩
def lw_privs : List (MethodName × Nat) := lw_privs_1 ++ (lw_privs_2 ++ (lw_privs_3))
def lw_tbl : List Cond := k2_sels lw_privs ++ tables_1
theorem lw_privs_ok : ∀ q ∈ lw_privs, lw_okq q := by
  show ∀ q ∈ lw_privs_1 ++ (lw_privs_2 ++ (lw_privs_3)), lw_okq q
  exact List.forall_mem_append.mpr ⟨lw_r1, List.forall_mem_append.mpr ⟨lw_r2, lw_r3⟩⟩
-- ===== end of PART A; then your names; then what follows =====
/-! ===== BEGIN words of one list among another's, by their places ===== -/
theorem goodIn_r {big : List Cond} (ws : List Cond) (ps : List Nat) (hp : ws = ps.filterMap (fun i => big[i]?)) (h : ws.all goodWord = true) : GoodIn big ws := by
  intro w hw
  have h1 := List.all_eq_true.mp h w hw
  rw [hp] at hw
  obtain ⟨i, -, hi⟩ := List.mem_filterMap.mp hw
  have hm : w ∈ big := by first | exact List.mem_of_getElem? hi | exact List.getElem?_mem hi
  exact ⟨hm, good_of_word h1⟩
theorem goodIn_app {big a b : List Cond} (ha : GoodIn big a) (hb : GoodIn big b) : GoodIn big (a ++ b) := fun w h => (List.mem_append.mp h).elim (ha w) (hb w)
theorem goodIn_ca {big a b : List Cond} {c : Cond} (ha : GoodIn big (c :: a)) (hb : GoodIn big b) : GoodIn big (c :: (a ++ b)) := fun w h => (List.mem_cons.mp h).elim (fun e => ha w (List.mem_cons.mpr (Or.inl e))) (fun h => (List.mem_append.mp h).elim (fun h => ha w (List.mem_cons.mpr (Or.inr h))) (hb w))
theorem goodIn_sub {big ws : List Cond} (hm : ∀ w ∈ ws, w ∈ big) (h : ws.all goodWord = true) : GoodIn big ws := fun w hw => ⟨hm w hw, good_of_word (List.all_eq_true.mp h w hw)⟩
/-! ===== END ===== -/

/-! ===== BEGIN printed: names, fields, word lists, decode rows ===== -/
def RX0 : String := "PageRounds$Asked"
def TX0 : u_T := fun k => match k with
  | _ => ("", "", "", false)
def tyX0 : Nat → FieldType := fun k => match k with
  | _ => .int
abbrev wsX00 : List Cond := u_ws RX0 TX0 0
theorem nmX0 : ∀ a, a < 0 → ∀ b, b < 0 → a ≠ b → (TX0 a).2.1 ≠ (TX0 b).2.1 := by decide +kernel
theorem tyX0_ok : ∀ k, k < 0 → parseFieldDescriptor (TX0 k).2.2.1 = some (tyX0 k) := by decide +kernel
abbrev cX0_length : ByteArray := prog_2_method_2_code
def yX0_length : MethodName := ⟨RX0, "length", "(LPageRounds$State;I)I"⟩
abbrev cX0_lacks : ByteArray := prog_2_method_3_code
def yX0_lacks : MethodName := ⟨RX0, "lacks", "(LPageRounds$State;I)I"⟩
abbrev cX0_sureOnes : ByteArray := prog_2_method_4_code
def yX0_sureOnes : MethodName := ⟨RX0, "sureOnes", "(LPageRounds$State;I)I"⟩
abbrev cX0_linked : ByteArray := prog_2_method_5_code
def yX0_linked : MethodName := ⟨RX0, "linked", "(LPageRounds$State;I)I"⟩
abbrev cX0_steps : ByteArray := prog_2_method_6_code
def yX0_steps : MethodName := ⟨RX0, "steps", "(LPageRounds$State;II)I"⟩
abbrev cX0_linkedFromAny : ByteArray := prog_2_method_7_code
def yX0_linkedFromAny : MethodName := ⟨RX0, "linkedFromAny", "(LPageRounds$State;I)I"⟩
abbrev cX0_leadsTo : ByteArray := prog_2_method_8_code
def yX0_leadsTo : MethodName := ⟨RX0, "leadsTo", "(LPageRounds$State;II)Z"⟩
abbrev cX0_hasLetters : ByteArray := prog_2_method_9_code
def yX0_hasLetters : MethodName := ⟨RX0, "hasLetters", "(LPageRounds$State;II)Z"⟩
abbrev cX0_hasLinks : ByteArray := prog_2_method_10_code
def yX0_hasLinks : MethodName := ⟨RX0, "hasLinks", "(LPageRounds$State;I)Z"⟩
def RX1 : String := "PageRounds$Guard"
def TX1 : u_T := fun k => match k with
  | _ => ("", "", "", false)
def tyX1 : Nat → FieldType := fun k => match k with
  | _ => .int
abbrev wsX10 : List Cond := u_ws RX1 TX1 0
theorem nmX1 : ∀ a, a < 0 → ∀ b, b < 0 → a ≠ b → (TX1 a).2.1 ≠ (TX1 b).2.1 := by decide +kernel
theorem tyX1_ok : ∀ k, k < 0 → parseFieldDescriptor (TX1 k).2.2.1 = some (tyX1 k) := by decide +kernel
abbrev cX1_encode : ByteArray := prog_3_method_2_code
def yX1_encode : MethodName := ⟨RX1, "encode", "(I)I"⟩
abbrev cX1_decode : ByteArray := prog_3_method_3_code
def yX1_decode : MethodName := ⟨RX1, "decode", "(I)I"⟩
abbrev cX1_isWell : ByteArray := prog_3_method_4_code
def yX1_isWell : MethodName := ⟨RX1, "isWell", "(I)Z"⟩
abbrev cX1_oddOctet : ByteArray := prog_3_method_5_code
def yX1_oddOctet : MethodName := ⟨RX1, "oddOctet", "(I)I"⟩
def RX2 : String := "PageRounds$LetterBook"
def TX2 : u_T := fun k => match k with
  | 0 => ("PageRounds$LetterBook", "pages", "[I", true)
  | 1 => ("PageRounds$LetterBook", "rows", "[I", true)
  | 2 => ("PageRounds$LetterBook", "places", "[I", true)
  | 3 => ("PageRounds$LetterBook", "letters", "[I", true)
  | _ => ("PageRounds$LetterBook", "entries", "I", false)
def tyX2 : Nat → FieldType := fun k => match k with
  | 0 => .array .int
  | 1 => .array .int
  | 2 => .array .int
  | 3 => .array .int
  | _ => .int
abbrev wsX20 : List Cond := u_ws RX2 TX2 5
theorem nmX2 : ∀ a, a < 5 → ∀ b, b < 5 → a ≠ b → (TX2 a).2.1 ≠ (TX2 b).2.1 := by decide +kernel
theorem tyX2_ok : ∀ k, k < 5 → parseFieldDescriptor (TX2 k).2.2.1 = some (tyX2 k) := by decide +kernel
abbrev cX2_init : ByteArray := prog_4_method_1_code
def yX2_init : MethodName := ⟨RX2, "<init>", "()V"⟩
abbrev cX2_add : ByteArray := prog_4_method_2_code
def yX2_add : MethodName := ⟨RX2, "add", "(IIII)Z"⟩
abbrev cX2_firstWrong : ByteArray := prog_4_method_3_code
def yX2_firstWrong : MethodName := ⟨RX2, "firstWrong", "(LPageRounds$State;)I"⟩
abbrev cX2_isRight : ByteArray := prog_4_method_4_code
def yX2_isRight : MethodName := ⟨RX2, "isRight", "(LPageRounds$State;I)Z"⟩
def RX3 : String := "PageRounds$Receiver"
def TX3 : u_T := fun k => match k with
  | _ => ("", "", "", false)
def tyX3 : Nat → FieldType := fun k => match k with
  | _ => .int
abbrev wsX30 : List Cond := u_ws RX3 TX3 0
theorem nmX3 : ∀ a, a < 0 → ∀ b, b < 0 → a ≠ b → (TX3 a).2.1 ≠ (TX3 b).2.1 := by decide +kernel
theorem tyX3_ok : ∀ k, k < 0 → parseFieldDescriptor (TX3 k).2.2.1 = some (tyX3 k) := by decide +kernel
abbrev cX3_take : ByteArray := prog_5_method_2_code
def yX3_take : MethodName := ⟨RX3, "take", "(LPageRounds$State;[I)Z"⟩
abbrev cX3_takeHead : ByteArray := prog_5_method_3_code
def yX3_takeHead : MethodName := ⟨RX3, "takeHead", "(LPageRounds$State;I[I)Z"⟩
abbrev cX3_takeLinks : ByteArray := prog_5_method_4_code
def yX3_takeLinks : MethodName := ⟨RX3, "takeLinks", "(LPageRounds$State;I[I)Z"⟩
abbrev cX3_takeRow : ByteArray := prog_5_method_5_code
def yX3_takeRow : MethodName := ⟨RX3, "takeRow", "(LPageRounds$State;II[I)Z"⟩
abbrev cX3_numberAt : ByteArray := prog_5_method_6_code
def yX3_numberAt : MethodName := ⟨RX3, "numberAt", "([II)I"⟩
def RX4 : String := "PageRounds$Rounds"
def TX4 : u_T := fun k => match k with
  | 0 => ("PageRounds$Rounds", "lengths", "[I", true)
  | 1 => ("PageRounds$Rounds", "weights", "[I", true)
  | 2 => ("PageRounds$Rounds", "times", "[I", true)
  | 3 => ("PageRounds$Rounds", "ends", "[I", true)
  | 4 => ("PageRounds$Rounds", "waited", "[I", true)
  | 5 => ("PageRounds$Rounds", "pages", "I", false)
  | _ => ("PageRounds$Rounds", "time", "I", false)
def tyX4 : Nat → FieldType := fun k => match k with
  | 0 => .array .int
  | 1 => .array .int
  | 2 => .array .int
  | 3 => .array .int
  | 4 => .array .int
  | 5 => .int
  | _ => .int
abbrev wsX40 : List Cond := u_ws RX4 TX4 7
theorem nmX4 : ∀ a, a < 7 → ∀ b, b < 7 → a ≠ b → (TX4 a).2.1 ≠ (TX4 b).2.1 := by decide +kernel
theorem tyX4_ok : ∀ k, k < 7 → parseFieldDescriptor (TX4 k).2.2.1 = some (tyX4 k) := by decide +kernel
abbrev cX4_init : ByteArray := prog_6_method_1_code
def yX4_init : MethodName := ⟨RX4, "<init>", "()V"⟩
abbrev cX4_prepare : ByteArray := prog_6_method_2_code
def yX4_prepare : MethodName := ⟨RX4, "prepare", "(LPageRounds$State;)V"⟩
abbrev cX4_run : ByteArray := prog_6_method_3_code
def yX4_run : MethodName := ⟨RX4, "run", "(II)I"⟩
abbrev cX4_best : ByteArray := prog_6_method_4_code
def yX4_best : MethodName := ⟨RX4, "best", "(I)I"⟩
abbrev cX4_worstWait : ByteArray := prog_6_method_5_code
def yX4_worstWait : MethodName := ⟨RX4, "worstWait", "(II)I"⟩
abbrev cX4_waitEnds : ByteArray := prog_6_method_6_code
def yX4_waitEnds : MethodName := ⟨RX4, "waitEnds", "(I)V"⟩
abbrev cX4_foremost : ByteArray := prog_6_method_7_code
def yX4_foremost : MethodName := ⟨RX4, "foremost", "(I)I"⟩
abbrev cX4_goesAhead : ByteArray := prog_6_method_8_code
def yX4_goesAhead : MethodName := ⟨RX4, "goesAhead", "(III)Z"⟩
abbrev cX4_urgency : ByteArray := prog_6_method_9_code
def yX4_urgency : MethodName := ⟨RX4, "urgency", "(I)I"⟩
abbrev cX4_cost : ByteArray := prog_6_method_10_code
def yX4_cost : MethodName := ⟨RX4, "cost", "(I)I"⟩
def RX5 : String := "PageRounds$State"
def TX5 : u_T := fun k => match k with
  | 0 => ("PageRounds$State", "cells", "[I", true)
  | 1 => ("PageRounds$State", "open", "[I", true)
  | 2 => ("PageRounds$State", "pages", "I", false)
  | 3 => ("PageRounds$State", "came", "I", false)
  | 4 => ("PageRounds$State", "lost", "I", false)
  | 5 => ("PageRounds$State", "mended", "I", false)
  | 6 => ("PageRounds$State", "seed", "I", false)
  | _ => ("PageRounds$State", "headsTaken", "I", false)
def tyX5 : Nat → FieldType := fun k => match k with
  | 0 => .array .int
  | 1 => .array .int
  | 2 => .int
  | 3 => .int
  | 4 => .int
  | 5 => .int
  | 6 => .int
  | _ => .int
abbrev wsX50 : List Cond := u_ws RX5 TX5 8
theorem nmX5 : ∀ a, a < 8 → ∀ b, b < 8 → a ≠ b → (TX5 a).2.1 ≠ (TX5 b).2.1 := by decide +kernel
theorem tyX5_ok : ∀ k, k < 8 → parseFieldDescriptor (TX5 k).2.2.1 = some (tyX5 k) := by decide +kernel
abbrev cX5_init : ByteArray := prog_7_method_1_code
def yX5_init : MethodName := ⟨RX5, "<init>", "()V"⟩
abbrev cX5_become : ByteArray := prog_7_method_2_code
def yX5_become : MethodName := ⟨RX5, "become", "(LPageRounds$State;)V"⟩
abbrev cX5_draw : ByteArray := prog_7_method_3_code
def yX5_draw : MethodName := ⟨RX5, "draw", "(I)I"⟩
abbrev cX5_countMended : ByteArray := prog_7_method_4_code
def yX5_countMended : MethodName := ⟨RX5, "countMended", "([III)V"⟩
abbrev cX5_has : ByteArray := prog_7_method_5_code
def yX5_has : MethodName := ⟨RX5, "has", "(I)Z"⟩
abbrev cX5_get : ByteArray := prog_7_method_6_code
def yX5_get : MethodName := ⟨RX5, "get", "(II)I"⟩
abbrev cX5_set : ByteArray := prog_7_method_7_code
def yX5_set : MethodName := ⟨RX5, "set", "(III)V"⟩
abbrev cX5_linkAt : ByteArray := prog_7_method_8_code
def yX5_linkAt : MethodName := ⟨RX5, "linkAt", "(II)I"⟩
abbrev cX5_putLink : ByteArray := prog_7_method_9_code
def yX5_putLink : MethodName := ⟨RX5, "putLink", "(III)V"⟩
abbrev cX5_letterAt : ByteArray := prog_7_method_10_code
def yX5_letterAt : MethodName := ⟨RX5, "letterAt", "(III)I"⟩
abbrev cX5_putLetter : ByteArray := prog_7_method_11_code
def yX5_putLetter : MethodName := ⟨RX5, "putLetter", "(IIII)V"⟩
abbrev cX5_isSure : ByteArray := prog_7_method_12_code
def yX5_isSure : MethodName := ⟨RX5, "isSure", "(I)Z"⟩
abbrev cX5_clear : ByteArray := prog_7_method_13_code
def yX5_clear : MethodName := ⟨RX5, "clear", "(I)V"⟩
abbrev cX5_search : ByteArray := prog_7_method_14_code
def yX5_search : MethodName := ⟨RX5, "search", "(III)I"⟩
abbrev cX5_openPage : ByteArray := prog_7_method_15_code
def yX5_openPage : MethodName := ⟨RX5, "openPage", "(III)I"⟩
abbrev cX5_append : ByteArray := prog_7_method_16_code
def yX5_append : MethodName := ⟨RX5, "append", "(III)I"⟩
abbrev cX5_remove : ByteArray := prog_7_method_17_code
def yX5_remove : MethodName := ⟨RX5, "remove", "(I)V"⟩
abbrev cX5_longestAgo : ByteArray := prog_7_method_18_code
def yX5_longestAgo : MethodName := ⟨RX5, "longestAgo", "()I"⟩
def RX6 : String := "PageRounds$Trail"
def TX6 : u_T := fun k => match k with
  | 0 => ("PageRounds$Trail", "ahead", "[LPageRounds$State;", true)
  | 1 => ("PageRounds$Trail", "next", "I", false)
  | _ => ("PageRounds$Trail", "deeds", "I", false)
def tyX6 : Nat → FieldType := fun k => match k with
  | 0 => .array (.object "PageRounds$State")
  | 1 => .int
  | _ => .int
abbrev wsX60 : List Cond := u_ws RX6 TX6 3
theorem nmX6 : ∀ a, a < 3 → ∀ b, b < 3 → a ≠ b → (TX6 a).2.1 ≠ (TX6 b).2.1 := by decide +kernel
theorem tyX6_ok : ∀ k, k < 3 → parseFieldDescriptor (TX6 k).2.2.1 = some (tyX6 k) := by decide +kernel
abbrev cX6_init : ByteArray := prog_8_method_1_code
def yX6_init : MethodName := ⟨RX6, "<init>", "()V"⟩
abbrev cX6_remember : ByteArray := prog_8_method_2_code
def yX6_remember : MethodName := ⟨RX6, "remember", "(LPageRounds$State;)V"⟩
abbrev cX6_takeBack : ByteArray := prog_8_method_3_code
def yX6_takeBack : MethodName := ⟨RX6, "takeBack", "(LPageRounds$State;I)V"⟩
abbrev cX6_forget : ByteArray := prog_8_method_4_code
def yX6_forget : MethodName := ⟨RX6, "forget", "()V"⟩
def RX7 : String := "PageRounds"
def TX7 : u_T := fun k => match k with
  | 0 => ("PageRounds", "state", "LPageRounds$State;", true)
  | 1 => ("PageRounds", "trail", "LPageRounds$Trail;", true)
  | 2 => ("PageRounds", "images", "[LPageRounds$State;", true)
  | 3 => ("PageRounds", "kept", "[Z", true)
  | 4 => ("PageRounds", "letterBook", "LPageRounds$LetterBook;", true)
  | 5 => ("PageRounds", "rounds", "LPageRounds$Rounds;", true)
  | 6 => ("PageRounds", "singles", "[I", true)
  | 7 => ("PageRounds", "whole", "[I", true)
  | _ => ("PageRounds", "singlesCame", "I", false)
def tyX7 : Nat → FieldType := fun k => match k with
  | 0 => .object "PageRounds$State"
  | 1 => .object "PageRounds$Trail"
  | 2 => .array (.object "PageRounds$State")
  | 3 => .array .boolean
  | 4 => .object "PageRounds$LetterBook"
  | 5 => .object "PageRounds$Rounds"
  | 6 => .array .int
  | 7 => .array .int
  | _ => .int
abbrev wsX70 : List Cond := u_ws RX7 TX7 9
theorem nmX7 : ∀ a, a < 9 → ∀ b, b < 9 → a ≠ b → (TX7 a).2.1 ≠ (TX7 b).2.1 := by decide +kernel
theorem tyX7_ok : ∀ k, k < 9 → parseFieldDescriptor (TX7 k).2.2.1 = some (tyX7 k) := by decide +kernel
abbrev cX7_init : ByteArray := prog_1_method_1_code
def yX7_init : MethodName := ⟨RX7, "<init>", "()V"⟩
abbrev cX7_coded : ByteArray := prog_1_method_2_code
def yX7_coded : MethodName := ⟨RX7, "coded", "(I)I"⟩
abbrev cX7_read : ByteArray := prog_1_method_3_code
def yX7_read : MethodName := ⟨RX7, "read", "(I)I"⟩
abbrev cX7_octet : ByteArray := prog_1_method_4_code
def yX7_octet : MethodName := ⟨RX7, "octet", "(I)I"⟩
abbrev cX7_packet : ByteArray := prog_1_method_5_code
def yX7_packet : MethodName := ⟨RX7, "packet", "(IIJ)I"⟩
abbrev cX7_told : ByteArray := prog_1_method_6_code
def yX7_told : MethodName := ⟨RX7, "told", "(I)I"⟩
abbrev cX7_open : ByteArray := prog_1_method_7_code
def yX7_open : MethodName := ⟨RX7, "open", "(I)I"⟩
abbrev cX7_page : ByteArray := prog_1_method_8_code
def yX7_page : MethodName := ⟨RX7, "page", "(II)I"⟩
abbrev cX7_letter : ByteArray := prog_1_method_9_code
def yX7_letter : MethodName := ⟨RX7, "letter", "(III)I"⟩
abbrev cX7_link : ByteArray := prog_1_method_10_code
def yX7_link : MethodName := ⟨RX7, "link", "(II)I"⟩
abbrev cX7_far : ByteArray := prog_1_method_11_code
def yX7_far : MethodName := ⟨RX7, "far", "(II)I"⟩
abbrev cX7_find : ByteArray := prog_1_method_12_code
def yX7_find : MethodName := ⟨RX7, "find", "(III)I"⟩
abbrev cX7_weight : ByteArray := prog_1_method_13_code
def yX7_weight : MethodName := ⟨RX7, "weight", "(II)I"⟩
abbrev cX7_drop : ByteArray := prog_1_method_14_code
def yX7_drop : MethodName := ⟨RX7, "drop", "(I)I"⟩
abbrev cX7_drift : ByteArray := prog_1_method_15_code
def yX7_drift : MethodName := ⟨RX7, "drift", "(I)I"⟩
abbrev cX7_undo : ByteArray := prog_1_method_16_code
def yX7_undo : MethodName := ⟨RX7, "undo", "(I)I"⟩
abbrev cX7_sent : ByteArray := prog_1_method_17_code
def yX7_sent : MethodName := ⟨RX7, "sent", "(II)I"⟩
abbrev cX7_waits : ByteArray := prog_1_method_18_code
def yX7_waits : MethodName := ⟨RX7, "waits", "(III)I"⟩
abbrev cX7_bestRule : ByteArray := prog_1_method_19_code
def yX7_bestRule : MethodName := ⟨RX7, "bestRule", "(I)I"⟩
abbrev cX7_write : ByteArray := prog_1_method_20_code
def yX7_write : MethodName := ⟨RX7, "write", "(IIII)I"⟩
abbrev cX7_tear : ByteArray := prog_1_method_21_code
def yX7_tear : MethodName := ⟨RX7, "tear", "()I"⟩
abbrev cX7_seed : ByteArray := prog_1_method_22_code
def yX7_seed : MethodName := ⟨RX7, "seed", "(I)I"⟩
abbrev cX7_keep : ByteArray := prog_1_method_23_code
def yX7_keep : MethodName := ⟨RX7, "keep", "(I)I"⟩
abbrev cX7_goBack : ByteArray := prog_1_method_24_code
def yX7_goBack : MethodName := ⟨RX7, "goBack", "(I)I"⟩
abbrev cX7_isWithin : ByteArray := prog_1_method_25_code
def yX7_isWithin : MethodName := ⟨RX7, "isWithin", "(III)Z"⟩
abbrev cX7_isPlace : ByteArray := prog_1_method_26_code
def yX7_isPlace : MethodName := ⟨RX7, "isPlace", "(II)Z"⟩
abbrev cX7_comes : ByteArray := prog_1_method_27_code
def yX7_comes : MethodName := ⟨RX7, "comes", "([I)Z"⟩
abbrev cX7_bodyOctet : ByteArray := prog_1_method_28_code
def yX7_bodyOctet : MethodName := ⟨RX7, "bodyOctet", "(II)I"⟩
abbrev cX7_drawPacket : ByteArray := prog_1_method_29_code
def yX7_drawPacket : MethodName := ⟨RX7, "drawPacket", "()V"⟩
def RX8 : String := "PageRoundsModel"
def TX8 : u_T := fun k => match k with
  | 0 => ("PageRoundsModel", "thrown", "I", false)
  | 1 => ("PageRoundsModel", "s", "[I", true)
  | 2 => ("PageRoundsModel", "seed", "J", false)
  | 3 => ("PageRoundsModel", "packet", "[I", true)
  | 4 => ("PageRoundsModel", "coming", "[I", true)
  | 5 => ("PageRoundsModel", "come", "I", false)
  | 6 => ("PageRoundsModel", "past", "[I", true)
  | 7 => ("PageRoundsModel", "pastMany", "I", false)
  | 8 => ("PageRoundsModel", "kept", "[I", true)
  | 9 => ("PageRoundsModel", "keptSeed", "[J", true)
  | 10 => ("PageRoundsModel", "isKept", "[Z", true)
  | 11 => ("PageRoundsModel", "entries", "[I", true)
  | 12 => ("PageRoundsModel", "entryMany", "I", false)
  | 13 => ("PageRoundsModel", "order", "[I", true)
  | 14 => ("PageRoundsModel", "often", "[I", true)
  | 15 => ("PageRoundsModel", "lastEnd", "[I", true)
  | _ => ("PageRoundsModel", "wait", "[I", true)
def tyX8 : Nat → FieldType := fun k => match k with
  | 0 => .int
  | 1 => .array .int
  | 2 => .long
  | 3 => .array .int
  | 4 => .array .int
  | 5 => .int
  | 6 => .array .int
  | 7 => .int
  | 8 => .array .int
  | 9 => .array .long
  | 10 => .array .boolean
  | 11 => .array .int
  | 12 => .int
  | 13 => .array .int
  | 14 => .array .int
  | 15 => .array .int
  | _ => .array .int
abbrev wsX80 : List Cond := u_ws RX8 TX8 17
theorem nmX8 : ∀ a, a < 17 → ∀ b, b < 17 → a ≠ b → (TX8 a).2.1 ≠ (TX8 b).2.1 := by decide +kernel
theorem tyX8_ok : ∀ k, k < 17 → parseFieldDescriptor (TX8 k).2.2.1 = some (tyX8 k) := by decide +kernel
abbrev cX8_init : ByteArray := prog_10_method_1_code
def yX8_init : MethodName := ⟨RX8, "<init>", "()V"⟩
abbrev cX8_in : ByteArray := prog_10_method_3_code
def yX8_in : MethodName := ⟨RX8, "in", "(JJJ)Z"⟩
abbrev cX8_at : ByteArray := prog_10_method_4_code
def yX8_at : MethodName := ⟨RX8, "at", "(I)I"⟩
abbrev cX8_of : ByteArray := prog_10_method_5_code
def yX8_of : MethodName := ⟨RX8, "of", "(II)I"⟩
abbrev cX8_ones : ByteArray := prog_10_method_6_code
def yX8_ones : MethodName := ⟨RX8, "ones", "(I)I"⟩
abbrev cX8_even : ByteArray := prog_10_method_7_code
def yX8_even : MethodName := ⟨RX8, "even", "(I)I"⟩
abbrev cX8_codeOf : ByteArray := prog_10_method_8_code
def yX8_codeOf : MethodName := ⟨RX8, "codeOf", "(I)I"⟩
abbrev cX8_numberOf : ByteArray := prog_10_method_9_code
def yX8_numberOf : MethodName := ⟨RX8, "numberOf", "(I)I"⟩
abbrev cX8_isMended : ByteArray := prog_10_method_10_code
def yX8_isMended : MethodName := ⟨RX8, "isMended", "(I)Z"⟩
abbrev cX8_lettered : ByteArray := prog_10_method_11_code
def yX8_lettered : MethodName := ⟨RX8, "lettered", "(I)I"⟩
abbrev cX8_coded : ByteArray := prog_10_method_12_code
def yX8_coded : MethodName := ⟨RX8, "coded", "(I)I"⟩
abbrev cX8_read : ByteArray := prog_10_method_13_code
def yX8_read : MethodName := ⟨RX8, "read", "(I)I"⟩
abbrev cX8_mends : ByteArray := prog_10_method_14_code
def yX8_mends : MethodName := ⟨RX8, "mends", "(II)V"⟩
abbrev cX8_number : ByteArray := prog_10_method_15_code
def yX8_number : MethodName := ⟨RX8, "number", "(I)I"⟩
abbrev cX8_pageOf : ByteArray := prog_10_method_16_code
def yX8_pageOf : MethodName := ⟨RX8, "pageOf", "(III)I"⟩
abbrev cX8_goes : ByteArray := prog_10_method_17_code
def yX8_goes : MethodName := ⟨RX8, "goes", "(I)V"⟩
abbrev cX8_oldest : ByteArray := prog_10_method_18_code
def yX8_oldest : MethodName := ⟨RX8, "oldest", "()I"⟩
abbrev cX8_empties : ByteArray := prog_10_method_19_code
def yX8_empties : MethodName := ⟨RX8, "empties", "(I)V"⟩
abbrev cX8_newPage : ByteArray := prog_10_method_20_code
def yX8_newPage : MethodName := ⟨RX8, "newPage", "(III)I"⟩
abbrev cX8_heads : ByteArray := prog_10_method_21_code
def yX8_heads : MethodName := ⟨RX8, "heads", "(I)Z"⟩
abbrev cX8_rows : ByteArray := prog_10_method_22_code
def yX8_rows : MethodName := ⟨RX8, "rows", "(II)V"⟩
abbrev cX8_links : ByteArray := prog_10_method_23_code
def yX8_links : MethodName := ⟨RX8, "links", "(I)V"⟩
abbrev cX8_takes : ByteArray := prog_10_method_24_code
def yX8_takes : MethodName := ⟨RX8, "takes", "()Z"⟩
abbrev cX8_comes : ByteArray := prog_10_method_25_code
def yX8_comes : MethodName := ⟨RX8, "comes", "()I"⟩
abbrev cX8_notes : ByteArray := prog_10_method_26_code
def yX8_notes : MethodName := ⟨RX8, "notes", "()V"⟩
abbrev cX8_octet : ByteArray := prog_10_method_27_code
def yX8_octet : MethodName := ⟨RX8, "octet", "(I)I"⟩
abbrev cX8_laid : ByteArray := prog_10_method_28_code
def yX8_laid : MethodName := ⟨RX8, "laid", "(II)I"⟩
abbrev cX8_packet : ByteArray := prog_10_method_29_code
def yX8_packet : MethodName := ⟨RX8, "packet", "(IIJ)I"⟩
abbrev cX8_told : ByteArray := prog_10_method_30_code
def yX8_told : MethodName := ⟨RX8, "told", "(I)I"⟩
abbrev cX8_open : ByteArray := prog_10_method_31_code
def yX8_open : MethodName := ⟨RX8, "open", "(I)I"⟩
abbrev cX8_isPage : ByteArray := prog_10_method_32_code
def yX8_isPage : MethodName := ⟨RX8, "isPage", "(I)Z"⟩
abbrev cX8_lacks : ByteArray := prog_10_method_33_code
def yX8_lacks : MethodName := ⟨RX8, "lacks", "(I)I"⟩
abbrev cX8_hasLinks : ByteArray := prog_10_method_34_code
def yX8_hasLinks : MethodName := ⟨RX8, "hasLinks", "(I)Z"⟩
abbrev cX8_lengthOf : ByteArray := prog_10_method_35_code
def yX8_lengthOf : MethodName := ⟨RX8, "lengthOf", "(I)I"⟩
abbrev cX8_sure : ByteArray := prog_10_method_36_code
def yX8_sure : MethodName := ⟨RX8, "sure", "(I)I"⟩
abbrev cX8_linked : ByteArray := prog_10_method_37_code
def yX8_linked : MethodName := ⟨RX8, "linked", "(I)I"⟩
abbrev cX8_page : ByteArray := prog_10_method_38_code
def yX8_page : MethodName := ⟨RX8, "page", "(II)I"⟩
abbrev cX8_letter : ByteArray := prog_10_method_39_code
def yX8_letter : MethodName := ⟨RX8, "letter", "(III)I"⟩
abbrev cX8_link : ByteArray := prog_10_method_40_code
def yX8_link : MethodName := ⟨RX8, "link", "(II)I"⟩
abbrev cX8_far : ByteArray := prog_10_method_41_code
def yX8_far : MethodName := ⟨RX8, "far", "(II)I"⟩
abbrev cX8_find : ByteArray := prog_10_method_42_code
def yX8_find : MethodName := ⟨RX8, "find", "(III)I"⟩
abbrev cX8_weight : ByteArray := prog_10_method_43_code
def yX8_weight : MethodName := ⟨RX8, "weight", "(II)I"⟩
abbrev cX8_drop : ByteArray := prog_10_method_44_code
def yX8_drop : MethodName := ⟨RX8, "drop", "(I)I"⟩
abbrev cX8_draw : ByteArray := prog_10_method_45_code
def yX8_draw : MethodName := ⟨RX8, "draw", "(I)I"⟩
abbrev cX8_drifts : ByteArray := prog_10_method_46_code
def yX8_drifts : MethodName := ⟨RX8, "drifts", "()V"⟩
abbrev cX8_drift : ByteArray := prog_10_method_47_code
def yX8_drift : MethodName := ⟨RX8, "drift", "(I)I"⟩
abbrev cX8_undo : ByteArray := prog_10_method_48_code
def yX8_undo : MethodName := ⟨RX8, "undo", "(I)I"⟩
abbrev cX8_isBetter : ByteArray := prog_10_method_49_code
def yX8_isBetter : MethodName := ⟨RX8, "isBetter", "(IIII)Z"⟩
abbrev cX8_sends : ByteArray := prog_10_method_50_code
def yX8_sends : MethodName := ⟨RX8, "sends", "(II)V"⟩
abbrev cX8_waited : ByteArray := prog_10_method_51_code
def yX8_waited : MethodName := ⟨RX8, "waited", "(II)V"⟩
abbrev cX8_sent : ByteArray := prog_10_method_52_code
def yX8_sent : MethodName := ⟨RX8, "sent", "(II)I"⟩
abbrev cX8_waits : ByteArray := prog_10_method_53_code
def yX8_waits : MethodName := ⟨RX8, "waits", "(III)I"⟩
abbrev cX8_worstBy : ByteArray := prog_10_method_54_code
def yX8_worstBy : MethodName := ⟨RX8, "worstBy", "(II)I"⟩
abbrev cX8_bestRule : ByteArray := prog_10_method_55_code
def yX8_bestRule : MethodName := ⟨RX8, "bestRule", "(I)I"⟩
abbrev cX8_wrong : ByteArray := prog_10_method_56_code
def yX8_wrong : MethodName := ⟨RX8, "wrong", "()I"⟩
abbrev cX8_write : ByteArray := prog_10_method_57_code
def yX8_write : MethodName := ⟨RX8, "write", "(IIII)I"⟩
abbrev cX8_tear : ByteArray := prog_10_method_58_code
def yX8_tear : MethodName := ⟨RX8, "tear", "()I"⟩
abbrev cX8_seed : ByteArray := prog_10_method_59_code
def yX8_seed : MethodName := ⟨RX8, "seed", "(I)I"⟩
abbrev cX8_keep : ByteArray := prog_10_method_60_code
def yX8_keep : MethodName := ⟨RX8, "keep", "(I)I"⟩
abbrev cX8_goBack : ByteArray := prog_10_method_61_code
def yX8_goBack : MethodName := ⟨RX8, "goBack", "(I)I"⟩
def RJ6 : String := "java/lang/Integer"
def TJ6 : u_T := fun k => match k with
  | _ => ("", "", "", false)
def tyJ6 : Nat → FieldType := fun k => match k with
  | _ => .int
abbrev wsJ60 : List Cond := u_ws RJ6 TJ6 0
theorem nmJ6 : ∀ a, a < 0 → ∀ b, b < 0 → a ≠ b → (TJ6 a).2.1 ≠ (TJ6 b).2.1 := by decide +kernel
theorem tyJ6_ok : ∀ k, k < 0 → parseFieldDescriptor (TJ6 k).2.2.1 = some (tyJ6 k) := by decide +kernel
abbrev cJ6_bitCount_0f7a4 : ByteArray := prog_11_method_49_code
def yJ6_bitCount_0f7a4 : MethodName := ⟨RJ6, "bitCount", "(I)I"⟩
def RJ9 : String := "java/lang/Math"
def TJ9 : u_T := fun k => match k with
  | _ => ("", "", "", false)
def tyJ9 : Nat → FieldType := fun k => match k with
  | _ => .int
abbrev wsJ90 : List Cond := u_ws RJ9 TJ9 0
theorem nmJ9 : ∀ a, a < 0 → ∀ b, b < 0 → a ≠ b → (TJ9 a).2.1 ≠ (TJ9 b).2.1 := by decide +kernel
theorem tyJ9_ok : ∀ k, k < 0 → parseFieldDescriptor (TJ9 k).2.2.1 = some (tyJ9 k) := by decide +kernel
abbrev cJ9_floorMod_7cf53 : ByteArray := prog_12_method_50_code
def yJ9_floorMod_7cf53 : MethodName := ⟨RJ9, "floorMod", "(II)I"⟩
abbrev cJ9_max_7cf53 : ByteArray := prog_12_method_65_code
def yJ9_max_7cf53 : MethodName := ⟨RJ9, "max", "(II)I"⟩
abbrev cJ9_min_7cf53 : ByteArray := prog_12_method_69_code
def yJ9_min_7cf53 : MethodName := ⟨RJ9, "min", "(II)I"⟩
def RJ10 : String := "java/lang/System"
def TJ10 : u_T := fun k => match k with
  | _ => ("", "", "", false)
def tyJ10 : Nat → FieldType := fun k => match k with
  | _ => .int
abbrev wsJ100 : List Cond := u_ws RJ10 TJ10 0
theorem nmJ10 : ∀ a, a < 0 → ∀ b, b < 0 → a ≠ b → (TJ10 a).2.1 ≠ (TJ10 b).2.1 := by decide +kernel
theorem tyJ10_ok : ∀ k, k < 0 → parseFieldDescriptor (TJ10 k).2.2.1 = some (tyJ10 k) := by decide +kernel
def RJ7 : String := "java/util/Arrays"
def TJ7 : u_T := fun k => match k with
  | _ => ("", "", "", false)
def tyJ7 : Nat → FieldType := fun k => match k with
  | _ => .int
abbrev wsJ70 : List Cond := u_ws RJ7 TJ7 0
theorem nmJ7 : ∀ a, a < 0 → ∀ b, b < 0 → a ≠ b → (TJ7 a).2.1 ≠ (TJ7 b).2.1 := by decide +kernel
theorem tyJ7_ok : ∀ k, k < 0 → parseFieldDescriptor (TJ7 k).2.2.1 = some (tyJ7 k) := by decide +kernel
abbrev cJ7_rangeCheck_23922 : ByteArray := prog_14_method_30_code
def yJ7_rangeCheck_23922 : MethodName := ⟨RJ7, "rangeCheck", "(III)V"⟩
abbrev cJ7_fill_53178 : ByteArray := prog_14_method_103_code
def yJ7_fill_53178 : MethodName := ⟨RJ7, "fill", "([II)V"⟩
abbrev cJ7_fill_fda19 : ByteArray := prog_14_method_104_code
def yJ7_fill_fda19 : MethodName := ⟨RJ7, "fill", "([IIII)V"⟩
def RL : String := "PageRoundsLaw"
abbrev cL_law : ByteArray := code
def yL_law : MethodName := ⟨RL, "law", "([I)Z"⟩
def wsX5_get : List Cond := .code yX5_get cX5_get 4 (some .int) :: ([.fieldLink RX5 11 "PageRounds$State" "cells" "[I"] ++ wsX50)
def wsX5_letterAt : List Cond := .code yX5_letterAt cX5_letterAt 4 (some .int) :: ([.methodLink RX5 70 yX5_get, .instanceMethod yX5_get, .selects RX5 yX5_get yX5_get, .initialized RX5, .code yX5_get cX5_get 4 (some .int), .fieldLink RX5 11 "PageRounds$State" "cells" "[I"] ++ wsX50)
def wsX0_hasLetters : List Cond := .code yX0_hasLetters cX0_hasLetters 4 (some .boolean) :: ([.methodLink RX0 29 yX5_letterAt, .instanceMethod yX5_letterAt, .selects RX5 yX5_letterAt yX5_letterAt, .initialized RX5, .code yX5_letterAt cX5_letterAt 4 (some .int), .methodLink RX5 70 yX5_get, .instanceMethod yX5_get, .selects RX5 yX5_get yX5_get, .code yX5_get cX5_get 4 (some .int), .fieldLink RX5 11 "PageRounds$State" "cells" "[I"] ++ wsX50)
def wsX0_lacks : List Cond := .code yX0_lacks cX0_lacks 4 (some .int) :: ([.methodLink RX0 25 yX0_hasLetters, .static yX0_hasLetters, .initialized RX0, .code yX0_hasLetters cX0_hasLetters 4 (some .boolean), .methodLink RX0 29 yX5_letterAt, .instanceMethod yX5_letterAt, .selects RX5 yX5_letterAt yX5_letterAt, .initialized RX5, .code yX5_letterAt cX5_letterAt 4 (some .int), .methodLink RX5 70 yX5_get, .instanceMethod yX5_get, .selects RX5 yX5_get yX5_get, .code yX5_get cX5_get 4 (some .int), .fieldLink RX5 11 "PageRounds$State" "cells" "[I"] ++ wsX50)
def wsJ6_bitCount_0f7a4 : List Cond := .code yJ6_bitCount_0f7a4 cJ6_bitCount_0f7a4 1 (some .int) :: ([.constant RJ6 265 (1431655765), .constant RJ6 266 (858993459), .constant RJ6 267 (252645135)])
def wsX5_linkAt : List Cond := .code yX5_linkAt cX5_linkAt 3 (some .int) :: ([.methodLink RX5 70 yX5_get, .instanceMethod yX5_get, .selects RX5 yX5_get yX5_get, .initialized RX5, .code yX5_get cX5_get 4 (some .int), .fieldLink RX5 11 "PageRounds$State" "cells" "[I"] ++ wsX50)
def wsX0_hasLinks : List Cond := .code yX0_hasLinks cX0_hasLinks 3 (some .boolean) :: ([.methodLink RX0 56 yX5_linkAt, .instanceMethod yX5_linkAt, .selects RX5 yX5_linkAt yX5_linkAt, .initialized RX5, .code yX5_linkAt cX5_linkAt 3 (some .int), .methodLink RX5 70 yX5_get, .instanceMethod yX5_get, .selects RX5 yX5_get yX5_get, .code yX5_get cX5_get 4 (some .int), .fieldLink RX5 11 "PageRounds$State" "cells" "[I"] ++ wsX50)
def wsX0_length_r1 : List Cond := [Cond.methodLink RX0 9 yX0_lacks, Cond.static yX0_lacks, Cond.initialized RX0, Cond.code yX0_lacks cX0_lacks 4 (some .int), Cond.methodLink RX0 25 yX0_hasLetters, Cond.static yX0_hasLetters, Cond.code yX0_hasLetters cX0_hasLetters 4 (some .boolean), Cond.methodLink RX0 29 yX5_letterAt, Cond.instanceMethod yX5_letterAt, Cond.selects RX5 yX5_letterAt yX5_letterAt, Cond.initialized RX5, Cond.code yX5_letterAt cX5_letterAt 4 (some .int), Cond.methodLink RX5 70 yX5_get, Cond.instanceMethod yX5_get, Cond.selects RX5 yX5_get yX5_get, Cond.code yX5_get cX5_get 4 (some .int), Cond.fieldLink RX5 11 "PageRounds$State" "cells" "[I", Cond.methodLink RX0 15 yJ6_bitCount_0f7a4, Cond.static yJ6_bitCount_0f7a4, Cond.initialized RJ6, Cond.code yJ6_bitCount_0f7a4 cJ6_bitCount_0f7a4 1 (some .int), Cond.constant RJ6 265 (1431655765), Cond.constant RJ6 266 (858993459), Cond.constant RJ6 267 (252645135)]
def wsX0_length_r2 : List Cond := [Cond.methodLink RX0 21 yX0_hasLinks, Cond.static yX0_hasLinks, Cond.code yX0_hasLinks cX0_hasLinks 3 (some .boolean), Cond.methodLink RX0 56 yX5_linkAt, Cond.instanceMethod yX5_linkAt, Cond.selects RX5 yX5_linkAt yX5_linkAt, Cond.code yX5_linkAt cX5_linkAt 3 (some .int)]
def wsX0_length : List Cond := .code yX0_length cX0_length 3 (some .int) :: ((wsX0_length_r1 ++ wsX0_length_r2) ++ wsX50)
def wsX7_isWithin : List Cond := .code yX7_isWithin cX7_isWithin 3 (some .boolean) :: ([])
def wsX5_isSure : List Cond := .code yX5_isSure cX5_isSure 1 (some .boolean) :: ([.static yX7_isWithin, .initialized RX7, .code yX7_isWithin cX7_isWithin 3 (some .boolean)])
def wsX0_sureOnes : List Cond := .code yX0_sureOnes cX0_sureOnes 5 (some .int) :: ([.methodLink RX0 29 yX5_letterAt, .instanceMethod yX5_letterAt, .selects RX5 yX5_letterAt yX5_letterAt, .initialized RX5, .code yX5_letterAt cX5_letterAt 4 (some .int), .methodLink RX5 70 yX5_get, .instanceMethod yX5_get, .selects RX5 yX5_get yX5_get, .code yX5_get cX5_get 4 (some .int), .fieldLink RX5 11 "PageRounds$State" "cells" "[I", .methodLink RX0 35 yX5_isSure, .static yX5_isSure, .code yX5_isSure cX5_isSure 1 (some .boolean), .static yX7_isWithin, .initialized RX7, .code yX7_isWithin cX7_isWithin 3 (some .boolean)] ++ wsX50)
def wsX0_leadsTo : List Cond := .code yX0_leadsTo cX0_leadsTo 5 (some .boolean) :: ([.methodLink RX0 52 yX5_get, .instanceMethod yX5_get, .selects RX5 yX5_get yX5_get, .initialized RX5, .code yX5_get cX5_get 4 (some .int), .fieldLink RX5 11 "PageRounds$State" "cells" "[I", .methodLink RX0 56 yX5_linkAt, .instanceMethod yX5_linkAt, .selects RX5 yX5_linkAt yX5_linkAt, .code yX5_linkAt cX5_linkAt 3 (some .int), .methodLink RX5 70 yX5_get] ++ wsX50)
def wsX0_linked : List Cond := .code yX0_linked cX0_linked 4 (some .int) :: ([.fieldLink RX0 39 "PageRounds$State" "pages" "I", .methodLink RX0 43 yX0_leadsTo, .static yX0_leadsTo, .initialized RX0, .code yX0_leadsTo cX0_leadsTo 5 (some .boolean), .methodLink RX0 52 yX5_get, .instanceMethod yX5_get, .selects RX5 yX5_get yX5_get, .initialized RX5, .code yX5_get cX5_get 4 (some .int), .fieldLink RX5 11 "PageRounds$State" "cells" "[I", .methodLink RX0 56 yX5_linkAt, .instanceMethod yX5_linkAt, .selects RX5 yX5_linkAt yX5_linkAt, .code yX5_linkAt cX5_linkAt 3 (some .int), .methodLink RX5 70 yX5_get] ++ wsX50)
def wsX0_linkedFromAny : List Cond := .code yX0_linkedFromAny cX0_linkedFromAny 4 (some .int) :: ([.fieldLink RX0 39 "PageRounds$State" "pages" "I", .methodLink RX0 49 yX0_linked, .static yX0_linked, .initialized RX0, .code yX0_linked cX0_linked 4 (some .int), .methodLink RX0 43 yX0_leadsTo, .static yX0_leadsTo, .code yX0_leadsTo cX0_leadsTo 5 (some .boolean), .methodLink RX0 52 yX5_get, .instanceMethod yX5_get, .selects RX5 yX5_get yX5_get, .initialized RX5, .code yX5_get cX5_get 4 (some .int), .fieldLink RX5 11 "PageRounds$State" "cells" "[I", .methodLink RX0 56 yX5_linkAt, .instanceMethod yX5_linkAt, .selects RX5 yX5_linkAt yX5_linkAt, .code yX5_linkAt cX5_linkAt 3 (some .int), .methodLink RX5 70 yX5_get] ++ wsX50)
def wsX0_steps : List Cond := .code yX0_steps cX0_steps 5 (some .int) :: ([.methodLink RX0 46 yX0_linkedFromAny, .static yX0_linkedFromAny, .initialized RX0, .code yX0_linkedFromAny cX0_linkedFromAny 4 (some .int), .fieldLink RX0 39 "PageRounds$State" "pages" "I", .methodLink RX0 49 yX0_linked, .static yX0_linked, .code yX0_linked cX0_linked 4 (some .int), .methodLink RX0 43 yX0_leadsTo, .static yX0_leadsTo, .code yX0_leadsTo cX0_leadsTo 5 (some .boolean), .methodLink RX0 52 yX5_get, .instanceMethod yX5_get, .selects RX5 yX5_get yX5_get, .initialized RX5, .code yX5_get cX5_get 4 (some .int), .fieldLink RX5 11 "PageRounds$State" "cells" "[I", .methodLink RX0 56 yX5_linkAt, .instanceMethod yX5_linkAt, .selects RX5 yX5_linkAt yX5_linkAt, .code yX5_linkAt cX5_linkAt 3 (some .int), .methodLink RX5 70 yX5_get] ++ wsX50)
def wsX1_encode : List Cond := .code yX1_encode cX1_encode 1 (some .int) :: ([.fieldLink RX1 9 "PageRounds$Guard" "CODES" "[I"])
def wsX1_decode : List Cond := .code yX1_decode cX1_decode 2 (some .int) :: ([.fieldLink RX1 9 "PageRounds$Guard" "CODES" "[I", .methodLink RX1 15 yJ6_bitCount_0f7a4, .static yJ6_bitCount_0f7a4, .initialized RJ6, .code yJ6_bitCount_0f7a4 cJ6_bitCount_0f7a4 1 (some .int), .constant RJ6 265 (1431655765), .constant RJ6 266 (858993459), .constant RJ6 267 (252645135)])
def wsX1_isWell : List Cond := .code yX1_isWell cX1_isWell 1 (some .boolean) :: ([.methodLink RX1 15 yJ6_bitCount_0f7a4, .static yJ6_bitCount_0f7a4, .initialized RJ6, .code yJ6_bitCount_0f7a4 cJ6_bitCount_0f7a4 1 (some .int), .constant RJ6 265 (1431655765), .constant RJ6 266 (858993459), .constant RJ6 267 (252645135)])
def wsX1_oddOctet : List Cond := .code yX1_oddOctet cX1_oddOctet 1 (some .int) :: ([.methodLink RX1 21 yX1_isWell, .static yX1_isWell, .initialized RX1, .code yX1_isWell cX1_isWell 1 (some .boolean), .methodLink RX1 15 yJ6_bitCount_0f7a4, .static yJ6_bitCount_0f7a4, .initialized RJ6, .code yJ6_bitCount_0f7a4 cJ6_bitCount_0f7a4 1 (some .int), .constant RJ6 265 (1431655765), .constant RJ6 266 (858993459), .constant RJ6 267 (252645135)])
def wsX2_init : List Cond := .code yX2_init cX2_init 1 none :: ([.methodLink RX2 3 objectInit, .instanceMethod objectInit, .code objectInit ⟨#[0xb1]⟩ 1 none, .arrayClass .int, .fieldLink RX2 11 "PageRounds$LetterBook" "pages" "[I", .fieldLink RX2 15 "PageRounds$LetterBook" "rows" "[I", .fieldLink RX2 18 "PageRounds$LetterBook" "places" "[I", .fieldLink RX2 21 "PageRounds$LetterBook" "letters" "[I"] ++ wsX20)
def wsX2_add : List Cond := .code yX2_add cX2_add 5 (some .boolean) :: ([.fieldLink RX2 24 "PageRounds$LetterBook" "entries" "I", .fieldLink RX2 11 "PageRounds$LetterBook" "pages" "[I", .fieldLink RX2 15 "PageRounds$LetterBook" "rows" "[I", .fieldLink RX2 18 "PageRounds$LetterBook" "places" "[I", .fieldLink RX2 21 "PageRounds$LetterBook" "letters" "[I", .static yX7_isWithin, .initialized RX7, .code yX7_isWithin cX7_isWithin 3 (some .boolean)] ++ wsX20)
def wsX5_has : List Cond := .code yX5_has cX5_has 2 (some .boolean) :: ([.fieldLink RX5 24 "PageRounds$State" "pages" "I", .static yX7_isWithin, .initialized RX7, .code yX7_isWithin cX7_isWithin 3 (some .boolean)] ++ wsX50)
def wsX2_isRight : List Cond := .code yX2_isRight cX2_isRight 4 (some .boolean) :: ([.fieldLink RX2 11 "PageRounds$LetterBook" "pages" "[I", .fieldLink RX2 15 "PageRounds$LetterBook" "rows" "[I", .fieldLink RX2 18 "PageRounds$LetterBook" "places" "[I", .fieldLink RX2 21 "PageRounds$LetterBook" "letters" "[I", .methodLink RX2 36 yX5_has, .instanceMethod yX5_has, .selects RX5 yX5_has yX5_has, .initialized RX5, .code yX5_has cX5_has 2 (some .boolean), .fieldLink RX5 24 "PageRounds$State" "pages" "I", .static yX7_isWithin, .initialized RX7, .code yX7_isWithin cX7_isWithin 3 (some .boolean), .methodLink RX2 42 yX5_letterAt, .instanceMethod yX5_letterAt, .selects RX5 yX5_letterAt yX5_letterAt, .code yX5_letterAt cX5_letterAt 4 (some .int), .methodLink RX5 70 yX5_get, .instanceMethod yX5_get, .selects RX5 yX5_get yX5_get, .code yX5_get cX5_get 4 (some .int), .fieldLink RX5 11 "PageRounds$State" "cells" "[I"] ++ wsX20 ++ wsX50)
def wsX2_firstWrong_r1 : List Cond := [Cond.fieldLink RX2 24 "PageRounds$LetterBook" "entries" "I", Cond.methodLink RX2 32 yX2_isRight, Cond.instanceMethod yX2_isRight, Cond.selects RX2 yX2_isRight yX2_isRight, Cond.initialized RX2, Cond.code yX2_isRight cX2_isRight 4 (some .boolean), Cond.fieldLink RX2 11 "PageRounds$LetterBook" "pages" "[I", Cond.fieldLink RX2 15 "PageRounds$LetterBook" "rows" "[I", Cond.fieldLink RX2 18 "PageRounds$LetterBook" "places" "[I", Cond.fieldLink RX2 21 "PageRounds$LetterBook" "letters" "[I", Cond.methodLink RX2 36 yX5_has, Cond.instanceMethod yX5_has, Cond.selects RX5 yX5_has yX5_has, Cond.initialized RX5, Cond.code yX5_has cX5_has 2 (some .boolean), Cond.fieldLink RX5 24 "PageRounds$State" "pages" "I", Cond.static yX7_isWithin, Cond.initialized RX7, Cond.code yX7_isWithin cX7_isWithin 3 (some .boolean), Cond.methodLink RX2 42 yX5_letterAt, Cond.instanceMethod yX5_letterAt, Cond.selects RX5 yX5_letterAt yX5_letterAt, Cond.code yX5_letterAt cX5_letterAt 4 (some .int), Cond.methodLink RX5 70 yX5_get]
def wsX2_firstWrong_r2 : List Cond := [Cond.instanceMethod yX5_get, Cond.selects RX5 yX5_get yX5_get, Cond.code yX5_get cX5_get 4 (some .int), Cond.fieldLink RX5 11 "PageRounds$State" "cells" "[I"]
def wsX2_firstWrong : List Cond := .code yX2_firstWrong cX2_firstWrong 3 (some .int) :: ((wsX2_firstWrong_r1 ++ wsX2_firstWrong_r2) ++ wsX20 ++ wsX50)
def wsX5_countMended : List Cond := .code yX5_countMended cX5_countMended 6 none :: ([.fieldLink RX5 40 "PageRounds$State" "mended" "I", .constant RX5 65 (99999), .methodLink RX5 56 yX1_decode, .static yX1_decode, .initialized RX1, .code yX1_decode cX1_decode 2 (some .int), .fieldLink RX1 9 "PageRounds$Guard" "CODES" "[I", .methodLink RX1 15 yJ6_bitCount_0f7a4, .static yJ6_bitCount_0f7a4, .initialized RJ6, .code yJ6_bitCount_0f7a4 cJ6_bitCount_0f7a4 1 (some .int), .constant RJ6 265 (1431655765), .constant RJ6 266 (858993459), .constant RJ6 267 (252645135), .methodLink RX5 62 yX1_encode, .static yX1_encode, .code yX1_encode cX1_encode 1 (some .int)] ++ wsX50)
def wsX3_numberAt : List Cond := .code yX3_numberAt cX3_numberAt 5 (some .int) :: ([.methodLink RX3 15 yX1_decode, .static yX1_decode, .initialized RX1, .code yX1_decode cX1_decode 2 (some .int), .fieldLink RX1 9 "PageRounds$Guard" "CODES" "[I", .methodLink RX1 15 yJ6_bitCount_0f7a4, .static yJ6_bitCount_0f7a4, .initialized RJ6, .code yJ6_bitCount_0f7a4 cJ6_bitCount_0f7a4 1 (some .int), .constant RJ6 265 (1431655765), .constant RJ6 266 (858993459), .constant RJ6 267 (252645135), .static yX7_isWithin, .initialized RX7, .code yX7_isWithin cX7_isWithin 3 (some .boolean)])
def wsX5_search : List Cond := .code yX5_search cX5_search 5 (some .int) :: ([.fieldLink RX5 24 "PageRounds$State" "pages" "I", .methodLink RX5 70 yX5_get, .instanceMethod yX5_get, .selects RX5 yX5_get yX5_get, .initialized RX5, .code yX5_get cX5_get 4 (some .int), .fieldLink RX5 11 "PageRounds$State" "cells" "[I"] ++ wsX50)
def wsX5_longestAgo : List Cond := .code yX5_longestAgo cX5_longestAgo 3 (some .int) :: ([.fieldLink RX5 24 "PageRounds$State" "pages" "I", .methodLink RX5 70 yX5_get, .instanceMethod yX5_get, .selects RX5 yX5_get yX5_get, .initialized RX5, .code yX5_get cX5_get 4 (some .int), .fieldLink RX5 11 "PageRounds$State" "cells" "[I"] ++ wsX50)
def wsX5_remove : List Cond := .code yX5_remove cX5_remove 3 none :: ([.fieldLink RX5 11 "PageRounds$State" "cells" "[I", .fieldLink RX5 24 "PageRounds$State" "pages" "I", .methodLink RX5 28 arraycopyName, .native arraycopyName, .static arraycopyName, .initialized "java/lang/System", .fieldLink RX5 15 "PageRounds$State" "open" "[I"] ++ wsX50)
def wsX5_set : List Cond := .code yX5_set cX5_set 5 none :: ([.fieldLink RX5 11 "PageRounds$State" "cells" "[I"] ++ wsX50)
def wsJ7_rangeCheck_23922 : List Cond := .code yJ7_rangeCheck_23922 cJ7_rangeCheck_23922 3 none :: ([])
def wsJ7_fill_fda19 : List Cond := .code yJ7_fill_fda19 cJ7_fill_fda19 5 none :: ([.methodLink RJ7 13 yJ7_rangeCheck_23922, .static yJ7_rangeCheck_23922, .initialized RJ7, .code yJ7_rangeCheck_23922 cJ7_rangeCheck_23922 3 none])
def wsX5_clear : List Cond := .code yX5_clear cX5_clear 2 none :: ([.fieldLink RX5 11 "PageRounds$State" "cells" "[I", .methodLink RX5 85 yJ7_fill_fda19, .static yJ7_fill_fda19, .initialized RJ7, .code yJ7_fill_fda19 cJ7_fill_fda19 5 none, .methodLink RJ7 13 yJ7_rangeCheck_23922, .static yJ7_rangeCheck_23922, .code yJ7_rangeCheck_23922 cJ7_rangeCheck_23922 3 none] ++ wsX50)
def wsX5_append : List Cond := .code yX5_append cX5_append 5 (some .int) :: ([.fieldLink RX5 24 "PageRounds$State" "pages" "I", .methodLink RX5 74 yX5_set, .instanceMethod yX5_set, .selects RX5 yX5_set yX5_set, .initialized RX5, .code yX5_set cX5_set 5 none, .fieldLink RX5 11 "PageRounds$State" "cells" "[I", .methodLink RX5 108 yX5_clear, .instanceMethod yX5_clear, .selects RX5 yX5_clear yX5_clear, .code yX5_clear cX5_clear 2 none, .methodLink RX5 85 yJ7_fill_fda19, .static yJ7_fill_fda19, .initialized RJ7, .code yJ7_fill_fda19 cJ7_fill_fda19 5 none, .methodLink RJ7 13 yJ7_rangeCheck_23922, .static yJ7_rangeCheck_23922, .code yJ7_rangeCheck_23922 cJ7_rangeCheck_23922 3 none] ++ wsX50)
def wsX5_openPage_r1 : List Cond := [Cond.fieldLink RX5 24 "PageRounds$State" "pages" "I", Cond.fieldLink RX5 43 "PageRounds$State" "headsTaken" "I", Cond.methodLink RX5 103 Lib.Math.min.name, Cond.static Lib.Math.min.name, Cond.initialized "java/lang/Math", Cond.code Lib.Math.min.name Lib.Math.min.code 2 (some .int), Cond.fieldLink RX5 15 "PageRounds$State" "open" "[I", Cond.methodLink RX5 88 yX5_search, Cond.instanceMethod yX5_search, Cond.selects RX5 yX5_search yX5_search, Cond.initialized RX5, Cond.code yX5_search cX5_search 5 (some .int), Cond.methodLink RX5 70 yX5_get, Cond.instanceMethod yX5_get, Cond.selects RX5 yX5_get yX5_get, Cond.code yX5_get cX5_get 4 (some .int), Cond.fieldLink RX5 11 "PageRounds$State" "cells" "[I", Cond.methodLink RX5 92 yX5_longestAgo, Cond.instanceMethod yX5_longestAgo, Cond.selects RX5 yX5_longestAgo yX5_longestAgo, Cond.code yX5_longestAgo cX5_longestAgo 3 (some .int), Cond.methodLink RX5 96 yX5_remove, Cond.instanceMethod yX5_remove, Cond.selects RX5 yX5_remove yX5_remove]
def wsX5_openPage_r2 : List Cond := [Cond.code yX5_remove cX5_remove 3 none, Cond.methodLink RX5 28 arraycopyName, Cond.native arraycopyName, Cond.static arraycopyName, Cond.initialized "java/lang/System", Cond.methodLink RX5 100 yX5_append, Cond.instanceMethod yX5_append, Cond.selects RX5 yX5_append yX5_append, Cond.code yX5_append cX5_append 5 (some .int), Cond.methodLink RX5 74 yX5_set, Cond.instanceMethod yX5_set, Cond.selects RX5 yX5_set yX5_set, Cond.code yX5_set cX5_set 5 none, Cond.methodLink RX5 108 yX5_clear, Cond.instanceMethod yX5_clear, Cond.selects RX5 yX5_clear yX5_clear, Cond.code yX5_clear cX5_clear 2 none, Cond.methodLink RX5 85 yJ7_fill_fda19, Cond.static yJ7_fill_fda19, Cond.initialized RJ7, Cond.code yJ7_fill_fda19 cJ7_fill_fda19 5 none, Cond.methodLink RJ7 13 yJ7_rangeCheck_23922, Cond.static yJ7_rangeCheck_23922, Cond.code yJ7_rangeCheck_23922 cJ7_rangeCheck_23922 3 none]
def wsX5_openPage : List Cond := .code yX5_openPage cX5_openPage 5 (some .int) :: ((wsX5_openPage_r1 ++ wsX5_openPage_r2) ++ wsX50)
def wsX3_takeHead_r1 : List Cond := [Cond.fieldLink RX3 31 "PageRounds$State" "open" "[I", Cond.methodLink RX3 9 yX5_countMended, Cond.instanceMethod yX5_countMended, Cond.selects RX5 yX5_countMended yX5_countMended, Cond.initialized RX5, Cond.code yX5_countMended cX5_countMended 6 none, Cond.fieldLink RX5 40 "PageRounds$State" "mended" "I", Cond.constant RX5 65 (99999), Cond.methodLink RX5 56 yX1_decode, Cond.static yX1_decode, Cond.initialized RX1, Cond.code yX1_decode cX1_decode 2 (some .int), Cond.fieldLink RX1 9 "PageRounds$Guard" "CODES" "[I", Cond.methodLink RX1 15 yJ6_bitCount_0f7a4, Cond.static yJ6_bitCount_0f7a4, Cond.initialized RJ6, Cond.code yJ6_bitCount_0f7a4 cJ6_bitCount_0f7a4 1 (some .int), Cond.constant RJ6 265 (1431655765), Cond.constant RJ6 266 (858993459), Cond.constant RJ6 267 (252645135), Cond.methodLink RX5 62 yX1_encode, Cond.static yX1_encode, Cond.code yX1_encode cX1_encode 1 (some .int), Cond.methodLink RX3 42 yX3_numberAt]
def wsX3_takeHead_r2 : List Cond := [Cond.static yX3_numberAt, Cond.initialized RX3, Cond.code yX3_numberAt cX3_numberAt 5 (some .int), Cond.methodLink RX3 15 yX1_decode, Cond.static yX7_isWithin, Cond.initialized RX7, Cond.code yX7_isWithin cX7_isWithin 3 (some .boolean), Cond.methodLink RX3 46 yX5_openPage, Cond.instanceMethod yX5_openPage, Cond.selects RX5 yX5_openPage yX5_openPage, Cond.code yX5_openPage cX5_openPage 5 (some .int), Cond.fieldLink RX5 24 "PageRounds$State" "pages" "I", Cond.fieldLink RX5 43 "PageRounds$State" "headsTaken" "I", Cond.methodLink RX5 103 Lib.Math.min.name, Cond.static Lib.Math.min.name, Cond.initialized "java/lang/Math", Cond.code Lib.Math.min.name Lib.Math.min.code 2 (some .int), Cond.fieldLink RX5 15 "PageRounds$State" "open" "[I", Cond.methodLink RX5 88 yX5_search, Cond.instanceMethod yX5_search, Cond.selects RX5 yX5_search yX5_search, Cond.code yX5_search cX5_search 5 (some .int), Cond.methodLink RX5 70 yX5_get, Cond.instanceMethod yX5_get]
def wsX3_takeHead_r3 : List Cond := [Cond.selects RX5 yX5_get yX5_get, Cond.code yX5_get cX5_get 4 (some .int), Cond.fieldLink RX5 11 "PageRounds$State" "cells" "[I", Cond.methodLink RX5 92 yX5_longestAgo, Cond.instanceMethod yX5_longestAgo, Cond.selects RX5 yX5_longestAgo yX5_longestAgo, Cond.code yX5_longestAgo cX5_longestAgo 3 (some .int), Cond.methodLink RX5 96 yX5_remove, Cond.instanceMethod yX5_remove, Cond.selects RX5 yX5_remove yX5_remove, Cond.code yX5_remove cX5_remove 3 none, Cond.methodLink RX5 28 arraycopyName, Cond.native arraycopyName, Cond.static arraycopyName, Cond.initialized "java/lang/System", Cond.methodLink RX5 100 yX5_append, Cond.instanceMethod yX5_append, Cond.selects RX5 yX5_append yX5_append, Cond.code yX5_append cX5_append 5 (some .int), Cond.methodLink RX5 74 yX5_set, Cond.instanceMethod yX5_set, Cond.selects RX5 yX5_set yX5_set, Cond.code yX5_set cX5_set 5 none, Cond.methodLink RX5 108 yX5_clear]
def wsX3_takeHead_r4 : List Cond := [Cond.instanceMethod yX5_clear, Cond.selects RX5 yX5_clear yX5_clear, Cond.code yX5_clear cX5_clear 2 none, Cond.methodLink RX5 85 yJ7_fill_fda19, Cond.static yJ7_fill_fda19, Cond.initialized RJ7, Cond.code yJ7_fill_fda19 cJ7_fill_fda19 5 none, Cond.methodLink RJ7 13 yJ7_rangeCheck_23922, Cond.static yJ7_rangeCheck_23922, Cond.code yJ7_rangeCheck_23922 cJ7_rangeCheck_23922 3 none, Cond.methodLink RX3 50 yX5_clear]
def wsX3_takeHead : List Cond := .code yX3_takeHead cX3_takeHead 7 (some .boolean) :: ((wsX3_takeHead_r1 ++ (wsX3_takeHead_r2 ++ (wsX3_takeHead_r3 ++ wsX3_takeHead_r4))) ++ wsX50)
def wsX5_putLink : List Cond := .code yX5_putLink cX5_putLink 4 none :: ([.methodLink RX5 74 yX5_set, .instanceMethod yX5_set, .selects RX5 yX5_set yX5_set, .initialized RX5, .code yX5_set cX5_set 5 none, .fieldLink RX5 11 "PageRounds$State" "cells" "[I"] ++ wsX50)
def wsX3_takeLinks_r1 : List Cond := [Cond.methodLink RX3 54 yX5_has, Cond.instanceMethod yX5_has, Cond.selects RX5 yX5_has yX5_has, Cond.initialized RX5, Cond.code yX5_has cX5_has 2 (some .boolean), Cond.fieldLink RX5 24 "PageRounds$State" "pages" "I", Cond.static yX7_isWithin, Cond.initialized RX7, Cond.code yX7_isWithin cX7_isWithin 3 (some .boolean), Cond.methodLink RX3 9 yX5_countMended, Cond.instanceMethod yX5_countMended, Cond.selects RX5 yX5_countMended yX5_countMended, Cond.code yX5_countMended cX5_countMended 6 none, Cond.fieldLink RX5 40 "PageRounds$State" "mended" "I", Cond.constant RX5 65 (99999), Cond.methodLink RX5 56 yX1_decode, Cond.static yX1_decode, Cond.initialized RX1, Cond.code yX1_decode cX1_decode 2 (some .int), Cond.fieldLink RX1 9 "PageRounds$Guard" "CODES" "[I", Cond.methodLink RX1 15 yJ6_bitCount_0f7a4, Cond.static yJ6_bitCount_0f7a4, Cond.initialized RJ6, Cond.code yJ6_bitCount_0f7a4 cJ6_bitCount_0f7a4 1 (some .int)]
def wsX3_takeLinks_r2 : List Cond := [Cond.constant RJ6 265 (1431655765), Cond.constant RJ6 266 (858993459), Cond.constant RJ6 267 (252645135), Cond.methodLink RX5 62 yX1_encode, Cond.static yX1_encode, Cond.code yX1_encode cX1_encode 1 (some .int), Cond.methodLink RX3 42 yX3_numberAt, Cond.static yX3_numberAt, Cond.initialized RX3, Cond.code yX3_numberAt cX3_numberAt 5 (some .int), Cond.methodLink RX3 15 yX1_decode, Cond.methodLink RX3 58 yX5_putLink, Cond.instanceMethod yX5_putLink, Cond.selects RX5 yX5_putLink yX5_putLink, Cond.code yX5_putLink cX5_putLink 4 none, Cond.methodLink RX5 74 yX5_set, Cond.instanceMethod yX5_set, Cond.selects RX5 yX5_set yX5_set, Cond.code yX5_set cX5_set 5 none, Cond.fieldLink RX5 11 "PageRounds$State" "cells" "[I"]
def wsX3_takeLinks : List Cond := .code yX3_takeLinks cX3_takeLinks 5 (some .boolean) :: ((wsX3_takeLinks_r1 ++ wsX3_takeLinks_r2) ++ wsX50)
def wsX5_putLetter_r1 : List Cond := [Cond.methodLink RX5 78 yX1_isWell, Cond.static yX1_isWell, Cond.initialized RX1, Cond.code yX1_isWell cX1_isWell 1 (some .boolean), Cond.methodLink RX1 15 yJ6_bitCount_0f7a4, Cond.static yJ6_bitCount_0f7a4, Cond.initialized RJ6, Cond.code yJ6_bitCount_0f7a4 cJ6_bitCount_0f7a4 1 (some .int), Cond.constant RJ6 265 (1431655765), Cond.constant RJ6 266 (858993459), Cond.constant RJ6 267 (252645135), Cond.methodLink RX5 74 yX5_set, Cond.instanceMethod yX5_set, Cond.selects RX5 yX5_set yX5_set, Cond.initialized RX5, Cond.code yX5_set cX5_set 5 none, Cond.fieldLink RX5 11 "PageRounds$State" "cells" "[I", Cond.methodLink RX5 70 yX5_get, Cond.instanceMethod yX5_get, Cond.selects RX5 yX5_get yX5_get, Cond.code yX5_get cX5_get 4 (some .int), Cond.methodLink RX5 82 yX5_isSure, Cond.static yX5_isSure, Cond.code yX5_isSure cX5_isSure 1 (some .boolean)]
def wsX5_putLetter_r2 : List Cond := [Cond.static yX7_isWithin, Cond.initialized RX7, Cond.code yX7_isWithin cX7_isWithin 3 (some .boolean)]
def wsX5_putLetter : List Cond := .code yX5_putLetter cX5_putLetter 7 none :: ((wsX5_putLetter_r1 ++ wsX5_putLetter_r2) ++ wsX50)
def wsX3_takeRow_r1 : List Cond := [Cond.methodLink RX3 54 yX5_has, Cond.instanceMethod yX5_has, Cond.selects RX5 yX5_has yX5_has, Cond.initialized RX5, Cond.code yX5_has cX5_has 2 (some .boolean), Cond.fieldLink RX5 24 "PageRounds$State" "pages" "I", Cond.static yX7_isWithin, Cond.initialized RX7, Cond.code yX7_isWithin cX7_isWithin 3 (some .boolean), Cond.methodLink RX3 62 yX5_putLetter, Cond.instanceMethod yX5_putLetter, Cond.selects RX5 yX5_putLetter yX5_putLetter, Cond.code yX5_putLetter cX5_putLetter 7 none, Cond.methodLink RX5 78 yX1_isWell, Cond.static yX1_isWell, Cond.initialized RX1, Cond.code yX1_isWell cX1_isWell 1 (some .boolean), Cond.methodLink RX1 15 yJ6_bitCount_0f7a4, Cond.static yJ6_bitCount_0f7a4, Cond.initialized RJ6, Cond.code yJ6_bitCount_0f7a4 cJ6_bitCount_0f7a4 1 (some .int), Cond.constant RJ6 265 (1431655765), Cond.constant RJ6 266 (858993459), Cond.constant RJ6 267 (252645135)]
def wsX3_takeRow_r2 : List Cond := [Cond.methodLink RX5 74 yX5_set, Cond.instanceMethod yX5_set, Cond.selects RX5 yX5_set yX5_set, Cond.code yX5_set cX5_set 5 none, Cond.fieldLink RX5 11 "PageRounds$State" "cells" "[I", Cond.methodLink RX5 70 yX5_get, Cond.instanceMethod yX5_get, Cond.selects RX5 yX5_get yX5_get, Cond.code yX5_get cX5_get 4 (some .int), Cond.methodLink RX5 82 yX5_isSure, Cond.static yX5_isSure, Cond.code yX5_isSure cX5_isSure 1 (some .boolean)]
def wsX3_takeRow : List Cond := .code yX3_takeRow cX3_takeRow 5 (some .boolean) :: ((wsX3_takeRow_r1 ++ wsX3_takeRow_r2) ++ wsX50)
def wsX3_take_r1 : List Cond := [Cond.fieldLink RX3 31 "PageRounds$State" "open" "[I", Cond.methodLink RX3 9 yX5_countMended, Cond.instanceMethod yX5_countMended, Cond.selects RX5 yX5_countMended yX5_countMended, Cond.initialized RX5, Cond.code yX5_countMended cX5_countMended 6 none, Cond.fieldLink RX5 40 "PageRounds$State" "mended" "I", Cond.constant RX5 65 (99999), Cond.methodLink RX5 56 yX1_decode, Cond.static yX1_decode, Cond.initialized RX1, Cond.code yX1_decode cX1_decode 2 (some .int), Cond.fieldLink RX1 9 "PageRounds$Guard" "CODES" "[I", Cond.methodLink RX1 15 yJ6_bitCount_0f7a4, Cond.static yJ6_bitCount_0f7a4, Cond.initialized RJ6, Cond.code yJ6_bitCount_0f7a4 cJ6_bitCount_0f7a4 1 (some .int), Cond.constant RJ6 265 (1431655765), Cond.constant RJ6 266 (858993459), Cond.constant RJ6 267 (252645135), Cond.methodLink RX5 62 yX1_encode, Cond.static yX1_encode, Cond.code yX1_encode cX1_encode 1 (some .int), Cond.methodLink RX3 15 yX1_decode]
def wsX3_take_r2 : List Cond := [Cond.static yX7_isWithin, Cond.initialized RX7, Cond.code yX7_isWithin cX7_isWithin 3 (some .boolean), Cond.methodLink RX3 25 yX3_takeHead, Cond.static yX3_takeHead, Cond.initialized RX3, Cond.code yX3_takeHead cX3_takeHead 7 (some .boolean), Cond.methodLink RX3 42 yX3_numberAt, Cond.static yX3_numberAt, Cond.code yX3_numberAt cX3_numberAt 5 (some .int), Cond.methodLink RX3 46 yX5_openPage, Cond.instanceMethod yX5_openPage, Cond.selects RX5 yX5_openPage yX5_openPage, Cond.code yX5_openPage cX5_openPage 5 (some .int), Cond.fieldLink RX5 24 "PageRounds$State" "pages" "I", Cond.fieldLink RX5 43 "PageRounds$State" "headsTaken" "I", Cond.methodLink RX5 103 Lib.Math.min.name, Cond.static Lib.Math.min.name, Cond.initialized "java/lang/Math", Cond.code Lib.Math.min.name Lib.Math.min.code 2 (some .int), Cond.fieldLink RX5 15 "PageRounds$State" "open" "[I", Cond.methodLink RX5 88 yX5_search, Cond.instanceMethod yX5_search, Cond.selects RX5 yX5_search yX5_search]
def wsX3_take_r3 : List Cond := [Cond.code yX5_search cX5_search 5 (some .int), Cond.methodLink RX5 70 yX5_get, Cond.instanceMethod yX5_get, Cond.selects RX5 yX5_get yX5_get, Cond.code yX5_get cX5_get 4 (some .int), Cond.fieldLink RX5 11 "PageRounds$State" "cells" "[I", Cond.methodLink RX5 92 yX5_longestAgo, Cond.instanceMethod yX5_longestAgo, Cond.selects RX5 yX5_longestAgo yX5_longestAgo, Cond.code yX5_longestAgo cX5_longestAgo 3 (some .int), Cond.methodLink RX5 96 yX5_remove, Cond.instanceMethod yX5_remove, Cond.selects RX5 yX5_remove yX5_remove, Cond.code yX5_remove cX5_remove 3 none, Cond.methodLink RX5 28 arraycopyName, Cond.native arraycopyName, Cond.static arraycopyName, Cond.initialized "java/lang/System", Cond.methodLink RX5 100 yX5_append, Cond.instanceMethod yX5_append, Cond.selects RX5 yX5_append yX5_append, Cond.code yX5_append cX5_append 5 (some .int), Cond.methodLink RX5 74 yX5_set, Cond.instanceMethod yX5_set]
def wsX3_take_r4 : List Cond := [Cond.selects RX5 yX5_set yX5_set, Cond.code yX5_set cX5_set 5 none, Cond.methodLink RX5 108 yX5_clear, Cond.instanceMethod yX5_clear, Cond.selects RX5 yX5_clear yX5_clear, Cond.code yX5_clear cX5_clear 2 none, Cond.methodLink RX5 85 yJ7_fill_fda19, Cond.static yJ7_fill_fda19, Cond.initialized RJ7, Cond.code yJ7_fill_fda19 cJ7_fill_fda19 5 none, Cond.methodLink RJ7 13 yJ7_rangeCheck_23922, Cond.static yJ7_rangeCheck_23922, Cond.code yJ7_rangeCheck_23922 cJ7_rangeCheck_23922 3 none, Cond.methodLink RX3 50 yX5_clear, Cond.methodLink RX3 35 yX3_takeLinks, Cond.static yX3_takeLinks, Cond.code yX3_takeLinks cX3_takeLinks 5 (some .boolean), Cond.methodLink RX3 54 yX5_has, Cond.instanceMethod yX5_has, Cond.selects RX5 yX5_has yX5_has, Cond.code yX5_has cX5_has 2 (some .boolean), Cond.methodLink RX3 58 yX5_putLink, Cond.instanceMethod yX5_putLink, Cond.selects RX5 yX5_putLink yX5_putLink]
def wsX3_take_r5 : List Cond := [Cond.code yX5_putLink cX5_putLink 4 none, Cond.methodLink RX3 38 yX3_takeRow, Cond.static yX3_takeRow, Cond.code yX3_takeRow cX3_takeRow 5 (some .boolean), Cond.methodLink RX3 62 yX5_putLetter, Cond.instanceMethod yX5_putLetter, Cond.selects RX5 yX5_putLetter yX5_putLetter, Cond.code yX5_putLetter cX5_putLetter 7 none, Cond.methodLink RX5 78 yX1_isWell, Cond.static yX1_isWell, Cond.code yX1_isWell cX1_isWell 1 (some .boolean), Cond.methodLink RX5 82 yX5_isSure, Cond.static yX5_isSure, Cond.code yX5_isSure cX5_isSure 1 (some .boolean)]
def wsX3_take : List Cond := .code yX3_take cX3_take 4 (some .boolean) :: ((wsX3_take_r1 ++ (wsX3_take_r2 ++ (wsX3_take_r3 ++ (wsX3_take_r4 ++ wsX3_take_r5)))) ++ wsX50)
def wsX4_init : List Cond := .code yX4_init cX4_init 1 none :: ([.methodLink RX4 3 objectInit, .instanceMethod objectInit, .code objectInit ⟨#[0xb1]⟩ 1 none, .arrayClass .int, .fieldLink RX4 9 "PageRounds$Rounds" "lengths" "[I", .fieldLink RX4 15 "PageRounds$Rounds" "weights" "[I", .fieldLink RX4 18 "PageRounds$Rounds" "times" "[I", .fieldLink RX4 21 "PageRounds$Rounds" "ends" "[I", .fieldLink RX4 24 "PageRounds$Rounds" "waited" "[I"] ++ wsX40)
def wsX4_prepare_r1 : List Cond := [Cond.fieldLink RX4 27 "PageRounds$State" "pages" "I", Cond.fieldLink RX4 33 "PageRounds$Rounds" "pages" "I", Cond.fieldLink RX4 9 "PageRounds$Rounds" "lengths" "[I", Cond.fieldLink RX4 15 "PageRounds$Rounds" "weights" "[I", Cond.methodLink RX4 34 yX0_length, Cond.static yX0_length, Cond.initialized RX0, Cond.code yX0_length cX0_length 3 (some .int), Cond.methodLink RX0 9 yX0_lacks, Cond.static yX0_lacks, Cond.code yX0_lacks cX0_lacks 4 (some .int), Cond.methodLink RX0 25 yX0_hasLetters, Cond.static yX0_hasLetters, Cond.code yX0_hasLetters cX0_hasLetters 4 (some .boolean), Cond.methodLink RX0 29 yX5_letterAt, Cond.instanceMethod yX5_letterAt, Cond.selects RX5 yX5_letterAt yX5_letterAt, Cond.initialized RX5, Cond.code yX5_letterAt cX5_letterAt 4 (some .int), Cond.methodLink RX5 70 yX5_get, Cond.instanceMethod yX5_get, Cond.selects RX5 yX5_get yX5_get, Cond.code yX5_get cX5_get 4 (some .int), Cond.fieldLink RX5 11 "PageRounds$State" "cells" "[I"]
def wsX4_prepare_r2 : List Cond := [Cond.methodLink RX0 15 yJ6_bitCount_0f7a4, Cond.static yJ6_bitCount_0f7a4, Cond.initialized RJ6, Cond.code yJ6_bitCount_0f7a4 cJ6_bitCount_0f7a4 1 (some .int), Cond.constant RJ6 265 (1431655765), Cond.constant RJ6 266 (858993459), Cond.constant RJ6 267 (252645135), Cond.methodLink RX0 21 yX0_hasLinks, Cond.static yX0_hasLinks, Cond.code yX0_hasLinks cX0_hasLinks 3 (some .boolean), Cond.methodLink RX0 56 yX5_linkAt, Cond.instanceMethod yX5_linkAt, Cond.selects RX5 yX5_linkAt yX5_linkAt, Cond.code yX5_linkAt cX5_linkAt 3 (some .int), Cond.methodLink RX4 40 yX5_get]
def wsX4_prepare : List Cond := .code yX4_prepare cX4_prepare 3 none :: ((wsX4_prepare_r1 ++ wsX4_prepare_r2) ++ wsX50 ++ wsX40)
def wsJ7_fill_53178 : List Cond := .code yJ7_fill_53178 cJ7_fill_53178 4 none :: ([])
def wsX4_urgency : List Cond := .code yX4_urgency cX4_urgency 2 (some .int) :: ([.fieldLink RX4 15 "PageRounds$Rounds" "weights" "[I", .fieldLink RX4 50 "PageRounds$Rounds" "time" "I", .fieldLink RX4 21 "PageRounds$Rounds" "ends" "[I"] ++ wsX40)
def wsX4_cost : List Cond := .code yX4_cost cX4_cost 2 (some .int) :: ([.fieldLink RX4 18 "PageRounds$Rounds" "times" "[I", .fieldLink RX4 9 "PageRounds$Rounds" "lengths" "[I"] ++ wsX40)
def wsX4_goesAhead : List Cond := .code yX4_goesAhead cX4_goesAhead 4 (some .boolean) :: ([.fieldLink RX4 15 "PageRounds$Rounds" "weights" "[I", .methodLink RX4 76 yX4_urgency, .instanceMethod yX4_urgency, .selects RX4 yX4_urgency yX4_urgency, .initialized RX4, .code yX4_urgency cX4_urgency 2 (some .int), .fieldLink RX4 50 "PageRounds$Rounds" "time" "I", .fieldLink RX4 21 "PageRounds$Rounds" "ends" "[I", .methodLink RX4 79 yX4_cost, .instanceMethod yX4_cost, .selects RX4 yX4_cost yX4_cost, .code yX4_cost cX4_cost 2 (some .int), .fieldLink RX4 18 "PageRounds$Rounds" "times" "[I", .fieldLink RX4 9 "PageRounds$Rounds" "lengths" "[I"] ++ wsX40)
def wsX4_foremost : List Cond := .code yX4_foremost cX4_foremost 4 (some .int) :: ([.fieldLink RX4 33 "PageRounds$Rounds" "pages" "I", .methodLink RX4 72 yX4_goesAhead, .instanceMethod yX4_goesAhead, .selects RX4 yX4_goesAhead yX4_goesAhead, .initialized RX4, .code yX4_goesAhead cX4_goesAhead 4 (some .boolean), .fieldLink RX4 15 "PageRounds$Rounds" "weights" "[I", .methodLink RX4 76 yX4_urgency, .instanceMethod yX4_urgency, .selects RX4 yX4_urgency yX4_urgency, .code yX4_urgency cX4_urgency 2 (some .int), .fieldLink RX4 50 "PageRounds$Rounds" "time" "I", .fieldLink RX4 21 "PageRounds$Rounds" "ends" "[I", .methodLink RX4 79 yX4_cost, .instanceMethod yX4_cost, .selects RX4 yX4_cost yX4_cost, .code yX4_cost cX4_cost 2 (some .int), .fieldLink RX4 18 "PageRounds$Rounds" "times" "[I", .fieldLink RX4 9 "PageRounds$Rounds" "lengths" "[I"] ++ wsX40)
def wsX4_waitEnds : List Cond := .code yX4_waitEnds cX4_waitEnds 2 none :: ([.fieldLink RX4 24 "PageRounds$Rounds" "waited" "[I", .fieldLink RX4 50 "PageRounds$Rounds" "time" "I", .fieldLink RX4 21 "PageRounds$Rounds" "ends" "[I", .methodLink RX4 67 Lib.Math.max.name, .static Lib.Math.max.name, .initialized "java/lang/Math", .code Lib.Math.max.name Lib.Math.max.code 2 (some .int)] ++ wsX40)
def wsX4_run_r1 : List Cond := [Cond.fieldLink RX4 18 "PageRounds$Rounds" "times" "[I", Cond.fieldLink RX4 21 "PageRounds$Rounds" "ends" "[I", Cond.fieldLink RX4 24 "PageRounds$Rounds" "waited" "[I", Cond.fieldLink RX4 50 "PageRounds$Rounds" "time" "I", Cond.fieldLink RX4 33 "PageRounds$Rounds" "pages" "I", Cond.fieldLink RX4 9 "PageRounds$Rounds" "lengths" "[I", Cond.methodLink RX4 44 yJ7_fill_53178, Cond.static yJ7_fill_53178, Cond.initialized RJ7, Cond.code yJ7_fill_53178 cJ7_fill_53178 4 none, Cond.methodLink RX4 53 yX4_foremost, Cond.instanceMethod yX4_foremost, Cond.selects RX4 yX4_foremost yX4_foremost, Cond.initialized RX4, Cond.code yX4_foremost cX4_foremost 4 (some .int), Cond.methodLink RX4 72 yX4_goesAhead, Cond.instanceMethod yX4_goesAhead, Cond.selects RX4 yX4_goesAhead yX4_goesAhead, Cond.code yX4_goesAhead cX4_goesAhead 4 (some .boolean), Cond.fieldLink RX4 15 "PageRounds$Rounds" "weights" "[I", Cond.methodLink RX4 76 yX4_urgency, Cond.instanceMethod yX4_urgency, Cond.selects RX4 yX4_urgency yX4_urgency, Cond.code yX4_urgency cX4_urgency 2 (some .int)]
def wsX4_run_r2 : List Cond := [Cond.methodLink RX4 79 yX4_cost, Cond.instanceMethod yX4_cost, Cond.selects RX4 yX4_cost yX4_cost, Cond.code yX4_cost cX4_cost 2 (some .int), Cond.methodLink RX4 57 yX4_waitEnds, Cond.instanceMethod yX4_waitEnds, Cond.selects RX4 yX4_waitEnds yX4_waitEnds, Cond.code yX4_waitEnds cX4_waitEnds 2 none, Cond.methodLink RX4 67 Lib.Math.max.name, Cond.static Lib.Math.max.name, Cond.initialized "java/lang/Math", Cond.code Lib.Math.max.name Lib.Math.max.code 2 (some .int)]
def wsX4_run : List Cond := .code yX4_run cX4_run 5 (some .int) :: ((wsX4_run_r1 ++ wsX4_run_r2) ++ wsX40)
def wsX4_worstWait_r1 : List Cond := [Cond.fieldLink RX4 33 "PageRounds$Rounds" "pages" "I", Cond.fieldLink RX4 15 "PageRounds$Rounds" "weights" "[I", Cond.fieldLink RX4 24 "PageRounds$Rounds" "waited" "[I", Cond.methodLink RX4 67 Lib.Math.max.name, Cond.static Lib.Math.max.name, Cond.initialized "java/lang/Math", Cond.code Lib.Math.max.name Lib.Math.max.code 2 (some .int), Cond.methodLink RX4 64 yX4_run, Cond.instanceMethod yX4_run, Cond.selects RX4 yX4_run yX4_run, Cond.initialized RX4, Cond.code yX4_run cX4_run 5 (some .int), Cond.fieldLink RX4 18 "PageRounds$Rounds" "times" "[I", Cond.fieldLink RX4 21 "PageRounds$Rounds" "ends" "[I", Cond.fieldLink RX4 50 "PageRounds$Rounds" "time" "I", Cond.fieldLink RX4 9 "PageRounds$Rounds" "lengths" "[I", Cond.methodLink RX4 44 yJ7_fill_53178, Cond.static yJ7_fill_53178, Cond.initialized RJ7, Cond.code yJ7_fill_53178 cJ7_fill_53178 4 none, Cond.methodLink RX4 53 yX4_foremost, Cond.instanceMethod yX4_foremost, Cond.selects RX4 yX4_foremost yX4_foremost, Cond.code yX4_foremost cX4_foremost 4 (some .int)]
def wsX4_worstWait_r2 : List Cond := [Cond.methodLink RX4 72 yX4_goesAhead, Cond.instanceMethod yX4_goesAhead, Cond.selects RX4 yX4_goesAhead yX4_goesAhead, Cond.code yX4_goesAhead cX4_goesAhead 4 (some .boolean), Cond.methodLink RX4 76 yX4_urgency, Cond.instanceMethod yX4_urgency, Cond.selects RX4 yX4_urgency yX4_urgency, Cond.code yX4_urgency cX4_urgency 2 (some .int), Cond.methodLink RX4 79 yX4_cost, Cond.instanceMethod yX4_cost, Cond.selects RX4 yX4_cost yX4_cost, Cond.code yX4_cost cX4_cost 2 (some .int), Cond.methodLink RX4 57 yX4_waitEnds, Cond.instanceMethod yX4_waitEnds, Cond.selects RX4 yX4_waitEnds yX4_waitEnds, Cond.code yX4_waitEnds cX4_waitEnds 2 none]
def wsX4_worstWait : List Cond := .code yX4_worstWait cX4_worstWait 5 (some .int) :: ((wsX4_worstWait_r1 ++ wsX4_worstWait_r2) ++ wsX40)
def wsX4_best_r1 : List Cond := [Cond.fieldLink RX4 33 "PageRounds$Rounds" "pages" "I", Cond.methodLink RX4 61 yX4_worstWait, Cond.instanceMethod yX4_worstWait, Cond.selects RX4 yX4_worstWait yX4_worstWait, Cond.initialized RX4, Cond.code yX4_worstWait cX4_worstWait 5 (some .int), Cond.fieldLink RX4 15 "PageRounds$Rounds" "weights" "[I", Cond.fieldLink RX4 24 "PageRounds$Rounds" "waited" "[I", Cond.methodLink RX4 67 Lib.Math.max.name, Cond.static Lib.Math.max.name, Cond.initialized "java/lang/Math", Cond.code Lib.Math.max.name Lib.Math.max.code 2 (some .int), Cond.methodLink RX4 64 yX4_run, Cond.instanceMethod yX4_run, Cond.selects RX4 yX4_run yX4_run, Cond.code yX4_run cX4_run 5 (some .int), Cond.fieldLink RX4 18 "PageRounds$Rounds" "times" "[I", Cond.fieldLink RX4 21 "PageRounds$Rounds" "ends" "[I", Cond.fieldLink RX4 50 "PageRounds$Rounds" "time" "I", Cond.fieldLink RX4 9 "PageRounds$Rounds" "lengths" "[I", Cond.methodLink RX4 44 yJ7_fill_53178, Cond.static yJ7_fill_53178, Cond.initialized RJ7, Cond.code yJ7_fill_53178 cJ7_fill_53178 4 none]
def wsX4_best_r2 : List Cond := [Cond.methodLink RX4 53 yX4_foremost, Cond.instanceMethod yX4_foremost, Cond.selects RX4 yX4_foremost yX4_foremost, Cond.code yX4_foremost cX4_foremost 4 (some .int), Cond.methodLink RX4 72 yX4_goesAhead, Cond.instanceMethod yX4_goesAhead, Cond.selects RX4 yX4_goesAhead yX4_goesAhead, Cond.code yX4_goesAhead cX4_goesAhead 4 (some .boolean), Cond.methodLink RX4 76 yX4_urgency, Cond.instanceMethod yX4_urgency, Cond.selects RX4 yX4_urgency yX4_urgency, Cond.code yX4_urgency cX4_urgency 2 (some .int), Cond.methodLink RX4 79 yX4_cost, Cond.instanceMethod yX4_cost, Cond.selects RX4 yX4_cost yX4_cost, Cond.code yX4_cost cX4_cost 2 (some .int), Cond.methodLink RX4 57 yX4_waitEnds, Cond.instanceMethod yX4_waitEnds, Cond.selects RX4 yX4_waitEnds yX4_waitEnds, Cond.code yX4_waitEnds cX4_waitEnds 2 none]
def wsX4_best : List Cond := .code yX4_best cX4_best 6 (some .int) :: ((wsX4_best_r1 ++ wsX4_best_r2) ++ wsX40)
def wsX5_init : List Cond := .code yX5_init cX5_init 1 none :: ([.methodLink RX5 5 objectInit, .instanceMethod objectInit, .code objectInit ⟨#[0xb1]⟩ 1 none, .arrayClass .int, .fieldLink RX5 11 "PageRounds$State" "cells" "[I", .fieldLink RX5 15 "PageRounds$State" "open" "[I", .methodLink RX5 18 yJ7_fill_53178, .static yJ7_fill_53178, .initialized RJ7, .code yJ7_fill_53178 cJ7_fill_53178 4 none] ++ wsX50)
def wsX5_become : List Cond := .code yX5_become cX5_become 2 none :: ([.fieldLink RX5 11 "PageRounds$State" "cells" "[I", .fieldLink RX5 24 "PageRounds$State" "pages" "I", .methodLink RX5 28 arraycopyName, .native arraycopyName, .static arraycopyName, .initialized "java/lang/System", .fieldLink RX5 15 "PageRounds$State" "open" "[I", .fieldLink RX5 34 "PageRounds$State" "came" "I", .fieldLink RX5 37 "PageRounds$State" "lost" "I", .fieldLink RX5 40 "PageRounds$State" "mended" "I", .fieldLink RX5 43 "PageRounds$State" "headsTaken" "I"] ++ wsX50)
def wsX5_draw : List Cond := .code yX5_draw cX5_draw 2 (some .int) :: ([.fieldLink RX5 46 "PageRounds$State" "seed" "I", .constantLong RX5 49 (1103515245), .constantLong RX5 51 (12345), .constantLong RX5 53 (2147483648), .constant RX5 55 (65536)] ++ wsX50)
def wsX6_init : List Cond := .code yX6_init cX6_init 2 none :: ([.methodLink RX6 3 objectInit, .instanceMethod objectInit, .code objectInit ⟨#[0xb1]⟩ 1 none, .classLink RX6 9 RX5, .fieldLink RX6 11 "PageRounds$Trail" "ahead" "[LPageRounds$State;", .instantiable RX5 8, .initialized RX5, .methodLink RX6 17 yX5_init, .instanceMethod yX5_init, .code yX5_init cX5_init 1 none, .methodLink RX5 5 objectInit, .arrayClass .int, .fieldLink RX5 11 "PageRounds$State" "cells" "[I", .fieldLink RX5 15 "PageRounds$State" "open" "[I", .methodLink RX5 18 yJ7_fill_53178, .static yJ7_fill_53178, .initialized RJ7, .code yJ7_fill_53178 cJ7_fill_53178 4 none] ++ wsX60 ++ wsX50)
def wsX6_remember : List Cond := .code yX6_remember cX6_remember 2 none :: ([.fieldLink RX6 11 "PageRounds$Trail" "ahead" "[LPageRounds$State;", .fieldLink RX6 18 "PageRounds$Trail" "next" "I", .fieldLink RX6 26 "PageRounds$Trail" "deeds" "I", .methodLink RX6 29 Lib.Math.min.name, .static Lib.Math.min.name, .initialized "java/lang/Math", .code Lib.Math.min.name Lib.Math.min.code 2 (some .int), .methodLink RX6 22 yX5_become, .instanceMethod yX5_become, .selects RX5 yX5_become yX5_become, .initialized RX5, .code yX5_become cX5_become 2 none, .fieldLink RX5 11 "PageRounds$State" "cells" "[I", .fieldLink RX5 24 "PageRounds$State" "pages" "I", .methodLink RX5 28 arraycopyName, .native arraycopyName, .static arraycopyName, .initialized "java/lang/System", .fieldLink RX5 15 "PageRounds$State" "open" "[I", .fieldLink RX5 34 "PageRounds$State" "came" "I", .fieldLink RX5 37 "PageRounds$State" "lost" "I", .fieldLink RX5 40 "PageRounds$State" "mended" "I", .fieldLink RX5 43 "PageRounds$State" "headsTaken" "I"] ++ wsX60 ++ wsX50)
def wsJ9_floorMod_7cf53 : List Cond := .code yJ9_floorMod_7cf53 cJ9_floorMod_7cf53 3 (some .int) :: ([])
def wsX6_takeBack : List Cond := .code yX6_takeBack cX6_takeBack 3 none :: ([.fieldLink RX6 18 "PageRounds$Trail" "next" "I", .fieldLink RX6 26 "PageRounds$Trail" "deeds" "I", .fieldLink RX6 11 "PageRounds$Trail" "ahead" "[LPageRounds$State;", .methodLink RX6 35 yJ9_floorMod_7cf53, .static yJ9_floorMod_7cf53, .initialized RJ9, .code yJ9_floorMod_7cf53 cJ9_floorMod_7cf53 3 (some .int), .methodLink RX6 22 yX5_become, .instanceMethod yX5_become, .selects RX5 yX5_become yX5_become, .initialized RX5, .code yX5_become cX5_become 2 none, .fieldLink RX5 11 "PageRounds$State" "cells" "[I", .fieldLink RX5 24 "PageRounds$State" "pages" "I", .methodLink RX5 28 arraycopyName, .native arraycopyName, .static arraycopyName, .initialized "java/lang/System", .fieldLink RX5 15 "PageRounds$State" "open" "[I", .fieldLink RX5 34 "PageRounds$State" "came" "I", .fieldLink RX5 37 "PageRounds$State" "lost" "I", .fieldLink RX5 40 "PageRounds$State" "mended" "I", .fieldLink RX5 43 "PageRounds$State" "headsTaken" "I"] ++ wsX60 ++ wsX50)
def wsX6_forget : List Cond := .code yX6_forget cX6_forget 1 none :: ([.fieldLink RX6 26 "PageRounds$Trail" "deeds" "I"] ++ wsX60)
def wsX7_init_r1 : List Cond := [Cond.methodLink RX7 1 objectInit, Cond.instanceMethod objectInit, Cond.code objectInit ⟨#[0xb1]⟩ 1 none, Cond.classLink RX7 7 RX5, Cond.instantiable RX5 8, Cond.initialized RX5, Cond.fieldLink RX7 10 "PageRounds" "state" "LPageRounds$State;", Cond.classLink RX7 16 RX6, Cond.instantiable RX6 3, Cond.initialized RX6, Cond.fieldLink RX7 19 "PageRounds" "trail" "LPageRounds$Trail;", Cond.fieldLink RX7 23 "PageRounds" "images" "[LPageRounds$State;", Cond.arrayClass .boolean, Cond.fieldLink RX7 27 "PageRounds" "kept" "[Z", Cond.classLink RX7 31 RX2, Cond.instantiable RX2 5, Cond.initialized RX2, Cond.fieldLink RX7 34 "PageRounds" "letterBook" "LPageRounds$LetterBook;", Cond.classLink RX7 38 RX4, Cond.instantiable RX4 7, Cond.initialized RX4, Cond.fieldLink RX7 41 "PageRounds" "rounds" "LPageRounds$Rounds;", Cond.arrayClass .int, Cond.fieldLink RX7 45 "PageRounds" "singles" "[I"]
def wsX7_init_r2 : List Cond := [Cond.fieldLink RX7 49 "PageRounds" "whole" "[I", Cond.methodLink RX7 9 yX5_init, Cond.instanceMethod yX5_init, Cond.code yX5_init cX5_init 1 none, Cond.methodLink RX5 5 objectInit, Cond.fieldLink RX5 11 "PageRounds$State" "cells" "[I", Cond.fieldLink RX5 15 "PageRounds$State" "open" "[I", Cond.methodLink RX5 18 yJ7_fill_53178, Cond.static yJ7_fill_53178, Cond.initialized RJ7, Cond.code yJ7_fill_53178 cJ7_fill_53178 4 none, Cond.methodLink RX7 18 yX6_init, Cond.instanceMethod yX6_init, Cond.code yX6_init cX6_init 2 none, Cond.methodLink RX6 3 objectInit, Cond.classLink RX6 9 RX5, Cond.fieldLink RX6 11 "PageRounds$Trail" "ahead" "[LPageRounds$State;", Cond.methodLink RX6 17 yX5_init, Cond.instanceMethod yX2_init, Cond.code yX2_init cX2_init 1 none, Cond.methodLink RX2 3 objectInit, Cond.fieldLink RX2 11 "PageRounds$LetterBook" "pages" "[I", Cond.fieldLink RX2 15 "PageRounds$LetterBook" "rows" "[I", Cond.fieldLink RX2 18 "PageRounds$LetterBook" "places" "[I"]
def wsX7_init_r3 : List Cond := [Cond.fieldLink RX2 21 "PageRounds$LetterBook" "letters" "[I", Cond.instanceMethod yX4_init, Cond.code yX4_init cX4_init 1 none, Cond.methodLink RX4 3 objectInit, Cond.fieldLink RX4 9 "PageRounds$Rounds" "lengths" "[I", Cond.fieldLink RX4 15 "PageRounds$Rounds" "weights" "[I", Cond.fieldLink RX4 18 "PageRounds$Rounds" "times" "[I", Cond.fieldLink RX4 21 "PageRounds$Rounds" "ends" "[I", Cond.fieldLink RX4 24 "PageRounds$Rounds" "waited" "[I"]
def wsX7_init : List Cond := .code yX7_init cX7_init 1 none :: ((wsX7_init_r1 ++ (wsX7_init_r2 ++ wsX7_init_r3)) ++ wsX50 ++ wsX70 ++ wsX60 ++ wsX20 ++ wsX40)
def wsX7_coded : List Cond := .code yX7_coded cX7_coded 2 (some .int) :: ([.constant RX7 62 (-1000000002), .methodLink RX7 52 yX7_isWithin, .static yX7_isWithin, .initialized RX7, .code yX7_isWithin cX7_isWithin 3 (some .boolean), .methodLink RX7 56 yX1_encode, .static yX1_encode, .initialized RX1, .code yX1_encode cX1_encode 1 (some .int), .fieldLink RX1 9 "PageRounds$Guard" "CODES" "[I"])
def wsX7_read : List Cond := .code yX7_read cX7_read 2 (some .int) :: ([.constant RX7 62 (-1000000002), .methodLink RX7 52 yX7_isWithin, .static yX7_isWithin, .initialized RX7, .code yX7_isWithin cX7_isWithin 3 (some .boolean), .methodLink RX7 63 yX1_decode, .static yX1_decode, .initialized RX1, .code yX1_decode cX1_decode 2 (some .int), .fieldLink RX1 9 "PageRounds$Guard" "CODES" "[I", .methodLink RX1 15 yJ6_bitCount_0f7a4, .static yJ6_bitCount_0f7a4, .initialized RJ6, .code yJ6_bitCount_0f7a4 cJ6_bitCount_0f7a4 1 (some .int), .constant RJ6 265 (1431655765), .constant RJ6 266 (858993459), .constant RJ6 267 (252645135)])
def wsX7_comes_r1 : List Cond := [Cond.fieldLink RX7 19 "PageRounds" "trail" "LPageRounds$Trail;", Cond.fieldLink RX7 10 "PageRounds" "state" "LPageRounds$State;", Cond.fieldLink RX7 81 "PageRounds$State" "came" "I", Cond.fieldLink RX7 84 "PageRounds$State" "lost" "I", Cond.methodLink RX7 144 yX6_remember, Cond.instanceMethod yX6_remember, Cond.selects RX6 yX6_remember yX6_remember, Cond.initialized RX6, Cond.code yX6_remember cX6_remember 2 none, Cond.fieldLink RX6 11 "PageRounds$Trail" "ahead" "[LPageRounds$State;", Cond.fieldLink RX6 18 "PageRounds$Trail" "next" "I", Cond.fieldLink RX6 26 "PageRounds$Trail" "deeds" "I", Cond.methodLink RX6 29 Lib.Math.min.name, Cond.static Lib.Math.min.name, Cond.initialized "java/lang/Math", Cond.code Lib.Math.min.name Lib.Math.min.code 2 (some .int), Cond.methodLink RX6 22 yX5_become, Cond.instanceMethod yX5_become, Cond.selects RX5 yX5_become yX5_become, Cond.initialized RX5, Cond.code yX5_become cX5_become 2 none, Cond.fieldLink RX5 11 "PageRounds$State" "cells" "[I", Cond.fieldLink RX5 24 "PageRounds$State" "pages" "I", Cond.methodLink RX5 28 arraycopyName]
def wsX7_comes_r2 : List Cond := [Cond.native arraycopyName, Cond.static arraycopyName, Cond.initialized "java/lang/System", Cond.fieldLink RX5 15 "PageRounds$State" "open" "[I", Cond.fieldLink RX5 34 "PageRounds$State" "came" "I", Cond.fieldLink RX5 37 "PageRounds$State" "lost" "I", Cond.fieldLink RX5 40 "PageRounds$State" "mended" "I", Cond.fieldLink RX5 43 "PageRounds$State" "headsTaken" "I", Cond.methodLink RX7 190 yX3_take, Cond.static yX3_take, Cond.initialized RX3, Cond.code yX3_take cX3_take 4 (some .boolean), Cond.fieldLink RX3 31 "PageRounds$State" "open" "[I", Cond.methodLink RX3 9 yX5_countMended, Cond.instanceMethod yX5_countMended, Cond.selects RX5 yX5_countMended yX5_countMended, Cond.code yX5_countMended cX5_countMended 6 none, Cond.constant RX5 65 (99999), Cond.methodLink RX5 56 yX1_decode, Cond.static yX1_decode, Cond.initialized RX1, Cond.code yX1_decode cX1_decode 2 (some .int), Cond.fieldLink RX1 9 "PageRounds$Guard" "CODES" "[I", Cond.methodLink RX1 15 yJ6_bitCount_0f7a4]
def wsX7_comes_r3 : List Cond := [Cond.static yJ6_bitCount_0f7a4, Cond.initialized RJ6, Cond.code yJ6_bitCount_0f7a4 cJ6_bitCount_0f7a4 1 (some .int), Cond.constant RJ6 265 (1431655765), Cond.constant RJ6 266 (858993459), Cond.constant RJ6 267 (252645135), Cond.methodLink RX5 62 yX1_encode, Cond.static yX1_encode, Cond.code yX1_encode cX1_encode 1 (some .int), Cond.methodLink RX3 15 yX1_decode, Cond.static yX7_isWithin, Cond.initialized RX7, Cond.code yX7_isWithin cX7_isWithin 3 (some .boolean), Cond.methodLink RX3 25 yX3_takeHead, Cond.static yX3_takeHead, Cond.code yX3_takeHead cX3_takeHead 7 (some .boolean), Cond.methodLink RX3 42 yX3_numberAt, Cond.static yX3_numberAt, Cond.code yX3_numberAt cX3_numberAt 5 (some .int), Cond.methodLink RX3 46 yX5_openPage, Cond.instanceMethod yX5_openPage, Cond.selects RX5 yX5_openPage yX5_openPage, Cond.code yX5_openPage cX5_openPage 5 (some .int), Cond.methodLink RX5 103 Lib.Math.min.name]
def wsX7_comes_r4 : List Cond := [Cond.methodLink RX5 88 yX5_search, Cond.instanceMethod yX5_search, Cond.selects RX5 yX5_search yX5_search, Cond.code yX5_search cX5_search 5 (some .int), Cond.methodLink RX5 70 yX5_get, Cond.instanceMethod yX5_get, Cond.selects RX5 yX5_get yX5_get, Cond.code yX5_get cX5_get 4 (some .int), Cond.methodLink RX5 92 yX5_longestAgo, Cond.instanceMethod yX5_longestAgo, Cond.selects RX5 yX5_longestAgo yX5_longestAgo, Cond.code yX5_longestAgo cX5_longestAgo 3 (some .int), Cond.methodLink RX5 96 yX5_remove, Cond.instanceMethod yX5_remove, Cond.selects RX5 yX5_remove yX5_remove, Cond.code yX5_remove cX5_remove 3 none, Cond.methodLink RX5 100 yX5_append, Cond.instanceMethod yX5_append, Cond.selects RX5 yX5_append yX5_append, Cond.code yX5_append cX5_append 5 (some .int), Cond.methodLink RX5 74 yX5_set, Cond.instanceMethod yX5_set, Cond.selects RX5 yX5_set yX5_set, Cond.code yX5_set cX5_set 5 none]
def wsX7_comes_r5 : List Cond := [Cond.methodLink RX5 108 yX5_clear, Cond.instanceMethod yX5_clear, Cond.selects RX5 yX5_clear yX5_clear, Cond.code yX5_clear cX5_clear 2 none, Cond.methodLink RX5 85 yJ7_fill_fda19, Cond.static yJ7_fill_fda19, Cond.initialized RJ7, Cond.code yJ7_fill_fda19 cJ7_fill_fda19 5 none, Cond.methodLink RJ7 13 yJ7_rangeCheck_23922, Cond.static yJ7_rangeCheck_23922, Cond.code yJ7_rangeCheck_23922 cJ7_rangeCheck_23922 3 none, Cond.methodLink RX3 50 yX5_clear, Cond.methodLink RX3 35 yX3_takeLinks, Cond.static yX3_takeLinks, Cond.code yX3_takeLinks cX3_takeLinks 5 (some .boolean), Cond.methodLink RX3 54 yX5_has, Cond.instanceMethod yX5_has, Cond.selects RX5 yX5_has yX5_has, Cond.code yX5_has cX5_has 2 (some .boolean), Cond.methodLink RX3 58 yX5_putLink, Cond.instanceMethod yX5_putLink, Cond.selects RX5 yX5_putLink yX5_putLink, Cond.code yX5_putLink cX5_putLink 4 none, Cond.methodLink RX3 38 yX3_takeRow]
def wsX7_comes_r6 : List Cond := [Cond.static yX3_takeRow, Cond.code yX3_takeRow cX3_takeRow 5 (some .boolean), Cond.methodLink RX3 62 yX5_putLetter, Cond.instanceMethod yX5_putLetter, Cond.selects RX5 yX5_putLetter yX5_putLetter, Cond.code yX5_putLetter cX5_putLetter 7 none, Cond.methodLink RX5 78 yX1_isWell, Cond.static yX1_isWell, Cond.code yX1_isWell cX1_isWell 1 (some .boolean), Cond.methodLink RX5 82 yX5_isSure, Cond.static yX5_isSure, Cond.code yX5_isSure cX5_isSure 1 (some .boolean)]
def wsX7_comes : List Cond := .code yX7_comes cX7_comes 3 (some .boolean) :: ((wsX7_comes_r1 ++ (wsX7_comes_r2 ++ (wsX7_comes_r3 ++ (wsX7_comes_r4 ++ (wsX7_comes_r5 ++ wsX7_comes_r6))))) ++ wsX70 ++ wsX50 ++ wsX60)
def wsX7_octet_r1 : List Cond := [Cond.fieldLink RX7 66 "PageRounds" "singlesCame" "I", Cond.constant RX7 62 (-1000000002), Cond.fieldLink RX7 45 "PageRounds" "singles" "[I", Cond.methodLink RX7 52 yX7_isWithin, Cond.static yX7_isWithin, Cond.initialized RX7, Cond.code yX7_isWithin cX7_isWithin 3 (some .boolean), Cond.methodLink RX7 70 yX7_comes, Cond.instanceMethod yX7_comes, Cond.selects RX7 yX7_comes yX7_comes, Cond.code yX7_comes cX7_comes 3 (some .boolean), Cond.fieldLink RX7 19 "PageRounds" "trail" "LPageRounds$Trail;", Cond.fieldLink RX7 10 "PageRounds" "state" "LPageRounds$State;", Cond.fieldLink RX7 81 "PageRounds$State" "came" "I", Cond.fieldLink RX7 84 "PageRounds$State" "lost" "I", Cond.methodLink RX7 144 yX6_remember, Cond.instanceMethod yX6_remember, Cond.selects RX6 yX6_remember yX6_remember, Cond.initialized RX6, Cond.code yX6_remember cX6_remember 2 none, Cond.fieldLink RX6 11 "PageRounds$Trail" "ahead" "[LPageRounds$State;", Cond.fieldLink RX6 18 "PageRounds$Trail" "next" "I", Cond.fieldLink RX6 26 "PageRounds$Trail" "deeds" "I", Cond.methodLink RX6 29 Lib.Math.min.name]
def wsX7_octet_r2 : List Cond := [Cond.static Lib.Math.min.name, Cond.initialized "java/lang/Math", Cond.code Lib.Math.min.name Lib.Math.min.code 2 (some .int), Cond.methodLink RX6 22 yX5_become, Cond.instanceMethod yX5_become, Cond.selects RX5 yX5_become yX5_become, Cond.initialized RX5, Cond.code yX5_become cX5_become 2 none, Cond.fieldLink RX5 11 "PageRounds$State" "cells" "[I", Cond.fieldLink RX5 24 "PageRounds$State" "pages" "I", Cond.methodLink RX5 28 arraycopyName, Cond.native arraycopyName, Cond.static arraycopyName, Cond.initialized "java/lang/System", Cond.fieldLink RX5 15 "PageRounds$State" "open" "[I", Cond.fieldLink RX5 34 "PageRounds$State" "came" "I", Cond.fieldLink RX5 37 "PageRounds$State" "lost" "I", Cond.fieldLink RX5 40 "PageRounds$State" "mended" "I", Cond.fieldLink RX5 43 "PageRounds$State" "headsTaken" "I", Cond.methodLink RX7 190 yX3_take, Cond.static yX3_take, Cond.initialized RX3, Cond.code yX3_take cX3_take 4 (some .boolean), Cond.fieldLink RX3 31 "PageRounds$State" "open" "[I"]
def wsX7_octet_r3 : List Cond := [Cond.methodLink RX3 9 yX5_countMended, Cond.instanceMethod yX5_countMended, Cond.selects RX5 yX5_countMended yX5_countMended, Cond.code yX5_countMended cX5_countMended 6 none, Cond.constant RX5 65 (99999), Cond.methodLink RX5 56 yX1_decode, Cond.static yX1_decode, Cond.initialized RX1, Cond.code yX1_decode cX1_decode 2 (some .int), Cond.fieldLink RX1 9 "PageRounds$Guard" "CODES" "[I", Cond.methodLink RX1 15 yJ6_bitCount_0f7a4, Cond.static yJ6_bitCount_0f7a4, Cond.initialized RJ6, Cond.code yJ6_bitCount_0f7a4 cJ6_bitCount_0f7a4 1 (some .int), Cond.constant RJ6 265 (1431655765), Cond.constant RJ6 266 (858993459), Cond.constant RJ6 267 (252645135), Cond.methodLink RX5 62 yX1_encode, Cond.static yX1_encode, Cond.code yX1_encode cX1_encode 1 (some .int), Cond.methodLink RX3 15 yX1_decode, Cond.methodLink RX3 25 yX3_takeHead, Cond.static yX3_takeHead, Cond.code yX3_takeHead cX3_takeHead 7 (some .boolean)]
def wsX7_octet_r4 : List Cond := [Cond.methodLink RX3 42 yX3_numberAt, Cond.static yX3_numberAt, Cond.code yX3_numberAt cX3_numberAt 5 (some .int), Cond.methodLink RX3 46 yX5_openPage, Cond.instanceMethod yX5_openPage, Cond.selects RX5 yX5_openPage yX5_openPage, Cond.code yX5_openPage cX5_openPage 5 (some .int), Cond.methodLink RX5 103 Lib.Math.min.name, Cond.methodLink RX5 88 yX5_search, Cond.instanceMethod yX5_search, Cond.selects RX5 yX5_search yX5_search, Cond.code yX5_search cX5_search 5 (some .int), Cond.methodLink RX5 70 yX5_get, Cond.instanceMethod yX5_get, Cond.selects RX5 yX5_get yX5_get, Cond.code yX5_get cX5_get 4 (some .int), Cond.methodLink RX5 92 yX5_longestAgo, Cond.instanceMethod yX5_longestAgo, Cond.selects RX5 yX5_longestAgo yX5_longestAgo, Cond.code yX5_longestAgo cX5_longestAgo 3 (some .int), Cond.methodLink RX5 96 yX5_remove, Cond.instanceMethod yX5_remove, Cond.selects RX5 yX5_remove yX5_remove, Cond.code yX5_remove cX5_remove 3 none]
def wsX7_octet_r5 : List Cond := [Cond.methodLink RX5 100 yX5_append, Cond.instanceMethod yX5_append, Cond.selects RX5 yX5_append yX5_append, Cond.code yX5_append cX5_append 5 (some .int), Cond.methodLink RX5 74 yX5_set, Cond.instanceMethod yX5_set, Cond.selects RX5 yX5_set yX5_set, Cond.code yX5_set cX5_set 5 none, Cond.methodLink RX5 108 yX5_clear, Cond.instanceMethod yX5_clear, Cond.selects RX5 yX5_clear yX5_clear, Cond.code yX5_clear cX5_clear 2 none, Cond.methodLink RX5 85 yJ7_fill_fda19, Cond.static yJ7_fill_fda19, Cond.initialized RJ7, Cond.code yJ7_fill_fda19 cJ7_fill_fda19 5 none, Cond.methodLink RJ7 13 yJ7_rangeCheck_23922, Cond.static yJ7_rangeCheck_23922, Cond.code yJ7_rangeCheck_23922 cJ7_rangeCheck_23922 3 none, Cond.methodLink RX3 50 yX5_clear, Cond.methodLink RX3 35 yX3_takeLinks, Cond.static yX3_takeLinks, Cond.code yX3_takeLinks cX3_takeLinks 5 (some .boolean), Cond.methodLink RX3 54 yX5_has]
def wsX7_octet_r6 : List Cond := [Cond.instanceMethod yX5_has, Cond.selects RX5 yX5_has yX5_has, Cond.code yX5_has cX5_has 2 (some .boolean), Cond.methodLink RX3 58 yX5_putLink, Cond.instanceMethod yX5_putLink, Cond.selects RX5 yX5_putLink yX5_putLink, Cond.code yX5_putLink cX5_putLink 4 none, Cond.methodLink RX3 38 yX3_takeRow, Cond.static yX3_takeRow, Cond.code yX3_takeRow cX3_takeRow 5 (some .boolean), Cond.methodLink RX3 62 yX5_putLetter, Cond.instanceMethod yX5_putLetter, Cond.selects RX5 yX5_putLetter yX5_putLetter, Cond.code yX5_putLetter cX5_putLetter 7 none, Cond.methodLink RX5 78 yX1_isWell, Cond.static yX1_isWell, Cond.code yX1_isWell cX1_isWell 1 (some .boolean), Cond.methodLink RX5 82 yX5_isSure, Cond.static yX5_isSure, Cond.code yX5_isSure cX5_isSure 1 (some .boolean)]
def wsX7_octet : List Cond := .code yX7_octet cX7_octet 2 (some .int) :: ((wsX7_octet_r1 ++ (wsX7_octet_r2 ++ (wsX7_octet_r3 ++ (wsX7_octet_r4 ++ (wsX7_octet_r5 ++ wsX7_octet_r6))))) ++ wsX70 ++ wsX50 ++ wsX60)
def wsX7_bodyOctet : List Cond := .code yX7_bodyOctet cX7_bodyOctet 2 (some .int) :: ([.methodLink RX7 56 yX1_encode, .static yX1_encode, .initialized RX1, .code yX1_encode cX1_encode 1 (some .int), .fieldLink RX1 9 "PageRounds$Guard" "CODES" "[I", .methodLink RX7 196 yX1_oddOctet, .static yX1_oddOctet, .code yX1_oddOctet cX1_oddOctet 1 (some .int), .methodLink RX1 21 yX1_isWell, .static yX1_isWell, .code yX1_isWell cX1_isWell 1 (some .boolean), .methodLink RX1 15 yJ6_bitCount_0f7a4, .static yJ6_bitCount_0f7a4, .initialized RJ6, .code yJ6_bitCount_0f7a4 cJ6_bitCount_0f7a4 1 (some .int), .constant RJ6 265 (1431655765), .constant RJ6 266 (858993459), .constant RJ6 267 (252645135)])
def wsX7_packet_r1 : List Cond := [Cond.constant RX7 62 (-1000000002), Cond.fieldLink RX7 49 "PageRounds" "whole" "[I", Cond.methodLink RX7 52 yX7_isWithin, Cond.static yX7_isWithin, Cond.initialized RX7, Cond.code yX7_isWithin cX7_isWithin 3 (some .boolean), Cond.methodLink RX7 56 yX1_encode, Cond.static yX1_encode, Cond.initialized RX1, Cond.code yX1_encode cX1_encode 1 (some .int), Cond.fieldLink RX1 9 "PageRounds$Guard" "CODES" "[I", Cond.methodLink RX7 74 yX7_bodyOctet, Cond.static yX7_bodyOctet, Cond.code yX7_bodyOctet cX7_bodyOctet 2 (some .int), Cond.methodLink RX7 196 yX1_oddOctet, Cond.static yX1_oddOctet, Cond.code yX1_oddOctet cX1_oddOctet 1 (some .int), Cond.methodLink RX1 21 yX1_isWell, Cond.static yX1_isWell, Cond.code yX1_isWell cX1_isWell 1 (some .boolean), Cond.methodLink RX1 15 yJ6_bitCount_0f7a4, Cond.static yJ6_bitCount_0f7a4, Cond.initialized RJ6, Cond.code yJ6_bitCount_0f7a4 cJ6_bitCount_0f7a4 1 (some .int)]
def wsX7_packet_r2 : List Cond := [Cond.constant RJ6 265 (1431655765), Cond.constant RJ6 266 (858993459), Cond.constant RJ6 267 (252645135), Cond.methodLink RX7 70 yX7_comes, Cond.instanceMethod yX7_comes, Cond.selects RX7 yX7_comes yX7_comes, Cond.code yX7_comes cX7_comes 3 (some .boolean), Cond.fieldLink RX7 19 "PageRounds" "trail" "LPageRounds$Trail;", Cond.fieldLink RX7 10 "PageRounds" "state" "LPageRounds$State;", Cond.fieldLink RX7 81 "PageRounds$State" "came" "I", Cond.fieldLink RX7 84 "PageRounds$State" "lost" "I", Cond.methodLink RX7 144 yX6_remember, Cond.instanceMethod yX6_remember, Cond.selects RX6 yX6_remember yX6_remember, Cond.initialized RX6, Cond.code yX6_remember cX6_remember 2 none, Cond.fieldLink RX6 11 "PageRounds$Trail" "ahead" "[LPageRounds$State;", Cond.fieldLink RX6 18 "PageRounds$Trail" "next" "I", Cond.fieldLink RX6 26 "PageRounds$Trail" "deeds" "I", Cond.methodLink RX6 29 Lib.Math.min.name, Cond.static Lib.Math.min.name, Cond.initialized "java/lang/Math", Cond.code Lib.Math.min.name Lib.Math.min.code 2 (some .int), Cond.methodLink RX6 22 yX5_become]
def wsX7_packet_r3 : List Cond := [Cond.instanceMethod yX5_become, Cond.selects RX5 yX5_become yX5_become, Cond.initialized RX5, Cond.code yX5_become cX5_become 2 none, Cond.fieldLink RX5 11 "PageRounds$State" "cells" "[I", Cond.fieldLink RX5 24 "PageRounds$State" "pages" "I", Cond.methodLink RX5 28 arraycopyName, Cond.native arraycopyName, Cond.static arraycopyName, Cond.initialized "java/lang/System", Cond.fieldLink RX5 15 "PageRounds$State" "open" "[I", Cond.fieldLink RX5 34 "PageRounds$State" "came" "I", Cond.fieldLink RX5 37 "PageRounds$State" "lost" "I", Cond.fieldLink RX5 40 "PageRounds$State" "mended" "I", Cond.fieldLink RX5 43 "PageRounds$State" "headsTaken" "I", Cond.methodLink RX7 190 yX3_take, Cond.static yX3_take, Cond.initialized RX3, Cond.code yX3_take cX3_take 4 (some .boolean), Cond.fieldLink RX3 31 "PageRounds$State" "open" "[I", Cond.methodLink RX3 9 yX5_countMended, Cond.instanceMethod yX5_countMended, Cond.selects RX5 yX5_countMended yX5_countMended, Cond.code yX5_countMended cX5_countMended 6 none]
def wsX7_packet_r4 : List Cond := [Cond.constant RX5 65 (99999), Cond.methodLink RX5 56 yX1_decode, Cond.static yX1_decode, Cond.code yX1_decode cX1_decode 2 (some .int), Cond.methodLink RX5 62 yX1_encode, Cond.methodLink RX3 15 yX1_decode, Cond.methodLink RX3 25 yX3_takeHead, Cond.static yX3_takeHead, Cond.code yX3_takeHead cX3_takeHead 7 (some .boolean), Cond.methodLink RX3 42 yX3_numberAt, Cond.static yX3_numberAt, Cond.code yX3_numberAt cX3_numberAt 5 (some .int), Cond.methodLink RX3 46 yX5_openPage, Cond.instanceMethod yX5_openPage, Cond.selects RX5 yX5_openPage yX5_openPage, Cond.code yX5_openPage cX5_openPage 5 (some .int), Cond.methodLink RX5 103 Lib.Math.min.name, Cond.methodLink RX5 88 yX5_search, Cond.instanceMethod yX5_search, Cond.selects RX5 yX5_search yX5_search, Cond.code yX5_search cX5_search 5 (some .int), Cond.methodLink RX5 70 yX5_get, Cond.instanceMethod yX5_get, Cond.selects RX5 yX5_get yX5_get]
def wsX7_packet_r5 : List Cond := [Cond.code yX5_get cX5_get 4 (some .int), Cond.methodLink RX5 92 yX5_longestAgo, Cond.instanceMethod yX5_longestAgo, Cond.selects RX5 yX5_longestAgo yX5_longestAgo, Cond.code yX5_longestAgo cX5_longestAgo 3 (some .int), Cond.methodLink RX5 96 yX5_remove, Cond.instanceMethod yX5_remove, Cond.selects RX5 yX5_remove yX5_remove, Cond.code yX5_remove cX5_remove 3 none, Cond.methodLink RX5 100 yX5_append, Cond.instanceMethod yX5_append, Cond.selects RX5 yX5_append yX5_append, Cond.code yX5_append cX5_append 5 (some .int), Cond.methodLink RX5 74 yX5_set, Cond.instanceMethod yX5_set, Cond.selects RX5 yX5_set yX5_set, Cond.code yX5_set cX5_set 5 none, Cond.methodLink RX5 108 yX5_clear, Cond.instanceMethod yX5_clear, Cond.selects RX5 yX5_clear yX5_clear, Cond.code yX5_clear cX5_clear 2 none, Cond.methodLink RX5 85 yJ7_fill_fda19, Cond.static yJ7_fill_fda19, Cond.initialized RJ7]
def wsX7_packet_r6 : List Cond := [Cond.code yJ7_fill_fda19 cJ7_fill_fda19 5 none, Cond.methodLink RJ7 13 yJ7_rangeCheck_23922, Cond.static yJ7_rangeCheck_23922, Cond.code yJ7_rangeCheck_23922 cJ7_rangeCheck_23922 3 none, Cond.methodLink RX3 50 yX5_clear, Cond.methodLink RX3 35 yX3_takeLinks, Cond.static yX3_takeLinks, Cond.code yX3_takeLinks cX3_takeLinks 5 (some .boolean), Cond.methodLink RX3 54 yX5_has, Cond.instanceMethod yX5_has, Cond.selects RX5 yX5_has yX5_has, Cond.code yX5_has cX5_has 2 (some .boolean), Cond.methodLink RX3 58 yX5_putLink, Cond.instanceMethod yX5_putLink, Cond.selects RX5 yX5_putLink yX5_putLink, Cond.code yX5_putLink cX5_putLink 4 none, Cond.methodLink RX3 38 yX3_takeRow, Cond.static yX3_takeRow, Cond.code yX3_takeRow cX3_takeRow 5 (some .boolean), Cond.methodLink RX3 62 yX5_putLetter, Cond.instanceMethod yX5_putLetter, Cond.selects RX5 yX5_putLetter yX5_putLetter, Cond.code yX5_putLetter cX5_putLetter 7 none, Cond.methodLink RX5 78 yX1_isWell]
def wsX7_packet_r7 : List Cond := [Cond.methodLink RX5 82 yX5_isSure, Cond.static yX5_isSure, Cond.code yX5_isSure cX5_isSure 1 (some .boolean)]
def wsX7_packet : List Cond := .code yX7_packet cX7_packet 7 (some .int) :: ((wsX7_packet_r1 ++ (wsX7_packet_r2 ++ (wsX7_packet_r3 ++ (wsX7_packet_r4 ++ (wsX7_packet_r5 ++ (wsX7_packet_r6 ++ wsX7_packet_r7)))))) ++ wsX70 ++ wsX50 ++ wsX60)
def wsX7_told_r1 : List Cond := [Cond.fieldLink RX7 10 "PageRounds" "state" "LPageRounds$State;", Cond.fieldLink RX7 78 "PageRounds$State" "pages" "I", Cond.fieldLink RX7 81 "PageRounds$State" "came" "I", Cond.fieldLink RX7 84 "PageRounds$State" "lost" "I", Cond.fieldLink RX7 87 "PageRounds$State" "mended" "I", Cond.fieldLink RX7 66 "PageRounds" "singlesCame" "I", Cond.fieldLink RX7 34 "PageRounds" "letterBook" "LPageRounds$LetterBook;", Cond.fieldLink RX7 90 "PageRounds$LetterBook" "entries" "I", Cond.fieldLink RX7 19 "PageRounds" "trail" "LPageRounds$Trail;", Cond.fieldLink RX7 97 "PageRounds$Trail" "deeds" "I", Cond.constant RX7 62 (-1000000002), Cond.methodLink RX7 93 yX2_firstWrong, Cond.instanceMethod yX2_firstWrong, Cond.selects RX2 yX2_firstWrong yX2_firstWrong, Cond.initialized RX2, Cond.code yX2_firstWrong cX2_firstWrong 3 (some .int), Cond.fieldLink RX2 24 "PageRounds$LetterBook" "entries" "I", Cond.methodLink RX2 32 yX2_isRight, Cond.instanceMethod yX2_isRight, Cond.selects RX2 yX2_isRight yX2_isRight, Cond.code yX2_isRight cX2_isRight 4 (some .boolean), Cond.fieldLink RX2 11 "PageRounds$LetterBook" "pages" "[I", Cond.fieldLink RX2 15 "PageRounds$LetterBook" "rows" "[I", Cond.fieldLink RX2 18 "PageRounds$LetterBook" "places" "[I"]
def wsX7_told_r2 : List Cond := [Cond.fieldLink RX2 21 "PageRounds$LetterBook" "letters" "[I", Cond.methodLink RX2 36 yX5_has, Cond.instanceMethod yX5_has, Cond.selects RX5 yX5_has yX5_has, Cond.initialized RX5, Cond.code yX5_has cX5_has 2 (some .boolean), Cond.fieldLink RX5 24 "PageRounds$State" "pages" "I", Cond.static yX7_isWithin, Cond.initialized RX7, Cond.code yX7_isWithin cX7_isWithin 3 (some .boolean), Cond.methodLink RX2 42 yX5_letterAt, Cond.instanceMethod yX5_letterAt, Cond.selects RX5 yX5_letterAt yX5_letterAt, Cond.code yX5_letterAt cX5_letterAt 4 (some .int), Cond.methodLink RX5 70 yX5_get, Cond.instanceMethod yX5_get, Cond.selects RX5 yX5_get yX5_get, Cond.code yX5_get cX5_get 4 (some .int), Cond.fieldLink RX5 11 "PageRounds$State" "cells" "[I"]
def wsX7_told : List Cond := .code yX7_told cX7_told 2 (some .int) :: ((wsX7_told_r1 ++ wsX7_told_r2) ++ wsX70 ++ wsX50 ++ wsX20 ++ wsX60)
def wsX7_open : List Cond := .code yX7_open cX7_open 2 (some .int) :: ([.fieldLink RX7 10 "PageRounds" "state" "LPageRounds$State;", .fieldLink RX7 100 "PageRounds$State" "open" "[I", .constant RX7 103 (-1000000001), .methodLink RX7 52 yX7_isWithin, .static yX7_isWithin, .initialized RX7, .code yX7_isWithin cX7_isWithin 3 (some .boolean)] ++ wsX70 ++ wsX50)
def wsX7_page_r1 : List Cond := [Cond.fieldLink RX7 10 "PageRounds" "state" "LPageRounds$State;", Cond.constant RX7 103 (-1000000001), Cond.constant RX7 62 (-1000000002), Cond.methodLink RX7 104 yX5_has, Cond.instanceMethod yX5_has, Cond.selects RX5 yX5_has yX5_has, Cond.initialized RX5, Cond.code yX5_has cX5_has 2 (some .boolean), Cond.fieldLink RX5 24 "PageRounds$State" "pages" "I", Cond.static yX7_isWithin, Cond.initialized RX7, Cond.code yX7_isWithin cX7_isWithin 3 (some .boolean), Cond.methodLink RX7 108 yX5_get, Cond.instanceMethod yX5_get, Cond.selects RX5 yX5_get yX5_get, Cond.code yX5_get cX5_get 4 (some .int), Cond.fieldLink RX5 11 "PageRounds$State" "cells" "[I", Cond.methodLink RX7 111 yX0_length, Cond.static yX0_length, Cond.initialized RX0, Cond.code yX0_length cX0_length 3 (some .int), Cond.methodLink RX0 9 yX0_lacks, Cond.static yX0_lacks, Cond.code yX0_lacks cX0_lacks 4 (some .int)]
def wsX7_page_r2 : List Cond := [Cond.methodLink RX0 25 yX0_hasLetters, Cond.static yX0_hasLetters, Cond.code yX0_hasLetters cX0_hasLetters 4 (some .boolean), Cond.methodLink RX0 29 yX5_letterAt, Cond.instanceMethod yX5_letterAt, Cond.selects RX5 yX5_letterAt yX5_letterAt, Cond.code yX5_letterAt cX5_letterAt 4 (some .int), Cond.methodLink RX5 70 yX5_get, Cond.methodLink RX0 15 yJ6_bitCount_0f7a4, Cond.static yJ6_bitCount_0f7a4, Cond.initialized RJ6, Cond.code yJ6_bitCount_0f7a4 cJ6_bitCount_0f7a4 1 (some .int), Cond.constant RJ6 265 (1431655765), Cond.constant RJ6 266 (858993459), Cond.constant RJ6 267 (252645135), Cond.methodLink RX0 21 yX0_hasLinks, Cond.static yX0_hasLinks, Cond.code yX0_hasLinks cX0_hasLinks 3 (some .boolean), Cond.methodLink RX0 56 yX5_linkAt, Cond.instanceMethod yX5_linkAt, Cond.selects RX5 yX5_linkAt yX5_linkAt, Cond.code yX5_linkAt cX5_linkAt 3 (some .int), Cond.methodLink RX7 117 yX0_lacks, Cond.methodLink RX7 120 yX0_sureOnes]
def wsX7_page_r3 : List Cond := [Cond.static yX0_sureOnes, Cond.code yX0_sureOnes cX0_sureOnes 5 (some .int), Cond.methodLink RX0 35 yX5_isSure, Cond.static yX5_isSure, Cond.code yX5_isSure cX5_isSure 1 (some .boolean), Cond.methodLink RX7 123 yX0_linked, Cond.static yX0_linked, Cond.code yX0_linked cX0_linked 4 (some .int), Cond.fieldLink RX0 39 "PageRounds$State" "pages" "I", Cond.methodLink RX0 43 yX0_leadsTo, Cond.static yX0_leadsTo, Cond.code yX0_leadsTo cX0_leadsTo 5 (some .boolean), Cond.methodLink RX0 52 yX5_get]
def wsX7_page : List Cond := .code yX7_page cX7_page 3 (some .int) :: ((wsX7_page_r1 ++ (wsX7_page_r2 ++ wsX7_page_r3)) ++ wsX70 ++ wsX50)
def wsX7_isPlace : List Cond := .code yX7_isPlace cX7_isPlace 2 (some .boolean) :: ([.methodLink RX7 52 yX7_isWithin, .static yX7_isWithin, .initialized RX7, .code yX7_isWithin cX7_isWithin 3 (some .boolean)])
def wsX7_letter_r1 : List Cond := [Cond.fieldLink RX7 10 "PageRounds" "state" "LPageRounds$State;", Cond.constant RX7 103 (-1000000001), Cond.constant RX7 62 (-1000000002), Cond.methodLink RX7 104 yX5_has, Cond.instanceMethod yX5_has, Cond.selects RX5 yX5_has yX5_has, Cond.initialized RX5, Cond.code yX5_has cX5_has 2 (some .boolean), Cond.fieldLink RX5 24 "PageRounds$State" "pages" "I", Cond.static yX7_isWithin, Cond.initialized RX7, Cond.code yX7_isWithin cX7_isWithin 3 (some .boolean), Cond.methodLink RX7 126 yX7_isPlace, Cond.static yX7_isPlace, Cond.code yX7_isPlace cX7_isPlace 2 (some .boolean), Cond.methodLink RX7 52 yX7_isWithin, Cond.methodLink RX7 130 yX5_letterAt, Cond.instanceMethod yX5_letterAt, Cond.selects RX5 yX5_letterAt yX5_letterAt, Cond.code yX5_letterAt cX5_letterAt 4 (some .int), Cond.methodLink RX5 70 yX5_get, Cond.instanceMethod yX5_get, Cond.selects RX5 yX5_get yX5_get, Cond.code yX5_get cX5_get 4 (some .int)]
def wsX7_letter_r2 : List Cond := [Cond.fieldLink RX5 11 "PageRounds$State" "cells" "[I"]
def wsX7_letter : List Cond := .code yX7_letter cX7_letter 4 (some .int) :: ((wsX7_letter_r1 ++ wsX7_letter_r2) ++ wsX70 ++ wsX50)
def wsX7_link : List Cond := .code yX7_link cX7_link 3 (some .int) :: ([.fieldLink RX7 10 "PageRounds" "state" "LPageRounds$State;", .constant RX7 103 (-1000000001), .constant RX7 62 (-1000000002), .methodLink RX7 104 yX5_has, .instanceMethod yX5_has, .selects RX5 yX5_has yX5_has, .initialized RX5, .code yX5_has cX5_has 2 (some .boolean), .fieldLink RX5 24 "PageRounds$State" "pages" "I", .static yX7_isWithin, .initialized RX7, .code yX7_isWithin cX7_isWithin 3 (some .boolean), .methodLink RX7 52 yX7_isWithin, .methodLink RX7 134 yX5_linkAt, .instanceMethod yX5_linkAt, .selects RX5 yX5_linkAt yX5_linkAt, .code yX5_linkAt cX5_linkAt 3 (some .int), .methodLink RX5 70 yX5_get, .instanceMethod yX5_get, .selects RX5 yX5_get yX5_get, .code yX5_get cX5_get 4 (some .int), .fieldLink RX5 11 "PageRounds$State" "cells" "[I"] ++ wsX70 ++ wsX50)
def wsX7_far_r1 : List Cond := [Cond.fieldLink RX7 10 "PageRounds" "state" "LPageRounds$State;", Cond.constant RX7 103 (-1000000001), Cond.methodLink RX7 104 yX5_has, Cond.instanceMethod yX5_has, Cond.selects RX5 yX5_has yX5_has, Cond.initialized RX5, Cond.code yX5_has cX5_has 2 (some .boolean), Cond.fieldLink RX5 24 "PageRounds$State" "pages" "I", Cond.static yX7_isWithin, Cond.initialized RX7, Cond.code yX7_isWithin cX7_isWithin 3 (some .boolean), Cond.methodLink RX7 137 yX0_steps, Cond.static yX0_steps, Cond.initialized RX0, Cond.code yX0_steps cX0_steps 5 (some .int), Cond.methodLink RX0 46 yX0_linkedFromAny, Cond.static yX0_linkedFromAny, Cond.code yX0_linkedFromAny cX0_linkedFromAny 4 (some .int), Cond.fieldLink RX0 39 "PageRounds$State" "pages" "I", Cond.methodLink RX0 49 yX0_linked, Cond.static yX0_linked, Cond.code yX0_linked cX0_linked 4 (some .int), Cond.methodLink RX0 43 yX0_leadsTo, Cond.static yX0_leadsTo]
def wsX7_far_r2 : List Cond := [Cond.code yX0_leadsTo cX0_leadsTo 5 (some .boolean), Cond.methodLink RX0 52 yX5_get, Cond.instanceMethod yX5_get, Cond.selects RX5 yX5_get yX5_get, Cond.code yX5_get cX5_get 4 (some .int), Cond.fieldLink RX5 11 "PageRounds$State" "cells" "[I", Cond.methodLink RX0 56 yX5_linkAt, Cond.instanceMethod yX5_linkAt, Cond.selects RX5 yX5_linkAt yX5_linkAt, Cond.code yX5_linkAt cX5_linkAt 3 (some .int), Cond.methodLink RX5 70 yX5_get]
def wsX7_far : List Cond := .code yX7_far cX7_far 3 (some .int) :: ((wsX7_far_r1 ++ wsX7_far_r2) ++ wsX70 ++ wsX50)
def wsX7_find : List Cond := .code yX7_find cX7_find 4 (some .int) :: ([.fieldLink RX7 10 "PageRounds" "state" "LPageRounds$State;", .methodLink RX7 141 yX5_search, .instanceMethod yX5_search, .selects RX5 yX5_search yX5_search, .initialized RX5, .code yX5_search cX5_search 5 (some .int), .fieldLink RX5 24 "PageRounds$State" "pages" "I", .methodLink RX5 70 yX5_get, .instanceMethod yX5_get, .selects RX5 yX5_get yX5_get, .code yX5_get cX5_get 4 (some .int), .fieldLink RX5 11 "PageRounds$State" "cells" "[I"] ++ wsX70 ++ wsX50)
def wsX7_weight_r1 : List Cond := [Cond.fieldLink RX7 10 "PageRounds" "state" "LPageRounds$State;", Cond.constant RX7 103 (-1000000001), Cond.constant RX7 62 (-1000000002), Cond.fieldLink RX7 19 "PageRounds" "trail" "LPageRounds$Trail;", Cond.methodLink RX7 104 yX5_has, Cond.instanceMethod yX5_has, Cond.selects RX5 yX5_has yX5_has, Cond.initialized RX5, Cond.code yX5_has cX5_has 2 (some .boolean), Cond.fieldLink RX5 24 "PageRounds$State" "pages" "I", Cond.static yX7_isWithin, Cond.initialized RX7, Cond.code yX7_isWithin cX7_isWithin 3 (some .boolean), Cond.methodLink RX7 52 yX7_isWithin, Cond.methodLink RX7 144 yX6_remember, Cond.instanceMethod yX6_remember, Cond.selects RX6 yX6_remember yX6_remember, Cond.initialized RX6, Cond.code yX6_remember cX6_remember 2 none, Cond.fieldLink RX6 11 "PageRounds$Trail" "ahead" "[LPageRounds$State;", Cond.fieldLink RX6 18 "PageRounds$Trail" "next" "I", Cond.fieldLink RX6 26 "PageRounds$Trail" "deeds" "I", Cond.methodLink RX6 29 Lib.Math.min.name, Cond.static Lib.Math.min.name]
def wsX7_weight_r2 : List Cond := [Cond.initialized "java/lang/Math", Cond.code Lib.Math.min.name Lib.Math.min.code 2 (some .int), Cond.methodLink RX6 22 yX5_become, Cond.instanceMethod yX5_become, Cond.selects RX5 yX5_become yX5_become, Cond.code yX5_become cX5_become 2 none, Cond.fieldLink RX5 11 "PageRounds$State" "cells" "[I", Cond.methodLink RX5 28 arraycopyName, Cond.native arraycopyName, Cond.static arraycopyName, Cond.initialized "java/lang/System", Cond.fieldLink RX5 15 "PageRounds$State" "open" "[I", Cond.fieldLink RX5 34 "PageRounds$State" "came" "I", Cond.fieldLink RX5 37 "PageRounds$State" "lost" "I", Cond.fieldLink RX5 40 "PageRounds$State" "mended" "I", Cond.fieldLink RX5 43 "PageRounds$State" "headsTaken" "I", Cond.methodLink RX7 108 yX5_get, Cond.instanceMethod yX5_get, Cond.selects RX5 yX5_get yX5_get, Cond.code yX5_get cX5_get 4 (some .int), Cond.methodLink RX7 148 yX5_set, Cond.instanceMethod yX5_set, Cond.selects RX5 yX5_set yX5_set, Cond.code yX5_set cX5_set 5 none]
def wsX7_weight : List Cond := .code yX7_weight cX7_weight 4 (some .int) :: ((wsX7_weight_r1 ++ wsX7_weight_r2) ++ wsX70 ++ wsX50 ++ wsX60)
def wsX7_drop_r1 : List Cond := [Cond.fieldLink RX7 10 "PageRounds" "state" "LPageRounds$State;", Cond.constant RX7 103 (-1000000001), Cond.fieldLink RX7 19 "PageRounds" "trail" "LPageRounds$Trail;", Cond.fieldLink RX7 78 "PageRounds$State" "pages" "I", Cond.methodLink RX7 104 yX5_has, Cond.instanceMethod yX5_has, Cond.selects RX5 yX5_has yX5_has, Cond.initialized RX5, Cond.code yX5_has cX5_has 2 (some .boolean), Cond.fieldLink RX5 24 "PageRounds$State" "pages" "I", Cond.static yX7_isWithin, Cond.initialized RX7, Cond.code yX7_isWithin cX7_isWithin 3 (some .boolean), Cond.methodLink RX7 144 yX6_remember, Cond.instanceMethod yX6_remember, Cond.selects RX6 yX6_remember yX6_remember, Cond.initialized RX6, Cond.code yX6_remember cX6_remember 2 none, Cond.fieldLink RX6 11 "PageRounds$Trail" "ahead" "[LPageRounds$State;", Cond.fieldLink RX6 18 "PageRounds$Trail" "next" "I", Cond.fieldLink RX6 26 "PageRounds$Trail" "deeds" "I", Cond.methodLink RX6 29 Lib.Math.min.name, Cond.static Lib.Math.min.name, Cond.initialized "java/lang/Math"]
def wsX7_drop_r2 : List Cond := [Cond.code Lib.Math.min.name Lib.Math.min.code 2 (some .int), Cond.methodLink RX6 22 yX5_become, Cond.instanceMethod yX5_become, Cond.selects RX5 yX5_become yX5_become, Cond.code yX5_become cX5_become 2 none, Cond.fieldLink RX5 11 "PageRounds$State" "cells" "[I", Cond.methodLink RX5 28 arraycopyName, Cond.native arraycopyName, Cond.static arraycopyName, Cond.initialized "java/lang/System", Cond.fieldLink RX5 15 "PageRounds$State" "open" "[I", Cond.fieldLink RX5 34 "PageRounds$State" "came" "I", Cond.fieldLink RX5 37 "PageRounds$State" "lost" "I", Cond.fieldLink RX5 40 "PageRounds$State" "mended" "I", Cond.fieldLink RX5 43 "PageRounds$State" "headsTaken" "I", Cond.methodLink RX7 152 yX5_remove, Cond.instanceMethod yX5_remove, Cond.selects RX5 yX5_remove yX5_remove, Cond.code yX5_remove cX5_remove 3 none]
def wsX7_drop : List Cond := .code yX7_drop cX7_drop 2 (some .int) :: ((wsX7_drop_r1 ++ wsX7_drop_r2) ++ wsX70 ++ wsX50 ++ wsX60)
def wsX7_drawPacket_r1 : List Cond := [Cond.fieldLink RX7 10 "PageRounds" "state" "LPageRounds$State;", Cond.fieldLink RX7 49 "PageRounds" "whole" "[I", Cond.methodLink RX7 199 yX5_draw, Cond.instanceMethod yX5_draw, Cond.selects RX5 yX5_draw yX5_draw, Cond.initialized RX5, Cond.code yX5_draw cX5_draw 2 (some .int), Cond.fieldLink RX5 46 "PageRounds$State" "seed" "I", Cond.constantLong RX5 49 (1103515245), Cond.constantLong RX5 51 (12345), Cond.constantLong RX5 53 (2147483648), Cond.constant RX5 55 (65536), Cond.methodLink RX7 56 yX1_encode, Cond.static yX1_encode, Cond.initialized RX1, Cond.code yX1_encode cX1_encode 1 (some .int), Cond.fieldLink RX1 9 "PageRounds$Guard" "CODES" "[I", Cond.methodLink RX7 74 yX7_bodyOctet, Cond.static yX7_bodyOctet, Cond.initialized RX7, Cond.code yX7_bodyOctet cX7_bodyOctet 2 (some .int), Cond.methodLink RX7 196 yX1_oddOctet, Cond.static yX1_oddOctet, Cond.code yX1_oddOctet cX1_oddOctet 1 (some .int)]
def wsX7_drawPacket_r2 : List Cond := [Cond.methodLink RX1 21 yX1_isWell, Cond.static yX1_isWell, Cond.code yX1_isWell cX1_isWell 1 (some .boolean), Cond.methodLink RX1 15 yJ6_bitCount_0f7a4, Cond.static yJ6_bitCount_0f7a4, Cond.initialized RJ6, Cond.code yJ6_bitCount_0f7a4 cJ6_bitCount_0f7a4 1 (some .int), Cond.constant RJ6 265 (1431655765), Cond.constant RJ6 266 (858993459), Cond.constant RJ6 267 (252645135)]
def wsX7_drawPacket : List Cond := .code yX7_drawPacket cX7_drawPacket 4 none :: ((wsX7_drawPacket_r1 ++ wsX7_drawPacket_r2) ++ wsX70 ++ wsX50)
def wsX7_drift_r1 : List Cond := [Cond.constant RX7 62 (-1000000002), Cond.fieldLink RX7 49 "PageRounds" "whole" "[I", Cond.fieldLink RX7 10 "PageRounds" "state" "LPageRounds$State;", Cond.fieldLink RX7 78 "PageRounds$State" "pages" "I", Cond.methodLink RX7 52 yX7_isWithin, Cond.static yX7_isWithin, Cond.initialized RX7, Cond.code yX7_isWithin cX7_isWithin 3 (some .boolean), Cond.methodLink RX7 156 yX7_drawPacket, Cond.instanceMethod yX7_drawPacket, Cond.selects RX7 yX7_drawPacket yX7_drawPacket, Cond.code yX7_drawPacket cX7_drawPacket 4 none, Cond.methodLink RX7 199 yX5_draw, Cond.instanceMethod yX5_draw, Cond.selects RX5 yX5_draw yX5_draw, Cond.initialized RX5, Cond.code yX5_draw cX5_draw 2 (some .int), Cond.fieldLink RX5 46 "PageRounds$State" "seed" "I", Cond.constantLong RX5 49 (1103515245), Cond.constantLong RX5 51 (12345), Cond.constantLong RX5 53 (2147483648), Cond.constant RX5 55 (65536), Cond.methodLink RX7 56 yX1_encode, Cond.static yX1_encode]
def wsX7_drift_r2 : List Cond := [Cond.initialized RX1, Cond.code yX1_encode cX1_encode 1 (some .int), Cond.fieldLink RX1 9 "PageRounds$Guard" "CODES" "[I", Cond.methodLink RX7 74 yX7_bodyOctet, Cond.static yX7_bodyOctet, Cond.code yX7_bodyOctet cX7_bodyOctet 2 (some .int), Cond.methodLink RX7 196 yX1_oddOctet, Cond.static yX1_oddOctet, Cond.code yX1_oddOctet cX1_oddOctet 1 (some .int), Cond.methodLink RX1 21 yX1_isWell, Cond.static yX1_isWell, Cond.code yX1_isWell cX1_isWell 1 (some .boolean), Cond.methodLink RX1 15 yJ6_bitCount_0f7a4, Cond.static yJ6_bitCount_0f7a4, Cond.initialized RJ6, Cond.code yJ6_bitCount_0f7a4 cJ6_bitCount_0f7a4 1 (some .int), Cond.constant RJ6 265 (1431655765), Cond.constant RJ6 266 (858993459), Cond.constant RJ6 267 (252645135), Cond.methodLink RX7 70 yX7_comes, Cond.instanceMethod yX7_comes, Cond.selects RX7 yX7_comes yX7_comes, Cond.code yX7_comes cX7_comes 3 (some .boolean), Cond.fieldLink RX7 19 "PageRounds" "trail" "LPageRounds$Trail;"]
def wsX7_drift_r3 : List Cond := [Cond.fieldLink RX7 81 "PageRounds$State" "came" "I", Cond.fieldLink RX7 84 "PageRounds$State" "lost" "I", Cond.methodLink RX7 144 yX6_remember, Cond.instanceMethod yX6_remember, Cond.selects RX6 yX6_remember yX6_remember, Cond.initialized RX6, Cond.code yX6_remember cX6_remember 2 none, Cond.fieldLink RX6 11 "PageRounds$Trail" "ahead" "[LPageRounds$State;", Cond.fieldLink RX6 18 "PageRounds$Trail" "next" "I", Cond.fieldLink RX6 26 "PageRounds$Trail" "deeds" "I", Cond.methodLink RX6 29 Lib.Math.min.name, Cond.static Lib.Math.min.name, Cond.initialized "java/lang/Math", Cond.code Lib.Math.min.name Lib.Math.min.code 2 (some .int), Cond.methodLink RX6 22 yX5_become, Cond.instanceMethod yX5_become, Cond.selects RX5 yX5_become yX5_become, Cond.code yX5_become cX5_become 2 none, Cond.fieldLink RX5 11 "PageRounds$State" "cells" "[I", Cond.fieldLink RX5 24 "PageRounds$State" "pages" "I", Cond.methodLink RX5 28 arraycopyName, Cond.native arraycopyName, Cond.static arraycopyName, Cond.initialized "java/lang/System"]
def wsX7_drift_r4 : List Cond := [Cond.fieldLink RX5 15 "PageRounds$State" "open" "[I", Cond.fieldLink RX5 34 "PageRounds$State" "came" "I", Cond.fieldLink RX5 37 "PageRounds$State" "lost" "I", Cond.fieldLink RX5 40 "PageRounds$State" "mended" "I", Cond.fieldLink RX5 43 "PageRounds$State" "headsTaken" "I", Cond.methodLink RX7 190 yX3_take, Cond.static yX3_take, Cond.initialized RX3, Cond.code yX3_take cX3_take 4 (some .boolean), Cond.fieldLink RX3 31 "PageRounds$State" "open" "[I", Cond.methodLink RX3 9 yX5_countMended, Cond.instanceMethod yX5_countMended, Cond.selects RX5 yX5_countMended yX5_countMended, Cond.code yX5_countMended cX5_countMended 6 none, Cond.constant RX5 65 (99999), Cond.methodLink RX5 56 yX1_decode, Cond.static yX1_decode, Cond.code yX1_decode cX1_decode 2 (some .int), Cond.methodLink RX5 62 yX1_encode, Cond.methodLink RX3 15 yX1_decode, Cond.methodLink RX3 25 yX3_takeHead, Cond.static yX3_takeHead, Cond.code yX3_takeHead cX3_takeHead 7 (some .boolean), Cond.methodLink RX3 42 yX3_numberAt]
def wsX7_drift_r5 : List Cond := [Cond.static yX3_numberAt, Cond.code yX3_numberAt cX3_numberAt 5 (some .int), Cond.methodLink RX3 46 yX5_openPage, Cond.instanceMethod yX5_openPage, Cond.selects RX5 yX5_openPage yX5_openPage, Cond.code yX5_openPage cX5_openPage 5 (some .int), Cond.methodLink RX5 103 Lib.Math.min.name, Cond.methodLink RX5 88 yX5_search, Cond.instanceMethod yX5_search, Cond.selects RX5 yX5_search yX5_search, Cond.code yX5_search cX5_search 5 (some .int), Cond.methodLink RX5 70 yX5_get, Cond.instanceMethod yX5_get, Cond.selects RX5 yX5_get yX5_get, Cond.code yX5_get cX5_get 4 (some .int), Cond.methodLink RX5 92 yX5_longestAgo, Cond.instanceMethod yX5_longestAgo, Cond.selects RX5 yX5_longestAgo yX5_longestAgo, Cond.code yX5_longestAgo cX5_longestAgo 3 (some .int), Cond.methodLink RX5 96 yX5_remove, Cond.instanceMethod yX5_remove, Cond.selects RX5 yX5_remove yX5_remove, Cond.code yX5_remove cX5_remove 3 none, Cond.methodLink RX5 100 yX5_append]
def wsX7_drift_r6 : List Cond := [Cond.instanceMethod yX5_append, Cond.selects RX5 yX5_append yX5_append, Cond.code yX5_append cX5_append 5 (some .int), Cond.methodLink RX5 74 yX5_set, Cond.instanceMethod yX5_set, Cond.selects RX5 yX5_set yX5_set, Cond.code yX5_set cX5_set 5 none, Cond.methodLink RX5 108 yX5_clear, Cond.instanceMethod yX5_clear, Cond.selects RX5 yX5_clear yX5_clear, Cond.code yX5_clear cX5_clear 2 none, Cond.methodLink RX5 85 yJ7_fill_fda19, Cond.static yJ7_fill_fda19, Cond.initialized RJ7, Cond.code yJ7_fill_fda19 cJ7_fill_fda19 5 none, Cond.methodLink RJ7 13 yJ7_rangeCheck_23922, Cond.static yJ7_rangeCheck_23922, Cond.code yJ7_rangeCheck_23922 cJ7_rangeCheck_23922 3 none, Cond.methodLink RX3 50 yX5_clear, Cond.methodLink RX3 35 yX3_takeLinks, Cond.static yX3_takeLinks, Cond.code yX3_takeLinks cX3_takeLinks 5 (some .boolean), Cond.methodLink RX3 54 yX5_has, Cond.instanceMethod yX5_has]
def wsX7_drift_r7 : List Cond := [Cond.selects RX5 yX5_has yX5_has, Cond.code yX5_has cX5_has 2 (some .boolean), Cond.methodLink RX3 58 yX5_putLink, Cond.instanceMethod yX5_putLink, Cond.selects RX5 yX5_putLink yX5_putLink, Cond.code yX5_putLink cX5_putLink 4 none, Cond.methodLink RX3 38 yX3_takeRow, Cond.static yX3_takeRow, Cond.code yX3_takeRow cX3_takeRow 5 (some .boolean), Cond.methodLink RX3 62 yX5_putLetter, Cond.instanceMethod yX5_putLetter, Cond.selects RX5 yX5_putLetter yX5_putLetter, Cond.code yX5_putLetter cX5_putLetter 7 none, Cond.methodLink RX5 78 yX1_isWell, Cond.methodLink RX5 82 yX5_isSure, Cond.static yX5_isSure, Cond.code yX5_isSure cX5_isSure 1 (some .boolean)]
def wsX7_drift : List Cond := .code yX7_drift cX7_drift 3 (some .int) :: ((wsX7_drift_r1 ++ (wsX7_drift_r2 ++ (wsX7_drift_r3 ++ (wsX7_drift_r4 ++ (wsX7_drift_r5 ++ (wsX7_drift_r6 ++ wsX7_drift_r7)))))) ++ wsX70 ++ wsX50 ++ wsX60)
def wsX7_undo_r1 : List Cond := [Cond.constant RX7 62 (-1000000002), Cond.fieldLink RX7 19 "PageRounds" "trail" "LPageRounds$Trail;", Cond.fieldLink RX7 97 "PageRounds$Trail" "deeds" "I", Cond.constant RX7 159 (-1000000003), Cond.fieldLink RX7 10 "PageRounds" "state" "LPageRounds$State;", Cond.fieldLink RX7 81 "PageRounds$State" "came" "I", Cond.methodLink RX7 52 yX7_isWithin, Cond.static yX7_isWithin, Cond.initialized RX7, Cond.code yX7_isWithin cX7_isWithin 3 (some .boolean), Cond.methodLink RX7 160 yX6_takeBack, Cond.instanceMethod yX6_takeBack, Cond.selects RX6 yX6_takeBack yX6_takeBack, Cond.initialized RX6, Cond.code yX6_takeBack cX6_takeBack 3 none, Cond.fieldLink RX6 18 "PageRounds$Trail" "next" "I", Cond.fieldLink RX6 26 "PageRounds$Trail" "deeds" "I", Cond.fieldLink RX6 11 "PageRounds$Trail" "ahead" "[LPageRounds$State;", Cond.methodLink RX6 35 yJ9_floorMod_7cf53, Cond.static yJ9_floorMod_7cf53, Cond.initialized RJ9, Cond.code yJ9_floorMod_7cf53 cJ9_floorMod_7cf53 3 (some .int), Cond.methodLink RX6 22 yX5_become, Cond.instanceMethod yX5_become]
def wsX7_undo_r2 : List Cond := [Cond.selects RX5 yX5_become yX5_become, Cond.initialized RX5, Cond.code yX5_become cX5_become 2 none, Cond.fieldLink RX5 11 "PageRounds$State" "cells" "[I", Cond.fieldLink RX5 24 "PageRounds$State" "pages" "I", Cond.methodLink RX5 28 arraycopyName, Cond.native arraycopyName, Cond.static arraycopyName, Cond.initialized "java/lang/System", Cond.fieldLink RX5 15 "PageRounds$State" "open" "[I", Cond.fieldLink RX5 34 "PageRounds$State" "came" "I", Cond.fieldLink RX5 37 "PageRounds$State" "lost" "I", Cond.fieldLink RX5 40 "PageRounds$State" "mended" "I", Cond.fieldLink RX5 43 "PageRounds$State" "headsTaken" "I"]
def wsX7_undo : List Cond := .code yX7_undo cX7_undo 2 (some .int) :: ((wsX7_undo_r1 ++ wsX7_undo_r2) ++ wsX70 ++ wsX60 ++ wsX50)
def wsX7_sent_r1 : List Cond := [Cond.constant RX7 62 (-1000000002), Cond.fieldLink RX7 41 "PageRounds" "rounds" "LPageRounds$Rounds;", Cond.fieldLink RX7 10 "PageRounds" "state" "LPageRounds$State;", Cond.methodLink RX7 52 yX7_isWithin, Cond.static yX7_isWithin, Cond.initialized RX7, Cond.code yX7_isWithin cX7_isWithin 3 (some .boolean), Cond.methodLink RX7 164 yX4_prepare, Cond.instanceMethod yX4_prepare, Cond.selects RX4 yX4_prepare yX4_prepare, Cond.initialized RX4, Cond.code yX4_prepare cX4_prepare 3 none, Cond.fieldLink RX4 27 "PageRounds$State" "pages" "I", Cond.fieldLink RX4 33 "PageRounds$Rounds" "pages" "I", Cond.fieldLink RX4 9 "PageRounds$Rounds" "lengths" "[I", Cond.fieldLink RX4 15 "PageRounds$Rounds" "weights" "[I", Cond.methodLink RX4 34 yX0_length, Cond.static yX0_length, Cond.initialized RX0, Cond.code yX0_length cX0_length 3 (some .int), Cond.methodLink RX0 9 yX0_lacks, Cond.static yX0_lacks, Cond.code yX0_lacks cX0_lacks 4 (some .int), Cond.methodLink RX0 25 yX0_hasLetters]
def wsX7_sent_r2 : List Cond := [Cond.static yX0_hasLetters, Cond.code yX0_hasLetters cX0_hasLetters 4 (some .boolean), Cond.methodLink RX0 29 yX5_letterAt, Cond.instanceMethod yX5_letterAt, Cond.selects RX5 yX5_letterAt yX5_letterAt, Cond.initialized RX5, Cond.code yX5_letterAt cX5_letterAt 4 (some .int), Cond.methodLink RX5 70 yX5_get, Cond.instanceMethod yX5_get, Cond.selects RX5 yX5_get yX5_get, Cond.code yX5_get cX5_get 4 (some .int), Cond.fieldLink RX5 11 "PageRounds$State" "cells" "[I", Cond.methodLink RX0 15 yJ6_bitCount_0f7a4, Cond.static yJ6_bitCount_0f7a4, Cond.initialized RJ6, Cond.code yJ6_bitCount_0f7a4 cJ6_bitCount_0f7a4 1 (some .int), Cond.constant RJ6 265 (1431655765), Cond.constant RJ6 266 (858993459), Cond.constant RJ6 267 (252645135), Cond.methodLink RX0 21 yX0_hasLinks, Cond.static yX0_hasLinks, Cond.code yX0_hasLinks cX0_hasLinks 3 (some .boolean), Cond.methodLink RX0 56 yX5_linkAt, Cond.instanceMethod yX5_linkAt]
def wsX7_sent_r3 : List Cond := [Cond.selects RX5 yX5_linkAt yX5_linkAt, Cond.code yX5_linkAt cX5_linkAt 3 (some .int), Cond.methodLink RX4 40 yX5_get, Cond.methodLink RX7 167 yX4_run, Cond.instanceMethod yX4_run, Cond.selects RX4 yX4_run yX4_run, Cond.code yX4_run cX4_run 5 (some .int), Cond.fieldLink RX4 18 "PageRounds$Rounds" "times" "[I", Cond.fieldLink RX4 21 "PageRounds$Rounds" "ends" "[I", Cond.fieldLink RX4 24 "PageRounds$Rounds" "waited" "[I", Cond.fieldLink RX4 50 "PageRounds$Rounds" "time" "I", Cond.methodLink RX4 44 yJ7_fill_53178, Cond.static yJ7_fill_53178, Cond.initialized RJ7, Cond.code yJ7_fill_53178 cJ7_fill_53178 4 none, Cond.methodLink RX4 53 yX4_foremost, Cond.instanceMethod yX4_foremost, Cond.selects RX4 yX4_foremost yX4_foremost, Cond.code yX4_foremost cX4_foremost 4 (some .int), Cond.methodLink RX4 72 yX4_goesAhead, Cond.instanceMethod yX4_goesAhead, Cond.selects RX4 yX4_goesAhead yX4_goesAhead, Cond.code yX4_goesAhead cX4_goesAhead 4 (some .boolean), Cond.methodLink RX4 76 yX4_urgency]
def wsX7_sent_r4 : List Cond := [Cond.instanceMethod yX4_urgency, Cond.selects RX4 yX4_urgency yX4_urgency, Cond.code yX4_urgency cX4_urgency 2 (some .int), Cond.methodLink RX4 79 yX4_cost, Cond.instanceMethod yX4_cost, Cond.selects RX4 yX4_cost yX4_cost, Cond.code yX4_cost cX4_cost 2 (some .int), Cond.methodLink RX4 57 yX4_waitEnds, Cond.instanceMethod yX4_waitEnds, Cond.selects RX4 yX4_waitEnds yX4_waitEnds, Cond.code yX4_waitEnds cX4_waitEnds 2 none, Cond.methodLink RX4 67 Lib.Math.max.name, Cond.static Lib.Math.max.name, Cond.initialized "java/lang/Math", Cond.code Lib.Math.max.name Lib.Math.max.code 2 (some .int)]
def wsX7_sent : List Cond := .code yX7_sent cX7_sent 3 (some .int) :: ((wsX7_sent_r1 ++ (wsX7_sent_r2 ++ (wsX7_sent_r3 ++ wsX7_sent_r4))) ++ wsX70 ++ wsX50 ++ wsX40)
def wsX7_waits_r1 : List Cond := [Cond.fieldLink RX7 10 "PageRounds" "state" "LPageRounds$State;", Cond.constant RX7 103 (-1000000001), Cond.constant RX7 62 (-1000000002), Cond.fieldLink RX7 41 "PageRounds" "rounds" "LPageRounds$Rounds;", Cond.fieldLink RX7 170 "PageRounds$Rounds" "waited" "[I", Cond.methodLink RX7 104 yX5_has, Cond.instanceMethod yX5_has, Cond.selects RX5 yX5_has yX5_has, Cond.initialized RX5, Cond.code yX5_has cX5_has 2 (some .boolean), Cond.fieldLink RX5 24 "PageRounds$State" "pages" "I", Cond.static yX7_isWithin, Cond.initialized RX7, Cond.code yX7_isWithin cX7_isWithin 3 (some .boolean), Cond.methodLink RX7 52 yX7_isWithin, Cond.methodLink RX7 164 yX4_prepare, Cond.instanceMethod yX4_prepare, Cond.selects RX4 yX4_prepare yX4_prepare, Cond.initialized RX4, Cond.code yX4_prepare cX4_prepare 3 none, Cond.fieldLink RX4 27 "PageRounds$State" "pages" "I", Cond.fieldLink RX4 33 "PageRounds$Rounds" "pages" "I", Cond.fieldLink RX4 9 "PageRounds$Rounds" "lengths" "[I", Cond.fieldLink RX4 15 "PageRounds$Rounds" "weights" "[I"]
def wsX7_waits_r2 : List Cond := [Cond.methodLink RX4 34 yX0_length, Cond.static yX0_length, Cond.initialized RX0, Cond.code yX0_length cX0_length 3 (some .int), Cond.methodLink RX0 9 yX0_lacks, Cond.static yX0_lacks, Cond.code yX0_lacks cX0_lacks 4 (some .int), Cond.methodLink RX0 25 yX0_hasLetters, Cond.static yX0_hasLetters, Cond.code yX0_hasLetters cX0_hasLetters 4 (some .boolean), Cond.methodLink RX0 29 yX5_letterAt, Cond.instanceMethod yX5_letterAt, Cond.selects RX5 yX5_letterAt yX5_letterAt, Cond.code yX5_letterAt cX5_letterAt 4 (some .int), Cond.methodLink RX5 70 yX5_get, Cond.instanceMethod yX5_get, Cond.selects RX5 yX5_get yX5_get, Cond.code yX5_get cX5_get 4 (some .int), Cond.fieldLink RX5 11 "PageRounds$State" "cells" "[I", Cond.methodLink RX0 15 yJ6_bitCount_0f7a4, Cond.static yJ6_bitCount_0f7a4, Cond.initialized RJ6, Cond.code yJ6_bitCount_0f7a4 cJ6_bitCount_0f7a4 1 (some .int), Cond.constant RJ6 265 (1431655765)]
def wsX7_waits_r3 : List Cond := [Cond.constant RJ6 266 (858993459), Cond.constant RJ6 267 (252645135), Cond.methodLink RX0 21 yX0_hasLinks, Cond.static yX0_hasLinks, Cond.code yX0_hasLinks cX0_hasLinks 3 (some .boolean), Cond.methodLink RX0 56 yX5_linkAt, Cond.instanceMethod yX5_linkAt, Cond.selects RX5 yX5_linkAt yX5_linkAt, Cond.code yX5_linkAt cX5_linkAt 3 (some .int), Cond.methodLink RX4 40 yX5_get, Cond.methodLink RX7 167 yX4_run, Cond.instanceMethod yX4_run, Cond.selects RX4 yX4_run yX4_run, Cond.code yX4_run cX4_run 5 (some .int), Cond.fieldLink RX4 18 "PageRounds$Rounds" "times" "[I", Cond.fieldLink RX4 21 "PageRounds$Rounds" "ends" "[I", Cond.fieldLink RX4 24 "PageRounds$Rounds" "waited" "[I", Cond.fieldLink RX4 50 "PageRounds$Rounds" "time" "I", Cond.methodLink RX4 44 yJ7_fill_53178, Cond.static yJ7_fill_53178, Cond.initialized RJ7, Cond.code yJ7_fill_53178 cJ7_fill_53178 4 none, Cond.methodLink RX4 53 yX4_foremost, Cond.instanceMethod yX4_foremost]
def wsX7_waits_r4 : List Cond := [Cond.selects RX4 yX4_foremost yX4_foremost, Cond.code yX4_foremost cX4_foremost 4 (some .int), Cond.methodLink RX4 72 yX4_goesAhead, Cond.instanceMethod yX4_goesAhead, Cond.selects RX4 yX4_goesAhead yX4_goesAhead, Cond.code yX4_goesAhead cX4_goesAhead 4 (some .boolean), Cond.methodLink RX4 76 yX4_urgency, Cond.instanceMethod yX4_urgency, Cond.selects RX4 yX4_urgency yX4_urgency, Cond.code yX4_urgency cX4_urgency 2 (some .int), Cond.methodLink RX4 79 yX4_cost, Cond.instanceMethod yX4_cost, Cond.selects RX4 yX4_cost yX4_cost, Cond.code yX4_cost cX4_cost 2 (some .int), Cond.methodLink RX4 57 yX4_waitEnds, Cond.instanceMethod yX4_waitEnds, Cond.selects RX4 yX4_waitEnds yX4_waitEnds, Cond.code yX4_waitEnds cX4_waitEnds 2 none, Cond.methodLink RX4 67 Lib.Math.max.name, Cond.static Lib.Math.max.name, Cond.initialized "java/lang/Math", Cond.code Lib.Math.max.name Lib.Math.max.code 2 (some .int)]
def wsX7_waits : List Cond := .code yX7_waits cX7_waits 4 (some .int) :: ((wsX7_waits_r1 ++ (wsX7_waits_r2 ++ (wsX7_waits_r3 ++ wsX7_waits_r4))) ++ wsX70 ++ wsX40 ++ wsX50)
def wsX7_bestRule_r1 : List Cond := [Cond.constant RX7 62 (-1000000002), Cond.fieldLink RX7 41 "PageRounds" "rounds" "LPageRounds$Rounds;", Cond.fieldLink RX7 10 "PageRounds" "state" "LPageRounds$State;", Cond.methodLink RX7 52 yX7_isWithin, Cond.static yX7_isWithin, Cond.initialized RX7, Cond.code yX7_isWithin cX7_isWithin 3 (some .boolean), Cond.methodLink RX7 164 yX4_prepare, Cond.instanceMethod yX4_prepare, Cond.selects RX4 yX4_prepare yX4_prepare, Cond.initialized RX4, Cond.code yX4_prepare cX4_prepare 3 none, Cond.fieldLink RX4 27 "PageRounds$State" "pages" "I", Cond.fieldLink RX4 33 "PageRounds$Rounds" "pages" "I", Cond.fieldLink RX4 9 "PageRounds$Rounds" "lengths" "[I", Cond.fieldLink RX4 15 "PageRounds$Rounds" "weights" "[I", Cond.methodLink RX4 34 yX0_length, Cond.static yX0_length, Cond.initialized RX0, Cond.code yX0_length cX0_length 3 (some .int), Cond.methodLink RX0 9 yX0_lacks, Cond.static yX0_lacks, Cond.code yX0_lacks cX0_lacks 4 (some .int), Cond.methodLink RX0 25 yX0_hasLetters]
def wsX7_bestRule_r2 : List Cond := [Cond.static yX0_hasLetters, Cond.code yX0_hasLetters cX0_hasLetters 4 (some .boolean), Cond.methodLink RX0 29 yX5_letterAt, Cond.instanceMethod yX5_letterAt, Cond.selects RX5 yX5_letterAt yX5_letterAt, Cond.initialized RX5, Cond.code yX5_letterAt cX5_letterAt 4 (some .int), Cond.methodLink RX5 70 yX5_get, Cond.instanceMethod yX5_get, Cond.selects RX5 yX5_get yX5_get, Cond.code yX5_get cX5_get 4 (some .int), Cond.fieldLink RX5 11 "PageRounds$State" "cells" "[I", Cond.methodLink RX0 15 yJ6_bitCount_0f7a4, Cond.static yJ6_bitCount_0f7a4, Cond.initialized RJ6, Cond.code yJ6_bitCount_0f7a4 cJ6_bitCount_0f7a4 1 (some .int), Cond.constant RJ6 265 (1431655765), Cond.constant RJ6 266 (858993459), Cond.constant RJ6 267 (252645135), Cond.methodLink RX0 21 yX0_hasLinks, Cond.static yX0_hasLinks, Cond.code yX0_hasLinks cX0_hasLinks 3 (some .boolean), Cond.methodLink RX0 56 yX5_linkAt, Cond.instanceMethod yX5_linkAt]
def wsX7_bestRule_r3 : List Cond := [Cond.selects RX5 yX5_linkAt yX5_linkAt, Cond.code yX5_linkAt cX5_linkAt 3 (some .int), Cond.methodLink RX4 40 yX5_get, Cond.methodLink RX7 173 yX4_best, Cond.instanceMethod yX4_best, Cond.selects RX4 yX4_best yX4_best, Cond.code yX4_best cX4_best 6 (some .int), Cond.methodLink RX4 61 yX4_worstWait, Cond.instanceMethod yX4_worstWait, Cond.selects RX4 yX4_worstWait yX4_worstWait, Cond.code yX4_worstWait cX4_worstWait 5 (some .int), Cond.fieldLink RX4 24 "PageRounds$Rounds" "waited" "[I", Cond.methodLink RX4 67 Lib.Math.max.name, Cond.static Lib.Math.max.name, Cond.initialized "java/lang/Math", Cond.code Lib.Math.max.name Lib.Math.max.code 2 (some .int), Cond.methodLink RX4 64 yX4_run, Cond.instanceMethod yX4_run, Cond.selects RX4 yX4_run yX4_run, Cond.code yX4_run cX4_run 5 (some .int), Cond.fieldLink RX4 18 "PageRounds$Rounds" "times" "[I", Cond.fieldLink RX4 21 "PageRounds$Rounds" "ends" "[I", Cond.fieldLink RX4 50 "PageRounds$Rounds" "time" "I", Cond.methodLink RX4 44 yJ7_fill_53178]
def wsX7_bestRule_r4 : List Cond := [Cond.static yJ7_fill_53178, Cond.initialized RJ7, Cond.code yJ7_fill_53178 cJ7_fill_53178 4 none, Cond.methodLink RX4 53 yX4_foremost, Cond.instanceMethod yX4_foremost, Cond.selects RX4 yX4_foremost yX4_foremost, Cond.code yX4_foremost cX4_foremost 4 (some .int), Cond.methodLink RX4 72 yX4_goesAhead, Cond.instanceMethod yX4_goesAhead, Cond.selects RX4 yX4_goesAhead yX4_goesAhead, Cond.code yX4_goesAhead cX4_goesAhead 4 (some .boolean), Cond.methodLink RX4 76 yX4_urgency, Cond.instanceMethod yX4_urgency, Cond.selects RX4 yX4_urgency yX4_urgency, Cond.code yX4_urgency cX4_urgency 2 (some .int), Cond.methodLink RX4 79 yX4_cost, Cond.instanceMethod yX4_cost, Cond.selects RX4 yX4_cost yX4_cost, Cond.code yX4_cost cX4_cost 2 (some .int), Cond.methodLink RX4 57 yX4_waitEnds, Cond.instanceMethod yX4_waitEnds, Cond.selects RX4 yX4_waitEnds yX4_waitEnds, Cond.code yX4_waitEnds cX4_waitEnds 2 none]
def wsX7_bestRule : List Cond := .code yX7_bestRule cX7_bestRule 2 (some .int) :: ((wsX7_bestRule_r1 ++ (wsX7_bestRule_r2 ++ (wsX7_bestRule_r3 ++ wsX7_bestRule_r4))) ++ wsX70 ++ wsX50 ++ wsX40)
def wsX7_write_r1 : List Cond := [Cond.fieldLink RX7 10 "PageRounds" "state" "LPageRounds$State;", Cond.constant RX7 103 (-1000000001), Cond.constant RX7 62 (-1000000002), Cond.fieldLink RX7 34 "PageRounds" "letterBook" "LPageRounds$LetterBook;", Cond.fieldLink RX7 90 "PageRounds$LetterBook" "entries" "I", Cond.constant RX7 180 (-1000000004), Cond.methodLink RX7 104 yX5_has, Cond.instanceMethod yX5_has, Cond.selects RX5 yX5_has yX5_has, Cond.initialized RX5, Cond.code yX5_has cX5_has 2 (some .boolean), Cond.fieldLink RX5 24 "PageRounds$State" "pages" "I", Cond.static yX7_isWithin, Cond.initialized RX7, Cond.code yX7_isWithin cX7_isWithin 3 (some .boolean), Cond.methodLink RX7 126 yX7_isPlace, Cond.static yX7_isPlace, Cond.code yX7_isPlace cX7_isPlace 2 (some .boolean), Cond.methodLink RX7 52 yX7_isWithin, Cond.methodLink RX7 176 yX2_add, Cond.instanceMethod yX2_add, Cond.selects RX2 yX2_add yX2_add, Cond.initialized RX2, Cond.code yX2_add cX2_add 5 (some .boolean)]
def wsX7_write_r2 : List Cond := [Cond.fieldLink RX2 24 "PageRounds$LetterBook" "entries" "I", Cond.fieldLink RX2 11 "PageRounds$LetterBook" "pages" "[I", Cond.fieldLink RX2 15 "PageRounds$LetterBook" "rows" "[I", Cond.fieldLink RX2 18 "PageRounds$LetterBook" "places" "[I", Cond.fieldLink RX2 21 "PageRounds$LetterBook" "letters" "[I"]
def wsX7_write : List Cond := .code yX7_write cX7_write 5 (some .int) :: ((wsX7_write_r1 ++ wsX7_write_r2) ++ wsX70 ++ wsX20 ++ wsX50)
def wsX7_tear : List Cond := .code yX7_tear cX7_tear 2 (some .int) :: ([.fieldLink RX7 34 "PageRounds" "letterBook" "LPageRounds$LetterBook;", .fieldLink RX7 90 "PageRounds$LetterBook" "entries" "I"] ++ wsX70 ++ wsX20)
def wsX7_seed : List Cond := .code yX7_seed cX7_seed 3 (some .int) :: ([.constant RX7 62 (-1000000002), .fieldLink RX7 10 "PageRounds" "state" "LPageRounds$State;", .fieldLink RX7 181 "PageRounds$State" "seed" "I"] ++ wsX70 ++ wsX50)
def wsX7_keep_r1 : List Cond := [Cond.constant RX7 103 (-1000000001), Cond.fieldLink RX7 23 "PageRounds" "images" "[LPageRounds$State;", Cond.fieldLink RX7 10 "PageRounds" "state" "LPageRounds$State;", Cond.fieldLink RX7 181 "PageRounds$State" "seed" "I", Cond.fieldLink RX7 27 "PageRounds" "kept" "[Z", Cond.fieldLink RX7 19 "PageRounds" "trail" "LPageRounds$Trail;", Cond.methodLink RX7 52 yX7_isWithin, Cond.static yX7_isWithin, Cond.initialized RX7, Cond.code yX7_isWithin cX7_isWithin 3 (some .boolean), Cond.methodLink RX7 184 yX5_become, Cond.instanceMethod yX5_become, Cond.selects RX5 yX5_become yX5_become, Cond.initialized RX5, Cond.code yX5_become cX5_become 2 none, Cond.fieldLink RX5 11 "PageRounds$State" "cells" "[I", Cond.fieldLink RX5 24 "PageRounds$State" "pages" "I", Cond.methodLink RX5 28 arraycopyName, Cond.native arraycopyName, Cond.static arraycopyName, Cond.initialized "java/lang/System", Cond.fieldLink RX5 15 "PageRounds$State" "open" "[I", Cond.fieldLink RX5 34 "PageRounds$State" "came" "I", Cond.fieldLink RX5 37 "PageRounds$State" "lost" "I"]
def wsX7_keep_r2 : List Cond := [Cond.fieldLink RX5 40 "PageRounds$State" "mended" "I", Cond.fieldLink RX5 43 "PageRounds$State" "headsTaken" "I", Cond.methodLink RX7 187 yX6_forget, Cond.instanceMethod yX6_forget, Cond.selects RX6 yX6_forget yX6_forget, Cond.initialized RX6, Cond.code yX6_forget cX6_forget 1 none, Cond.fieldLink RX6 26 "PageRounds$Trail" "deeds" "I"]
def wsX7_keep : List Cond := .code yX7_keep cX7_keep 2 (some .int) :: ((wsX7_keep_r1 ++ wsX7_keep_r2) ++ wsX70 ++ wsX50 ++ wsX60)
def wsX7_goBack_r1 : List Cond := [Cond.constant RX7 103 (-1000000001), Cond.fieldLink RX7 27 "PageRounds" "kept" "[Z", Cond.constant RX7 159 (-1000000003), Cond.fieldLink RX7 10 "PageRounds" "state" "LPageRounds$State;", Cond.fieldLink RX7 23 "PageRounds" "images" "[LPageRounds$State;", Cond.fieldLink RX7 181 "PageRounds$State" "seed" "I", Cond.fieldLink RX7 19 "PageRounds" "trail" "LPageRounds$Trail;", Cond.methodLink RX7 52 yX7_isWithin, Cond.static yX7_isWithin, Cond.initialized RX7, Cond.code yX7_isWithin cX7_isWithin 3 (some .boolean), Cond.methodLink RX7 184 yX5_become, Cond.instanceMethod yX5_become, Cond.selects RX5 yX5_become yX5_become, Cond.initialized RX5, Cond.code yX5_become cX5_become 2 none, Cond.fieldLink RX5 11 "PageRounds$State" "cells" "[I", Cond.fieldLink RX5 24 "PageRounds$State" "pages" "I", Cond.methodLink RX5 28 arraycopyName, Cond.native arraycopyName, Cond.static arraycopyName, Cond.initialized "java/lang/System", Cond.fieldLink RX5 15 "PageRounds$State" "open" "[I", Cond.fieldLink RX5 34 "PageRounds$State" "came" "I"]
def wsX7_goBack_r2 : List Cond := [Cond.fieldLink RX5 37 "PageRounds$State" "lost" "I", Cond.fieldLink RX5 40 "PageRounds$State" "mended" "I", Cond.fieldLink RX5 43 "PageRounds$State" "headsTaken" "I", Cond.methodLink RX7 187 yX6_forget, Cond.instanceMethod yX6_forget, Cond.selects RX6 yX6_forget yX6_forget, Cond.initialized RX6, Cond.code yX6_forget cX6_forget 1 none, Cond.fieldLink RX6 26 "PageRounds$Trail" "deeds" "I"]
def wsX7_goBack : List Cond := .code yX7_goBack cX7_goBack 2 (some .int) :: ((wsX7_goBack_r1 ++ wsX7_goBack_r2) ++ wsX70 ++ wsX50 ++ wsX60)
def wsX8_init : List Cond := .code yX8_init cX8_init 2 none :: ([.methodLink RX8 1 objectInit, .instanceMethod objectInit, .code objectInit ⟨#[0xb1]⟩ 1 none, .arrayClass .int, .fieldLink RX8 7 "PageRoundsModel" "s" "[I", .fieldLink RX8 13 "PageRoundsModel" "packet" "[I", .fieldLink RX8 16 "PageRoundsModel" "coming" "[I", .fieldLink RX8 19 "PageRoundsModel" "past" "[I", .fieldLink RX8 22 "PageRoundsModel" "kept" "[I", .arrayClass .long, .fieldLink RX8 25 "PageRoundsModel" "keptSeed" "[J", .arrayClass .boolean, .fieldLink RX8 29 "PageRoundsModel" "isKept" "[Z", .fieldLink RX8 33 "PageRoundsModel" "entries" "[I", .fieldLink RX8 36 "PageRoundsModel" "order" "[I", .fieldLink RX8 39 "PageRoundsModel" "often" "[I", .fieldLink RX8 42 "PageRoundsModel" "lastEnd" "[I", .fieldLink RX8 45 "PageRoundsModel" "wait" "[I"] ++ wsX80)
def wsX8_in : List Cond := .code yX8_in cX8_in 6 (some .boolean) :: ([])
def wsX8_at : List Cond := .code yX8_at cX8_at 1 (some .int) :: ([])
def wsX8_of : List Cond := .code yX8_of cX8_of 3 (some .int) :: ([.fieldLink RX8 7 "PageRoundsModel" "s" "[I", .methodLink RX8 52 yX8_at, .static yX8_at, .initialized RX8, .code yX8_at cX8_at 1 (some .int)] ++ wsX80)
def wsX8_ones : List Cond := .code yX8_ones cX8_ones 3 (some .int) :: ([])
def wsX8_even : List Cond := .code yX8_even cX8_even 1 (some .int) :: ([])
def wsX8_codeOf : List Cond := .code yX8_codeOf cX8_codeOf 9 (some .int) :: ([.methodLink RX8 56 yX8_even, .static yX8_even, .initialized RX8, .code yX8_even cX8_even 1 (some .int)])
def wsX8_numberOf : List Cond := .code yX8_numberOf cX8_numberOf 3 (some .int) :: ([.methodLink RX8 59 yX8_codeOf, .static yX8_codeOf, .initialized RX8, .code yX8_codeOf cX8_codeOf 9 (some .int), .methodLink RX8 56 yX8_even, .static yX8_even, .code yX8_even cX8_even 1 (some .int), .methodLink RX8 62 yX8_ones, .static yX8_ones, .code yX8_ones cX8_ones 3 (some .int)])
def wsX8_isMended : List Cond := .code yX8_isMended cX8_isMended 2 (some .boolean) :: ([.methodLink RX8 65 yX8_numberOf, .static yX8_numberOf, .initialized RX8, .code yX8_numberOf cX8_numberOf 3 (some .int), .methodLink RX8 59 yX8_codeOf, .static yX8_codeOf, .code yX8_codeOf cX8_codeOf 9 (some .int), .methodLink RX8 56 yX8_even, .static yX8_even, .code yX8_even cX8_even 1 (some .int), .methodLink RX8 62 yX8_ones, .static yX8_ones, .code yX8_ones cX8_ones 3 (some .int)])
def wsX8_lettered : List Cond := .code yX8_lettered cX8_lettered 1 (some .int) :: ([.methodLink RX8 62 yX8_ones, .static yX8_ones, .initialized RX8, .code yX8_ones cX8_ones 3 (some .int)])
def wsX8_coded : List Cond := .code yX8_coded cX8_coded 2 (some .int) :: ([.fieldLink RX8 48 "PageRoundsModel" "thrown" "I", .constantLong RX8 68 (15), .constant RX8 74 (-1000000002), .methodLink RX8 70 yX8_in, .static yX8_in, .initialized RX8, .code yX8_in cX8_in 6 (some .boolean), .methodLink RX8 59 yX8_codeOf, .static yX8_codeOf, .code yX8_codeOf cX8_codeOf 9 (some .int), .methodLink RX8 56 yX8_even, .static yX8_even, .code yX8_even cX8_even 1 (some .int)] ++ wsX80)
def wsX8_read : List Cond := .code yX8_read cX8_read 2 (some .int) :: ([.fieldLink RX8 48 "PageRoundsModel" "thrown" "I", .constantLong RX8 75 (255), .constant RX8 74 (-1000000002), .methodLink RX8 70 yX8_in, .static yX8_in, .initialized RX8, .code yX8_in cX8_in 6 (some .boolean), .methodLink RX8 65 yX8_numberOf, .static yX8_numberOf, .code yX8_numberOf cX8_numberOf 3 (some .int), .methodLink RX8 59 yX8_codeOf, .static yX8_codeOf, .code yX8_codeOf cX8_codeOf 9 (some .int), .methodLink RX8 56 yX8_even, .static yX8_even, .code yX8_even cX8_even 1 (some .int), .methodLink RX8 62 yX8_ones, .static yX8_ones, .code yX8_ones cX8_ones 3 (some .int)] ++ wsX80)
def wsX8_mends : List Cond := .code yX8_mends cX8_mends 4 none :: ([.fieldLink RX8 7 "PageRoundsModel" "s" "[I", .fieldLink RX8 13 "PageRoundsModel" "packet" "[I", .constant RX8 81 (99999), .methodLink RX8 77 yX8_isMended, .static yX8_isMended, .initialized RX8, .code yX8_isMended cX8_isMended 2 (some .boolean), .methodLink RX8 65 yX8_numberOf, .static yX8_numberOf, .code yX8_numberOf cX8_numberOf 3 (some .int), .methodLink RX8 59 yX8_codeOf, .static yX8_codeOf, .code yX8_codeOf cX8_codeOf 9 (some .int), .methodLink RX8 56 yX8_even, .static yX8_even, .code yX8_even cX8_even 1 (some .int), .methodLink RX8 62 yX8_ones, .static yX8_ones, .code yX8_ones cX8_ones 3 (some .int)] ++ wsX80)
def wsX8_number : List Cond := .code yX8_number cX8_number 2 (some .int) :: ([.fieldLink RX8 13 "PageRoundsModel" "packet" "[I", .methodLink RX8 65 yX8_numberOf, .static yX8_numberOf, .initialized RX8, .code yX8_numberOf cX8_numberOf 3 (some .int), .methodLink RX8 59 yX8_codeOf, .static yX8_codeOf, .code yX8_codeOf cX8_codeOf 9 (some .int), .methodLink RX8 56 yX8_even, .static yX8_even, .code yX8_even cX8_even 1 (some .int), .methodLink RX8 62 yX8_ones, .static yX8_ones, .code yX8_ones cX8_ones 3 (some .int)] ++ wsX80)
def wsX8_pageOf : List Cond := .code yX8_pageOf cX8_pageOf 5 (some .int) :: ([.fieldLink RX8 7 "PageRoundsModel" "s" "[I", .methodLink RX8 82 yX8_of, .instanceMethod yX8_of, .selects RX8 yX8_of yX8_of, .initialized RX8, .code yX8_of cX8_of 3 (some .int), .methodLink RX8 52 yX8_at, .static yX8_at, .code yX8_at cX8_at 1 (some .int)] ++ wsX80)
def wsX8_goes : List Cond := .code yX8_goes cX8_goes 4 none :: ([.fieldLink RX8 7 "PageRoundsModel" "s" "[I", .methodLink RX8 52 yX8_at, .static yX8_at, .initialized RX8, .code yX8_at cX8_at 1 (some .int)] ++ wsX80)
def wsX8_oldest : List Cond := .code yX8_oldest cX8_oldest 3 (some .int) :: ([.fieldLink RX8 7 "PageRoundsModel" "s" "[I", .methodLink RX8 82 yX8_of, .instanceMethod yX8_of, .selects RX8 yX8_of yX8_of, .initialized RX8, .code yX8_of cX8_of 3 (some .int), .methodLink RX8 52 yX8_at, .static yX8_at, .code yX8_at cX8_at 1 (some .int)] ++ wsX80)
def wsX8_empties : List Cond := .code yX8_empties cX8_empties 3 none :: ([.fieldLink RX8 7 "PageRoundsModel" "s" "[I", .methodLink RX8 52 yX8_at, .static yX8_at, .initialized RX8, .code yX8_at cX8_at 1 (some .int)] ++ wsX80)
def wsX8_newPage : List Cond := .code yX8_newPage cX8_newPage 5 (some .int) :: ([.fieldLink RX8 7 "PageRoundsModel" "s" "[I", .methodLink RX8 86 yX8_oldest, .instanceMethod yX8_oldest, .selects RX8 yX8_oldest yX8_oldest, .initialized RX8, .code yX8_oldest cX8_oldest 3 (some .int), .methodLink RX8 82 yX8_of, .instanceMethod yX8_of, .selects RX8 yX8_of yX8_of, .code yX8_of cX8_of 3 (some .int), .methodLink RX8 52 yX8_at, .static yX8_at, .code yX8_at cX8_at 1 (some .int), .methodLink RX8 90 yX8_goes, .instanceMethod yX8_goes, .selects RX8 yX8_goes yX8_goes, .code yX8_goes cX8_goes 4 none, .methodLink RX8 94 yX8_empties, .instanceMethod yX8_empties, .selects RX8 yX8_empties yX8_empties, .code yX8_empties cX8_empties 3 none] ++ wsX80)
def wsX8_heads_r1 : List Cond := [Cond.constantLong RX8 100 (9), Cond.constantLong RX8 102 (7), Cond.fieldLink RX8 7 "PageRoundsModel" "s" "[I", Cond.methodLink RX8 97 yX8_number, Cond.instanceMethod yX8_number, Cond.selects RX8 yX8_number yX8_number, Cond.initialized RX8, Cond.code yX8_number cX8_number 2 (some .int), Cond.fieldLink RX8 13 "PageRoundsModel" "packet" "[I", Cond.methodLink RX8 65 yX8_numberOf, Cond.static yX8_numberOf, Cond.code yX8_numberOf cX8_numberOf 3 (some .int), Cond.methodLink RX8 59 yX8_codeOf, Cond.static yX8_codeOf, Cond.code yX8_codeOf cX8_codeOf 9 (some .int), Cond.methodLink RX8 56 yX8_even, Cond.static yX8_even, Cond.code yX8_even cX8_even 1 (some .int), Cond.methodLink RX8 62 yX8_ones, Cond.static yX8_ones, Cond.code yX8_ones cX8_ones 3 (some .int), Cond.methodLink RX8 70 yX8_in, Cond.static yX8_in, Cond.code yX8_in cX8_in 6 (some .boolean)]
def wsX8_heads_r2 : List Cond := [Cond.methodLink RX8 104 yX8_pageOf, Cond.instanceMethod yX8_pageOf, Cond.selects RX8 yX8_pageOf yX8_pageOf, Cond.code yX8_pageOf cX8_pageOf 5 (some .int), Cond.methodLink RX8 82 yX8_of, Cond.instanceMethod yX8_of, Cond.selects RX8 yX8_of yX8_of, Cond.code yX8_of cX8_of 3 (some .int), Cond.methodLink RX8 52 yX8_at, Cond.static yX8_at, Cond.code yX8_at cX8_at 1 (some .int), Cond.methodLink RX8 108 yX8_newPage, Cond.instanceMethod yX8_newPage, Cond.selects RX8 yX8_newPage yX8_newPage, Cond.code yX8_newPage cX8_newPage 5 (some .int), Cond.methodLink RX8 86 yX8_oldest, Cond.instanceMethod yX8_oldest, Cond.selects RX8 yX8_oldest yX8_oldest, Cond.code yX8_oldest cX8_oldest 3 (some .int), Cond.methodLink RX8 90 yX8_goes, Cond.instanceMethod yX8_goes, Cond.selects RX8 yX8_goes yX8_goes, Cond.code yX8_goes cX8_goes 4 none, Cond.methodLink RX8 94 yX8_empties]
def wsX8_heads_r3 : List Cond := [Cond.instanceMethod yX8_empties, Cond.selects RX8 yX8_empties yX8_empties, Cond.code yX8_empties cX8_empties 3 none]
def wsX8_heads : List Cond := .code yX8_heads cX8_heads 5 (some .boolean) :: ((wsX8_heads_r1 ++ (wsX8_heads_r2 ++ wsX8_heads_r3)) ++ wsX80)
def wsX8_rows : List Cond := .code yX8_rows cX8_rows 6 none :: ([.fieldLink RX8 13 "PageRoundsModel" "packet" "[I", .fieldLink RX8 7 "PageRoundsModel" "s" "[I", .methodLink RX8 52 yX8_at, .static yX8_at, .initialized RX8, .code yX8_at cX8_at 1 (some .int), .methodLink RX8 62 yX8_ones, .static yX8_ones, .code yX8_ones cX8_ones 3 (some .int)] ++ wsX80)
def wsX8_links_r1 : List Cond := [Cond.constantLong RX8 100 (9), Cond.fieldLink RX8 7 "PageRoundsModel" "s" "[I", Cond.methodLink RX8 111 yX8_mends, Cond.instanceMethod yX8_mends, Cond.selects RX8 yX8_mends yX8_mends, Cond.initialized RX8, Cond.code yX8_mends cX8_mends 4 none, Cond.fieldLink RX8 13 "PageRoundsModel" "packet" "[I", Cond.constant RX8 81 (99999), Cond.methodLink RX8 77 yX8_isMended, Cond.static yX8_isMended, Cond.code yX8_isMended cX8_isMended 2 (some .boolean), Cond.methodLink RX8 65 yX8_numberOf, Cond.static yX8_numberOf, Cond.code yX8_numberOf cX8_numberOf 3 (some .int), Cond.methodLink RX8 59 yX8_codeOf, Cond.static yX8_codeOf, Cond.code yX8_codeOf cX8_codeOf 9 (some .int), Cond.methodLink RX8 56 yX8_even, Cond.static yX8_even, Cond.code yX8_even cX8_even 1 (some .int), Cond.methodLink RX8 62 yX8_ones, Cond.static yX8_ones, Cond.code yX8_ones cX8_ones 3 (some .int)]
def wsX8_links_r2 : List Cond := [Cond.methodLink RX8 97 yX8_number, Cond.instanceMethod yX8_number, Cond.selects RX8 yX8_number yX8_number, Cond.code yX8_number cX8_number 2 (some .int), Cond.methodLink RX8 70 yX8_in, Cond.static yX8_in, Cond.code yX8_in cX8_in 6 (some .boolean), Cond.methodLink RX8 52 yX8_at, Cond.static yX8_at, Cond.code yX8_at cX8_at 1 (some .int)]
def wsX8_links : List Cond := .code yX8_links cX8_links 5 none :: ((wsX8_links_r1 ++ wsX8_links_r2) ++ wsX80)
def wsX8_takes_r1 : List Cond := [Cond.constantLong RX8 115 (3), Cond.constantLong RX8 102 (7), Cond.fieldLink RX8 7 "PageRoundsModel" "s" "[I", Cond.methodLink RX8 111 yX8_mends, Cond.instanceMethod yX8_mends, Cond.selects RX8 yX8_mends yX8_mends, Cond.initialized RX8, Cond.code yX8_mends cX8_mends 4 none, Cond.fieldLink RX8 13 "PageRoundsModel" "packet" "[I", Cond.constant RX8 81 (99999), Cond.methodLink RX8 77 yX8_isMended, Cond.static yX8_isMended, Cond.code yX8_isMended cX8_isMended 2 (some .boolean), Cond.methodLink RX8 65 yX8_numberOf, Cond.static yX8_numberOf, Cond.code yX8_numberOf cX8_numberOf 3 (some .int), Cond.methodLink RX8 59 yX8_codeOf, Cond.static yX8_codeOf, Cond.code yX8_codeOf cX8_codeOf 9 (some .int), Cond.methodLink RX8 56 yX8_even, Cond.static yX8_even, Cond.code yX8_even cX8_even 1 (some .int), Cond.methodLink RX8 62 yX8_ones, Cond.static yX8_ones]
def wsX8_takes_r2 : List Cond := [Cond.code yX8_ones cX8_ones 3 (some .int), Cond.methodLink RX8 97 yX8_number, Cond.instanceMethod yX8_number, Cond.selects RX8 yX8_number yX8_number, Cond.code yX8_number cX8_number 2 (some .int), Cond.methodLink RX8 70 yX8_in, Cond.static yX8_in, Cond.code yX8_in cX8_in 6 (some .boolean), Cond.methodLink RX8 117 yX8_heads, Cond.instanceMethod yX8_heads, Cond.selects RX8 yX8_heads yX8_heads, Cond.code yX8_heads cX8_heads 5 (some .boolean), Cond.constantLong RX8 100 (9), Cond.methodLink RX8 104 yX8_pageOf, Cond.instanceMethod yX8_pageOf, Cond.selects RX8 yX8_pageOf yX8_pageOf, Cond.code yX8_pageOf cX8_pageOf 5 (some .int), Cond.methodLink RX8 82 yX8_of, Cond.instanceMethod yX8_of, Cond.selects RX8 yX8_of yX8_of, Cond.code yX8_of cX8_of 3 (some .int), Cond.methodLink RX8 52 yX8_at, Cond.static yX8_at, Cond.code yX8_at cX8_at 1 (some .int)]
def wsX8_takes_r3 : List Cond := [Cond.methodLink RX8 108 yX8_newPage, Cond.instanceMethod yX8_newPage, Cond.selects RX8 yX8_newPage yX8_newPage, Cond.code yX8_newPage cX8_newPage 5 (some .int), Cond.methodLink RX8 86 yX8_oldest, Cond.instanceMethod yX8_oldest, Cond.selects RX8 yX8_oldest yX8_oldest, Cond.code yX8_oldest cX8_oldest 3 (some .int), Cond.methodLink RX8 90 yX8_goes, Cond.instanceMethod yX8_goes, Cond.selects RX8 yX8_goes yX8_goes, Cond.code yX8_goes cX8_goes 4 none, Cond.methodLink RX8 94 yX8_empties, Cond.instanceMethod yX8_empties, Cond.selects RX8 yX8_empties yX8_empties, Cond.code yX8_empties cX8_empties 3 none, Cond.methodLink RX8 120 yX8_links, Cond.instanceMethod yX8_links, Cond.selects RX8 yX8_links yX8_links, Cond.code yX8_links cX8_links 5 none, Cond.methodLink RX8 123 yX8_rows, Cond.instanceMethod yX8_rows, Cond.selects RX8 yX8_rows yX8_rows, Cond.code yX8_rows cX8_rows 6 none]
def wsX8_takes : List Cond := .code yX8_takes cX8_takes 4 (some .boolean) :: ((wsX8_takes_r1 ++ (wsX8_takes_r2 ++ wsX8_takes_r3)) ++ wsX80)
def wsX8_notes : List Cond := .code yX8_notes cX8_notes 2 none :: ([.fieldLink RX8 133 "PageRoundsModel" "pastMany" "I", .fieldLink RX8 19 "PageRoundsModel" "past" "[I", .fieldLink RX8 7 "PageRoundsModel" "s" "[I"] ++ wsX80)
def wsX8_comes_r1 : List Cond := [Cond.fieldLink RX8 7 "PageRoundsModel" "s" "[I", Cond.methodLink RX8 126 yX8_notes, Cond.instanceMethod yX8_notes, Cond.selects RX8 yX8_notes yX8_notes, Cond.initialized RX8, Cond.code yX8_notes cX8_notes 2 none, Cond.fieldLink RX8 133 "PageRoundsModel" "pastMany" "I", Cond.fieldLink RX8 19 "PageRoundsModel" "past" "[I", Cond.methodLink RX8 129 yX8_takes, Cond.instanceMethod yX8_takes, Cond.selects RX8 yX8_takes yX8_takes, Cond.code yX8_takes cX8_takes 4 (some .boolean), Cond.constantLong RX8 115 (3), Cond.constantLong RX8 102 (7), Cond.methodLink RX8 111 yX8_mends, Cond.instanceMethod yX8_mends, Cond.selects RX8 yX8_mends yX8_mends, Cond.code yX8_mends cX8_mends 4 none, Cond.fieldLink RX8 13 "PageRoundsModel" "packet" "[I", Cond.constant RX8 81 (99999), Cond.methodLink RX8 77 yX8_isMended, Cond.static yX8_isMended, Cond.code yX8_isMended cX8_isMended 2 (some .boolean), Cond.methodLink RX8 65 yX8_numberOf]
def wsX8_comes_r2 : List Cond := [Cond.static yX8_numberOf, Cond.code yX8_numberOf cX8_numberOf 3 (some .int), Cond.methodLink RX8 59 yX8_codeOf, Cond.static yX8_codeOf, Cond.code yX8_codeOf cX8_codeOf 9 (some .int), Cond.methodLink RX8 56 yX8_even, Cond.static yX8_even, Cond.code yX8_even cX8_even 1 (some .int), Cond.methodLink RX8 62 yX8_ones, Cond.static yX8_ones, Cond.code yX8_ones cX8_ones 3 (some .int), Cond.methodLink RX8 97 yX8_number, Cond.instanceMethod yX8_number, Cond.selects RX8 yX8_number yX8_number, Cond.code yX8_number cX8_number 2 (some .int), Cond.methodLink RX8 70 yX8_in, Cond.static yX8_in, Cond.code yX8_in cX8_in 6 (some .boolean), Cond.methodLink RX8 117 yX8_heads, Cond.instanceMethod yX8_heads, Cond.selects RX8 yX8_heads yX8_heads, Cond.code yX8_heads cX8_heads 5 (some .boolean), Cond.constantLong RX8 100 (9), Cond.methodLink RX8 104 yX8_pageOf]
def wsX8_comes_r3 : List Cond := [Cond.instanceMethod yX8_pageOf, Cond.selects RX8 yX8_pageOf yX8_pageOf, Cond.code yX8_pageOf cX8_pageOf 5 (some .int), Cond.methodLink RX8 82 yX8_of, Cond.instanceMethod yX8_of, Cond.selects RX8 yX8_of yX8_of, Cond.code yX8_of cX8_of 3 (some .int), Cond.methodLink RX8 52 yX8_at, Cond.static yX8_at, Cond.code yX8_at cX8_at 1 (some .int), Cond.methodLink RX8 108 yX8_newPage, Cond.instanceMethod yX8_newPage, Cond.selects RX8 yX8_newPage yX8_newPage, Cond.code yX8_newPage cX8_newPage 5 (some .int), Cond.methodLink RX8 86 yX8_oldest, Cond.instanceMethod yX8_oldest, Cond.selects RX8 yX8_oldest yX8_oldest, Cond.code yX8_oldest cX8_oldest 3 (some .int), Cond.methodLink RX8 90 yX8_goes, Cond.instanceMethod yX8_goes, Cond.selects RX8 yX8_goes yX8_goes, Cond.code yX8_goes cX8_goes 4 none, Cond.methodLink RX8 94 yX8_empties, Cond.instanceMethod yX8_empties]
def wsX8_comes_r4 : List Cond := [Cond.selects RX8 yX8_empties yX8_empties, Cond.code yX8_empties cX8_empties 3 none, Cond.methodLink RX8 120 yX8_links, Cond.instanceMethod yX8_links, Cond.selects RX8 yX8_links yX8_links, Cond.code yX8_links cX8_links 5 none, Cond.methodLink RX8 123 yX8_rows, Cond.instanceMethod yX8_rows, Cond.selects RX8 yX8_rows yX8_rows, Cond.code yX8_rows cX8_rows 6 none]
def wsX8_comes : List Cond := .code yX8_comes cX8_comes 1 (some .int) :: ((wsX8_comes_r1 ++ (wsX8_comes_r2 ++ (wsX8_comes_r3 ++ wsX8_comes_r4))) ++ wsX80)
def wsX8_octet_r1 : List Cond := [Cond.fieldLink RX8 48 "PageRoundsModel" "thrown" "I", Cond.constantLong RX8 75 (255), Cond.constant RX8 74 (-1000000002), Cond.fieldLink RX8 16 "PageRoundsModel" "coming" "[I", Cond.fieldLink RX8 136 "PageRoundsModel" "come" "I", Cond.fieldLink RX8 13 "PageRoundsModel" "packet" "[I", Cond.methodLink RX8 70 yX8_in, Cond.static yX8_in, Cond.initialized RX8, Cond.code yX8_in cX8_in 6 (some .boolean), Cond.methodLink RX8 139 yX8_comes, Cond.instanceMethod yX8_comes, Cond.selects RX8 yX8_comes yX8_comes, Cond.code yX8_comes cX8_comes 1 (some .int), Cond.fieldLink RX8 7 "PageRoundsModel" "s" "[I", Cond.methodLink RX8 126 yX8_notes, Cond.instanceMethod yX8_notes, Cond.selects RX8 yX8_notes yX8_notes, Cond.code yX8_notes cX8_notes 2 none, Cond.fieldLink RX8 133 "PageRoundsModel" "pastMany" "I", Cond.fieldLink RX8 19 "PageRoundsModel" "past" "[I", Cond.methodLink RX8 129 yX8_takes, Cond.instanceMethod yX8_takes, Cond.selects RX8 yX8_takes yX8_takes]
def wsX8_octet_r2 : List Cond := [Cond.code yX8_takes cX8_takes 4 (some .boolean), Cond.constantLong RX8 115 (3), Cond.constantLong RX8 102 (7), Cond.methodLink RX8 111 yX8_mends, Cond.instanceMethod yX8_mends, Cond.selects RX8 yX8_mends yX8_mends, Cond.code yX8_mends cX8_mends 4 none, Cond.constant RX8 81 (99999), Cond.methodLink RX8 77 yX8_isMended, Cond.static yX8_isMended, Cond.code yX8_isMended cX8_isMended 2 (some .boolean), Cond.methodLink RX8 65 yX8_numberOf, Cond.static yX8_numberOf, Cond.code yX8_numberOf cX8_numberOf 3 (some .int), Cond.methodLink RX8 59 yX8_codeOf, Cond.static yX8_codeOf, Cond.code yX8_codeOf cX8_codeOf 9 (some .int), Cond.methodLink RX8 56 yX8_even, Cond.static yX8_even, Cond.code yX8_even cX8_even 1 (some .int), Cond.methodLink RX8 62 yX8_ones, Cond.static yX8_ones, Cond.code yX8_ones cX8_ones 3 (some .int), Cond.methodLink RX8 97 yX8_number]
def wsX8_octet_r3 : List Cond := [Cond.instanceMethod yX8_number, Cond.selects RX8 yX8_number yX8_number, Cond.code yX8_number cX8_number 2 (some .int), Cond.methodLink RX8 117 yX8_heads, Cond.instanceMethod yX8_heads, Cond.selects RX8 yX8_heads yX8_heads, Cond.code yX8_heads cX8_heads 5 (some .boolean), Cond.constantLong RX8 100 (9), Cond.methodLink RX8 104 yX8_pageOf, Cond.instanceMethod yX8_pageOf, Cond.selects RX8 yX8_pageOf yX8_pageOf, Cond.code yX8_pageOf cX8_pageOf 5 (some .int), Cond.methodLink RX8 82 yX8_of, Cond.instanceMethod yX8_of, Cond.selects RX8 yX8_of yX8_of, Cond.code yX8_of cX8_of 3 (some .int), Cond.methodLink RX8 52 yX8_at, Cond.static yX8_at, Cond.code yX8_at cX8_at 1 (some .int), Cond.methodLink RX8 108 yX8_newPage, Cond.instanceMethod yX8_newPage, Cond.selects RX8 yX8_newPage yX8_newPage, Cond.code yX8_newPage cX8_newPage 5 (some .int), Cond.methodLink RX8 86 yX8_oldest]
def wsX8_octet_r4 : List Cond := [Cond.instanceMethod yX8_oldest, Cond.selects RX8 yX8_oldest yX8_oldest, Cond.code yX8_oldest cX8_oldest 3 (some .int), Cond.methodLink RX8 90 yX8_goes, Cond.instanceMethod yX8_goes, Cond.selects RX8 yX8_goes yX8_goes, Cond.code yX8_goes cX8_goes 4 none, Cond.methodLink RX8 94 yX8_empties, Cond.instanceMethod yX8_empties, Cond.selects RX8 yX8_empties yX8_empties, Cond.code yX8_empties cX8_empties 3 none, Cond.methodLink RX8 120 yX8_links, Cond.instanceMethod yX8_links, Cond.selects RX8 yX8_links yX8_links, Cond.code yX8_links cX8_links 5 none, Cond.methodLink RX8 123 yX8_rows, Cond.instanceMethod yX8_rows, Cond.selects RX8 yX8_rows yX8_rows, Cond.code yX8_rows cX8_rows 6 none]
def wsX8_octet : List Cond := .code yX8_octet cX8_octet 3 (some .int) :: ((wsX8_octet_r1 ++ (wsX8_octet_r2 ++ (wsX8_octet_r3 ++ wsX8_octet_r4))) ++ wsX80)
def wsX8_laid : List Cond := .code yX8_laid cX8_laid 2 (some .int) :: ([.methodLink RX8 59 yX8_codeOf, .static yX8_codeOf, .initialized RX8, .code yX8_codeOf cX8_codeOf 9 (some .int), .methodLink RX8 56 yX8_even, .static yX8_even, .code yX8_even cX8_even 1 (some .int), .methodLink RX8 142 yX8_lettered, .static yX8_lettered, .code yX8_lettered cX8_lettered 1 (some .int), .methodLink RX8 62 yX8_ones, .static yX8_ones, .code yX8_ones cX8_ones 3 (some .int)])
def wsX8_packet_r1 : List Cond := [Cond.fieldLink RX8 48 "PageRoundsModel" "thrown" "I", Cond.constantLong RX8 115 (3), Cond.constantLong RX8 102 (7), Cond.constant RX8 74 (-1000000002), Cond.fieldLink RX8 13 "PageRoundsModel" "packet" "[I", Cond.constantLong RX8 145 (16), Cond.methodLink RX8 70 yX8_in, Cond.static yX8_in, Cond.initialized RX8, Cond.code yX8_in cX8_in 6 (some .boolean), Cond.methodLink RX8 59 yX8_codeOf, Cond.static yX8_codeOf, Cond.code yX8_codeOf cX8_codeOf 9 (some .int), Cond.methodLink RX8 56 yX8_even, Cond.static yX8_even, Cond.code yX8_even cX8_even 1 (some .int), Cond.methodLink RX8 147 yX8_laid, Cond.static yX8_laid, Cond.code yX8_laid cX8_laid 2 (some .int), Cond.methodLink RX8 142 yX8_lettered, Cond.static yX8_lettered, Cond.code yX8_lettered cX8_lettered 1 (some .int), Cond.methodLink RX8 62 yX8_ones, Cond.static yX8_ones]
def wsX8_packet_r2 : List Cond := [Cond.code yX8_ones cX8_ones 3 (some .int), Cond.methodLink RX8 139 yX8_comes, Cond.instanceMethod yX8_comes, Cond.selects RX8 yX8_comes yX8_comes, Cond.code yX8_comes cX8_comes 1 (some .int), Cond.fieldLink RX8 7 "PageRoundsModel" "s" "[I", Cond.methodLink RX8 126 yX8_notes, Cond.instanceMethod yX8_notes, Cond.selects RX8 yX8_notes yX8_notes, Cond.code yX8_notes cX8_notes 2 none, Cond.fieldLink RX8 133 "PageRoundsModel" "pastMany" "I", Cond.fieldLink RX8 19 "PageRoundsModel" "past" "[I", Cond.methodLink RX8 129 yX8_takes, Cond.instanceMethod yX8_takes, Cond.selects RX8 yX8_takes yX8_takes, Cond.code yX8_takes cX8_takes 4 (some .boolean), Cond.methodLink RX8 111 yX8_mends, Cond.instanceMethod yX8_mends, Cond.selects RX8 yX8_mends yX8_mends, Cond.code yX8_mends cX8_mends 4 none, Cond.constant RX8 81 (99999), Cond.methodLink RX8 77 yX8_isMended, Cond.static yX8_isMended, Cond.code yX8_isMended cX8_isMended 2 (some .boolean)]
def wsX8_packet_r3 : List Cond := [Cond.methodLink RX8 65 yX8_numberOf, Cond.static yX8_numberOf, Cond.code yX8_numberOf cX8_numberOf 3 (some .int), Cond.methodLink RX8 97 yX8_number, Cond.instanceMethod yX8_number, Cond.selects RX8 yX8_number yX8_number, Cond.code yX8_number cX8_number 2 (some .int), Cond.methodLink RX8 117 yX8_heads, Cond.instanceMethod yX8_heads, Cond.selects RX8 yX8_heads yX8_heads, Cond.code yX8_heads cX8_heads 5 (some .boolean), Cond.constantLong RX8 100 (9), Cond.methodLink RX8 104 yX8_pageOf, Cond.instanceMethod yX8_pageOf, Cond.selects RX8 yX8_pageOf yX8_pageOf, Cond.code yX8_pageOf cX8_pageOf 5 (some .int), Cond.methodLink RX8 82 yX8_of, Cond.instanceMethod yX8_of, Cond.selects RX8 yX8_of yX8_of, Cond.code yX8_of cX8_of 3 (some .int), Cond.methodLink RX8 52 yX8_at, Cond.static yX8_at, Cond.code yX8_at cX8_at 1 (some .int), Cond.methodLink RX8 108 yX8_newPage]
def wsX8_packet_r4 : List Cond := [Cond.instanceMethod yX8_newPage, Cond.selects RX8 yX8_newPage yX8_newPage, Cond.code yX8_newPage cX8_newPage 5 (some .int), Cond.methodLink RX8 86 yX8_oldest, Cond.instanceMethod yX8_oldest, Cond.selects RX8 yX8_oldest yX8_oldest, Cond.code yX8_oldest cX8_oldest 3 (some .int), Cond.methodLink RX8 90 yX8_goes, Cond.instanceMethod yX8_goes, Cond.selects RX8 yX8_goes yX8_goes, Cond.code yX8_goes cX8_goes 4 none, Cond.methodLink RX8 94 yX8_empties, Cond.instanceMethod yX8_empties, Cond.selects RX8 yX8_empties yX8_empties, Cond.code yX8_empties cX8_empties 3 none, Cond.methodLink RX8 120 yX8_links, Cond.instanceMethod yX8_links, Cond.selects RX8 yX8_links yX8_links, Cond.code yX8_links cX8_links 5 none, Cond.methodLink RX8 123 yX8_rows, Cond.instanceMethod yX8_rows, Cond.selects RX8 yX8_rows yX8_rows, Cond.code yX8_rows cX8_rows 6 none]
def wsX8_packet : List Cond := .code yX8_packet cX8_packet 8 (some .int) :: ((wsX8_packet_r1 ++ (wsX8_packet_r2 ++ (wsX8_packet_r3 ++ wsX8_packet_r4))) ++ wsX80)
def wsX8_isPage : List Cond := .code yX8_isPage cX8_isPage 2 (some .boolean) :: ([.fieldLink RX8 7 "PageRoundsModel" "s" "[I", .methodLink RX8 70 yX8_in, .static yX8_in, .initialized RX8, .code yX8_in cX8_in 6 (some .boolean)] ++ wsX80)
def wsX8_wrong : List Cond := .code yX8_wrong cX8_wrong 4 (some .int) :: ([.fieldLink RX8 150 "PageRoundsModel" "entryMany" "I", .fieldLink RX8 33 "PageRoundsModel" "entries" "[I", .methodLink RX8 165 yX8_isPage, .instanceMethod yX8_isPage, .selects RX8 yX8_isPage yX8_isPage, .initialized RX8, .code yX8_isPage cX8_isPage 2 (some .boolean), .fieldLink RX8 7 "PageRoundsModel" "s" "[I", .methodLink RX8 70 yX8_in, .static yX8_in, .code yX8_in cX8_in 6 (some .boolean), .methodLink RX8 82 yX8_of, .instanceMethod yX8_of, .selects RX8 yX8_of yX8_of, .code yX8_of cX8_of 3 (some .int), .methodLink RX8 52 yX8_at, .static yX8_at, .code yX8_at cX8_at 1 (some .int)] ++ wsX80)
def wsX8_told_r1 : List Cond := [Cond.fieldLink RX8 48 "PageRoundsModel" "thrown" "I", Cond.constantLong RX8 102 (7), Cond.constant RX8 74 (-1000000002), Cond.fieldLink RX8 7 "PageRoundsModel" "s" "[I", Cond.fieldLink RX8 136 "PageRoundsModel" "come" "I", Cond.fieldLink RX8 150 "PageRoundsModel" "entryMany" "I", Cond.fieldLink RX8 133 "PageRoundsModel" "pastMany" "I", Cond.methodLink RX8 70 yX8_in, Cond.static yX8_in, Cond.initialized RX8, Cond.code yX8_in cX8_in 6 (some .boolean), Cond.methodLink RX8 153 yX8_wrong, Cond.instanceMethod yX8_wrong, Cond.selects RX8 yX8_wrong yX8_wrong, Cond.code yX8_wrong cX8_wrong 4 (some .int), Cond.fieldLink RX8 33 "PageRoundsModel" "entries" "[I", Cond.methodLink RX8 165 yX8_isPage, Cond.instanceMethod yX8_isPage, Cond.selects RX8 yX8_isPage yX8_isPage, Cond.code yX8_isPage cX8_isPage 2 (some .boolean), Cond.methodLink RX8 82 yX8_of, Cond.instanceMethod yX8_of, Cond.selects RX8 yX8_of yX8_of, Cond.code yX8_of cX8_of 3 (some .int)]
def wsX8_told_r2 : List Cond := [Cond.methodLink RX8 52 yX8_at, Cond.static yX8_at, Cond.code yX8_at cX8_at 1 (some .int)]
def wsX8_told : List Cond := .code yX8_told cX8_told 2 (some .int) :: ((wsX8_told_r1 ++ wsX8_told_r2) ++ wsX80)
def wsX8_open : List Cond := .code yX8_open cX8_open 2 (some .int) :: ([.fieldLink RX8 48 "PageRoundsModel" "thrown" "I", .constantLong RX8 115 (3), .fieldLink RX8 7 "PageRoundsModel" "s" "[I", .constant RX8 156 (-1000000001), .methodLink RX8 70 yX8_in, .static yX8_in, .initialized RX8, .code yX8_in cX8_in 6 (some .boolean)] ++ wsX80)
def wsX8_lacks : List Cond := .code yX8_lacks cX8_lacks 4 (some .int) :: ([.methodLink RX8 82 yX8_of, .instanceMethod yX8_of, .selects RX8 yX8_of yX8_of, .initialized RX8, .code yX8_of cX8_of 3 (some .int), .fieldLink RX8 7 "PageRoundsModel" "s" "[I", .methodLink RX8 52 yX8_at, .static yX8_at, .code yX8_at cX8_at 1 (some .int)] ++ wsX80)
def wsX8_hasLinks : List Cond := .code yX8_hasLinks cX8_hasLinks 4 (some .boolean) :: ([.methodLink RX8 82 yX8_of, .instanceMethod yX8_of, .selects RX8 yX8_of yX8_of, .initialized RX8, .code yX8_of cX8_of 3 (some .int), .fieldLink RX8 7 "PageRoundsModel" "s" "[I", .methodLink RX8 52 yX8_at, .static yX8_at, .code yX8_at cX8_at 1 (some .int)] ++ wsX80)
def wsX8_lengthOf : List Cond := .code yX8_lengthOf cX8_lengthOf 4 (some .int) :: ([.methodLink RX8 157 yX8_hasLinks, .instanceMethod yX8_hasLinks, .selects RX8 yX8_hasLinks yX8_hasLinks, .initialized RX8, .code yX8_hasLinks cX8_hasLinks 4 (some .boolean), .methodLink RX8 82 yX8_of, .instanceMethod yX8_of, .selects RX8 yX8_of yX8_of, .code yX8_of cX8_of 3 (some .int), .fieldLink RX8 7 "PageRoundsModel" "s" "[I", .methodLink RX8 52 yX8_at, .static yX8_at, .code yX8_at cX8_at 1 (some .int), .methodLink RX8 160 yX8_lacks, .instanceMethod yX8_lacks, .selects RX8 yX8_lacks yX8_lacks, .code yX8_lacks cX8_lacks 4 (some .int)] ++ wsX80)
def wsX8_sure : List Cond := .code yX8_sure cX8_sure 4 (some .int) :: ([.constantLong RX8 163 (127), .methodLink RX8 82 yX8_of, .instanceMethod yX8_of, .selects RX8 yX8_of yX8_of, .initialized RX8, .code yX8_of cX8_of 3 (some .int), .fieldLink RX8 7 "PageRoundsModel" "s" "[I", .methodLink RX8 52 yX8_at, .static yX8_at, .code yX8_at cX8_at 1 (some .int), .methodLink RX8 70 yX8_in, .static yX8_in, .code yX8_in cX8_in 6 (some .boolean)] ++ wsX80)
def wsX8_linked : List Cond := .code yX8_linked cX8_linked 5 (some .int) :: ([.fieldLink RX8 7 "PageRoundsModel" "s" "[I", .methodLink RX8 82 yX8_of, .instanceMethod yX8_of, .selects RX8 yX8_of yX8_of, .initialized RX8, .code yX8_of cX8_of 3 (some .int), .methodLink RX8 52 yX8_at, .static yX8_at, .code yX8_at cX8_at 1 (some .int)] ++ wsX80)
def wsX8_page_r1 : List Cond := [Cond.fieldLink RX8 48 "PageRoundsModel" "thrown" "I", Cond.constant RX8 156 (-1000000001), Cond.constantLong RX8 168 (8), Cond.constant RX8 74 (-1000000002), Cond.methodLink RX8 165 yX8_isPage, Cond.instanceMethod yX8_isPage, Cond.selects RX8 yX8_isPage yX8_isPage, Cond.initialized RX8, Cond.code yX8_isPage cX8_isPage 2 (some .boolean), Cond.fieldLink RX8 7 "PageRoundsModel" "s" "[I", Cond.methodLink RX8 70 yX8_in, Cond.static yX8_in, Cond.code yX8_in cX8_in 6 (some .boolean), Cond.methodLink RX8 82 yX8_of, Cond.instanceMethod yX8_of, Cond.selects RX8 yX8_of yX8_of, Cond.code yX8_of cX8_of 3 (some .int), Cond.methodLink RX8 52 yX8_at, Cond.static yX8_at, Cond.code yX8_at cX8_at 1 (some .int), Cond.methodLink RX8 170 yX8_lengthOf, Cond.instanceMethod yX8_lengthOf, Cond.selects RX8 yX8_lengthOf yX8_lengthOf, Cond.code yX8_lengthOf cX8_lengthOf 4 (some .int)]
def wsX8_page_r2 : List Cond := [Cond.methodLink RX8 157 yX8_hasLinks, Cond.instanceMethod yX8_hasLinks, Cond.selects RX8 yX8_hasLinks yX8_hasLinks, Cond.code yX8_hasLinks cX8_hasLinks 4 (some .boolean), Cond.methodLink RX8 160 yX8_lacks, Cond.instanceMethod yX8_lacks, Cond.selects RX8 yX8_lacks yX8_lacks, Cond.code yX8_lacks cX8_lacks 4 (some .int), Cond.methodLink RX8 173 yX8_sure, Cond.instanceMethod yX8_sure, Cond.selects RX8 yX8_sure yX8_sure, Cond.code yX8_sure cX8_sure 4 (some .int), Cond.constantLong RX8 163 (127), Cond.methodLink RX8 176 yX8_linked, Cond.instanceMethod yX8_linked, Cond.selects RX8 yX8_linked yX8_linked, Cond.code yX8_linked cX8_linked 5 (some .int)]
def wsX8_page : List Cond := .code yX8_page cX8_page 3 (some .int) :: ((wsX8_page_r1 ++ wsX8_page_r2) ++ wsX80)
def wsX8_letter : List Cond := .code yX8_letter cX8_letter 4 (some .int) :: ([.fieldLink RX8 48 "PageRoundsModel" "thrown" "I", .constant RX8 156 (-1000000001), .constantLong RX8 179 (4), .constantLong RX8 102 (7), .constant RX8 74 (-1000000002), .methodLink RX8 165 yX8_isPage, .instanceMethod yX8_isPage, .selects RX8 yX8_isPage yX8_isPage, .initialized RX8, .code yX8_isPage cX8_isPage 2 (some .boolean), .fieldLink RX8 7 "PageRoundsModel" "s" "[I", .methodLink RX8 70 yX8_in, .static yX8_in, .code yX8_in cX8_in 6 (some .boolean), .methodLink RX8 82 yX8_of, .instanceMethod yX8_of, .selects RX8 yX8_of yX8_of, .code yX8_of cX8_of 3 (some .int), .methodLink RX8 52 yX8_at, .static yX8_at, .code yX8_at cX8_at 1 (some .int)] ++ wsX80)
def wsX8_link : List Cond := .code yX8_link cX8_link 3 (some .int) :: ([.fieldLink RX8 48 "PageRoundsModel" "thrown" "I", .constant RX8 156 (-1000000001), .constantLong RX8 115 (3), .constant RX8 74 (-1000000002), .methodLink RX8 165 yX8_isPage, .instanceMethod yX8_isPage, .selects RX8 yX8_isPage yX8_isPage, .initialized RX8, .code yX8_isPage cX8_isPage 2 (some .boolean), .fieldLink RX8 7 "PageRoundsModel" "s" "[I", .methodLink RX8 70 yX8_in, .static yX8_in, .code yX8_in cX8_in 6 (some .boolean), .methodLink RX8 82 yX8_of, .instanceMethod yX8_of, .selects RX8 yX8_of yX8_of, .code yX8_of cX8_of 3 (some .int), .methodLink RX8 52 yX8_at, .static yX8_at, .code yX8_at cX8_at 1 (some .int)] ++ wsX80)
def wsX8_far : List Cond := .code yX8_far cX8_far 7 (some .int) :: ([.fieldLink RX8 48 "PageRoundsModel" "thrown" "I", .constant RX8 156 (-1000000001), .fieldLink RX8 7 "PageRoundsModel" "s" "[I", .methodLink RX8 165 yX8_isPage, .instanceMethod yX8_isPage, .selects RX8 yX8_isPage yX8_isPage, .initialized RX8, .code yX8_isPage cX8_isPage 2 (some .boolean), .methodLink RX8 70 yX8_in, .static yX8_in, .code yX8_in cX8_in 6 (some .boolean), .methodLink RX8 176 yX8_linked, .instanceMethod yX8_linked, .selects RX8 yX8_linked yX8_linked, .code yX8_linked cX8_linked 5 (some .int), .methodLink RX8 82 yX8_of, .instanceMethod yX8_of, .selects RX8 yX8_of yX8_of, .code yX8_of cX8_of 3 (some .int), .methodLink RX8 52 yX8_at, .static yX8_at, .code yX8_at cX8_at 1 (some .int)] ++ wsX80)
def wsX8_find : List Cond := .code yX8_find cX8_find 4 (some .int) :: ([.fieldLink RX8 48 "PageRoundsModel" "thrown" "I", .methodLink RX8 104 yX8_pageOf, .instanceMethod yX8_pageOf, .selects RX8 yX8_pageOf yX8_pageOf, .initialized RX8, .code yX8_pageOf cX8_pageOf 5 (some .int), .fieldLink RX8 7 "PageRoundsModel" "s" "[I", .methodLink RX8 82 yX8_of, .instanceMethod yX8_of, .selects RX8 yX8_of yX8_of, .code yX8_of cX8_of 3 (some .int), .methodLink RX8 52 yX8_at, .static yX8_at, .code yX8_at cX8_at 1 (some .int)] ++ wsX80)
def wsX8_weight_r1 : List Cond := [Cond.fieldLink RX8 48 "PageRoundsModel" "thrown" "I", Cond.constant RX8 156 (-1000000001), Cond.constantLong RX8 100 (9), Cond.constant RX8 74 (-1000000002), Cond.fieldLink RX8 7 "PageRoundsModel" "s" "[I", Cond.methodLink RX8 165 yX8_isPage, Cond.instanceMethod yX8_isPage, Cond.selects RX8 yX8_isPage yX8_isPage, Cond.initialized RX8, Cond.code yX8_isPage cX8_isPage 2 (some .boolean), Cond.methodLink RX8 70 yX8_in, Cond.static yX8_in, Cond.code yX8_in cX8_in 6 (some .boolean), Cond.methodLink RX8 126 yX8_notes, Cond.instanceMethod yX8_notes, Cond.selects RX8 yX8_notes yX8_notes, Cond.code yX8_notes cX8_notes 2 none, Cond.fieldLink RX8 133 "PageRoundsModel" "pastMany" "I", Cond.fieldLink RX8 19 "PageRoundsModel" "past" "[I", Cond.methodLink RX8 82 yX8_of, Cond.instanceMethod yX8_of, Cond.selects RX8 yX8_of yX8_of, Cond.code yX8_of cX8_of 3 (some .int), Cond.methodLink RX8 52 yX8_at]
def wsX8_weight_r2 : List Cond := [Cond.static yX8_at, Cond.code yX8_at cX8_at 1 (some .int)]
def wsX8_weight : List Cond := .code yX8_weight cX8_weight 4 (some .int) :: ((wsX8_weight_r1 ++ wsX8_weight_r2) ++ wsX80)
def wsX8_drop : List Cond := .code yX8_drop cX8_drop 2 (some .int) :: ([.fieldLink RX8 48 "PageRoundsModel" "thrown" "I", .constant RX8 156 (-1000000001), .fieldLink RX8 7 "PageRoundsModel" "s" "[I", .methodLink RX8 165 yX8_isPage, .instanceMethod yX8_isPage, .selects RX8 yX8_isPage yX8_isPage, .initialized RX8, .code yX8_isPage cX8_isPage 2 (some .boolean), .methodLink RX8 70 yX8_in, .static yX8_in, .code yX8_in cX8_in 6 (some .boolean), .methodLink RX8 126 yX8_notes, .instanceMethod yX8_notes, .selects RX8 yX8_notes yX8_notes, .code yX8_notes cX8_notes 2 none, .fieldLink RX8 133 "PageRoundsModel" "pastMany" "I", .fieldLink RX8 19 "PageRoundsModel" "past" "[I", .methodLink RX8 90 yX8_goes, .instanceMethod yX8_goes, .selects RX8 yX8_goes yX8_goes, .code yX8_goes cX8_goes 4 none, .methodLink RX8 52 yX8_at, .static yX8_at, .code yX8_at cX8_at 1 (some .int)] ++ wsX80)
def wsX8_draw : List Cond := .code yX8_draw cX8_draw 2 (some .int) :: ([.fieldLink RX8 181 "PageRoundsModel" "seed" "J", .constantLong RX8 185 (1103515245), .constantLong RX8 187 (12345), .constantLong RX8 189 (2147483648), .constantLong RX8 191 (65536)] ++ wsX80)
def wsX8_drifts_r1 : List Cond := [Cond.fieldLink RX8 13 "PageRoundsModel" "packet" "[I", Cond.methodLink RX8 193 yX8_draw, Cond.instanceMethod yX8_draw, Cond.selects RX8 yX8_draw yX8_draw, Cond.initialized RX8, Cond.code yX8_draw cX8_draw 2 (some .int), Cond.fieldLink RX8 181 "PageRoundsModel" "seed" "J", Cond.constantLong RX8 185 (1103515245), Cond.constantLong RX8 187 (12345), Cond.constantLong RX8 189 (2147483648), Cond.constantLong RX8 191 (65536), Cond.methodLink RX8 59 yX8_codeOf, Cond.static yX8_codeOf, Cond.code yX8_codeOf cX8_codeOf 9 (some .int), Cond.methodLink RX8 56 yX8_even, Cond.static yX8_even, Cond.code yX8_even cX8_even 1 (some .int), Cond.methodLink RX8 147 yX8_laid, Cond.static yX8_laid, Cond.code yX8_laid cX8_laid 2 (some .int), Cond.methodLink RX8 142 yX8_lettered, Cond.static yX8_lettered, Cond.code yX8_lettered cX8_lettered 1 (some .int), Cond.methodLink RX8 62 yX8_ones]
def wsX8_drifts_r2 : List Cond := [Cond.static yX8_ones, Cond.code yX8_ones cX8_ones 3 (some .int), Cond.methodLink RX8 139 yX8_comes, Cond.instanceMethod yX8_comes, Cond.selects RX8 yX8_comes yX8_comes, Cond.code yX8_comes cX8_comes 1 (some .int), Cond.fieldLink RX8 7 "PageRoundsModel" "s" "[I", Cond.methodLink RX8 126 yX8_notes, Cond.instanceMethod yX8_notes, Cond.selects RX8 yX8_notes yX8_notes, Cond.code yX8_notes cX8_notes 2 none, Cond.fieldLink RX8 133 "PageRoundsModel" "pastMany" "I", Cond.fieldLink RX8 19 "PageRoundsModel" "past" "[I", Cond.methodLink RX8 129 yX8_takes, Cond.instanceMethod yX8_takes, Cond.selects RX8 yX8_takes yX8_takes, Cond.code yX8_takes cX8_takes 4 (some .boolean), Cond.constantLong RX8 115 (3), Cond.constantLong RX8 102 (7), Cond.methodLink RX8 111 yX8_mends, Cond.instanceMethod yX8_mends, Cond.selects RX8 yX8_mends yX8_mends, Cond.code yX8_mends cX8_mends 4 none, Cond.constant RX8 81 (99999)]
def wsX8_drifts_r3 : List Cond := [Cond.methodLink RX8 77 yX8_isMended, Cond.static yX8_isMended, Cond.code yX8_isMended cX8_isMended 2 (some .boolean), Cond.methodLink RX8 65 yX8_numberOf, Cond.static yX8_numberOf, Cond.code yX8_numberOf cX8_numberOf 3 (some .int), Cond.methodLink RX8 97 yX8_number, Cond.instanceMethod yX8_number, Cond.selects RX8 yX8_number yX8_number, Cond.code yX8_number cX8_number 2 (some .int), Cond.methodLink RX8 70 yX8_in, Cond.static yX8_in, Cond.code yX8_in cX8_in 6 (some .boolean), Cond.methodLink RX8 117 yX8_heads, Cond.instanceMethod yX8_heads, Cond.selects RX8 yX8_heads yX8_heads, Cond.code yX8_heads cX8_heads 5 (some .boolean), Cond.constantLong RX8 100 (9), Cond.methodLink RX8 104 yX8_pageOf, Cond.instanceMethod yX8_pageOf, Cond.selects RX8 yX8_pageOf yX8_pageOf, Cond.code yX8_pageOf cX8_pageOf 5 (some .int), Cond.methodLink RX8 82 yX8_of, Cond.instanceMethod yX8_of]
def wsX8_drifts_r4 : List Cond := [Cond.selects RX8 yX8_of yX8_of, Cond.code yX8_of cX8_of 3 (some .int), Cond.methodLink RX8 52 yX8_at, Cond.static yX8_at, Cond.code yX8_at cX8_at 1 (some .int), Cond.methodLink RX8 108 yX8_newPage, Cond.instanceMethod yX8_newPage, Cond.selects RX8 yX8_newPage yX8_newPage, Cond.code yX8_newPage cX8_newPage 5 (some .int), Cond.methodLink RX8 86 yX8_oldest, Cond.instanceMethod yX8_oldest, Cond.selects RX8 yX8_oldest yX8_oldest, Cond.code yX8_oldest cX8_oldest 3 (some .int), Cond.methodLink RX8 90 yX8_goes, Cond.instanceMethod yX8_goes, Cond.selects RX8 yX8_goes yX8_goes, Cond.code yX8_goes cX8_goes 4 none, Cond.methodLink RX8 94 yX8_empties, Cond.instanceMethod yX8_empties, Cond.selects RX8 yX8_empties yX8_empties, Cond.code yX8_empties cX8_empties 3 none, Cond.methodLink RX8 120 yX8_links, Cond.instanceMethod yX8_links, Cond.selects RX8 yX8_links yX8_links]
def wsX8_drifts_r5 : List Cond := [Cond.code yX8_links cX8_links 5 none, Cond.methodLink RX8 123 yX8_rows, Cond.instanceMethod yX8_rows, Cond.selects RX8 yX8_rows yX8_rows, Cond.code yX8_rows cX8_rows 6 none]
def wsX8_drifts : List Cond := .code yX8_drifts cX8_drifts 4 none :: ((wsX8_drifts_r1 ++ (wsX8_drifts_r2 ++ (wsX8_drifts_r3 ++ (wsX8_drifts_r4 ++ wsX8_drifts_r5)))) ++ wsX80)
def wsX8_drift_r1 : List Cond := [Cond.fieldLink RX8 48 "PageRoundsModel" "thrown" "I", Cond.constantLong RX8 145 (16), Cond.constant RX8 74 (-1000000002), Cond.fieldLink RX8 7 "PageRoundsModel" "s" "[I", Cond.methodLink RX8 70 yX8_in, Cond.static yX8_in, Cond.initialized RX8, Cond.code yX8_in cX8_in 6 (some .boolean), Cond.methodLink RX8 196 yX8_drifts, Cond.instanceMethod yX8_drifts, Cond.selects RX8 yX8_drifts yX8_drifts, Cond.code yX8_drifts cX8_drifts 4 none, Cond.fieldLink RX8 13 "PageRoundsModel" "packet" "[I", Cond.methodLink RX8 193 yX8_draw, Cond.instanceMethod yX8_draw, Cond.selects RX8 yX8_draw yX8_draw, Cond.code yX8_draw cX8_draw 2 (some .int), Cond.fieldLink RX8 181 "PageRoundsModel" "seed" "J", Cond.constantLong RX8 185 (1103515245), Cond.constantLong RX8 187 (12345), Cond.constantLong RX8 189 (2147483648), Cond.constantLong RX8 191 (65536), Cond.methodLink RX8 59 yX8_codeOf, Cond.static yX8_codeOf]
def wsX8_drift_r2 : List Cond := [Cond.code yX8_codeOf cX8_codeOf 9 (some .int), Cond.methodLink RX8 56 yX8_even, Cond.static yX8_even, Cond.code yX8_even cX8_even 1 (some .int), Cond.methodLink RX8 147 yX8_laid, Cond.static yX8_laid, Cond.code yX8_laid cX8_laid 2 (some .int), Cond.methodLink RX8 142 yX8_lettered, Cond.static yX8_lettered, Cond.code yX8_lettered cX8_lettered 1 (some .int), Cond.methodLink RX8 62 yX8_ones, Cond.static yX8_ones, Cond.code yX8_ones cX8_ones 3 (some .int), Cond.methodLink RX8 139 yX8_comes, Cond.instanceMethod yX8_comes, Cond.selects RX8 yX8_comes yX8_comes, Cond.code yX8_comes cX8_comes 1 (some .int), Cond.methodLink RX8 126 yX8_notes, Cond.instanceMethod yX8_notes, Cond.selects RX8 yX8_notes yX8_notes, Cond.code yX8_notes cX8_notes 2 none, Cond.fieldLink RX8 133 "PageRoundsModel" "pastMany" "I", Cond.fieldLink RX8 19 "PageRoundsModel" "past" "[I", Cond.methodLink RX8 129 yX8_takes]
def wsX8_drift_r3 : List Cond := [Cond.instanceMethod yX8_takes, Cond.selects RX8 yX8_takes yX8_takes, Cond.code yX8_takes cX8_takes 4 (some .boolean), Cond.constantLong RX8 115 (3), Cond.constantLong RX8 102 (7), Cond.methodLink RX8 111 yX8_mends, Cond.instanceMethod yX8_mends, Cond.selects RX8 yX8_mends yX8_mends, Cond.code yX8_mends cX8_mends 4 none, Cond.constant RX8 81 (99999), Cond.methodLink RX8 77 yX8_isMended, Cond.static yX8_isMended, Cond.code yX8_isMended cX8_isMended 2 (some .boolean), Cond.methodLink RX8 65 yX8_numberOf, Cond.static yX8_numberOf, Cond.code yX8_numberOf cX8_numberOf 3 (some .int), Cond.methodLink RX8 97 yX8_number, Cond.instanceMethod yX8_number, Cond.selects RX8 yX8_number yX8_number, Cond.code yX8_number cX8_number 2 (some .int), Cond.methodLink RX8 117 yX8_heads, Cond.instanceMethod yX8_heads, Cond.selects RX8 yX8_heads yX8_heads, Cond.code yX8_heads cX8_heads 5 (some .boolean)]
def wsX8_drift_r4 : List Cond := [Cond.constantLong RX8 100 (9), Cond.methodLink RX8 104 yX8_pageOf, Cond.instanceMethod yX8_pageOf, Cond.selects RX8 yX8_pageOf yX8_pageOf, Cond.code yX8_pageOf cX8_pageOf 5 (some .int), Cond.methodLink RX8 82 yX8_of, Cond.instanceMethod yX8_of, Cond.selects RX8 yX8_of yX8_of, Cond.code yX8_of cX8_of 3 (some .int), Cond.methodLink RX8 52 yX8_at, Cond.static yX8_at, Cond.code yX8_at cX8_at 1 (some .int), Cond.methodLink RX8 108 yX8_newPage, Cond.instanceMethod yX8_newPage, Cond.selects RX8 yX8_newPage yX8_newPage, Cond.code yX8_newPage cX8_newPage 5 (some .int), Cond.methodLink RX8 86 yX8_oldest, Cond.instanceMethod yX8_oldest, Cond.selects RX8 yX8_oldest yX8_oldest, Cond.code yX8_oldest cX8_oldest 3 (some .int), Cond.methodLink RX8 90 yX8_goes, Cond.instanceMethod yX8_goes, Cond.selects RX8 yX8_goes yX8_goes, Cond.code yX8_goes cX8_goes 4 none]
def wsX8_drift_r5 : List Cond := [Cond.methodLink RX8 94 yX8_empties, Cond.instanceMethod yX8_empties, Cond.selects RX8 yX8_empties yX8_empties, Cond.code yX8_empties cX8_empties 3 none, Cond.methodLink RX8 120 yX8_links, Cond.instanceMethod yX8_links, Cond.selects RX8 yX8_links yX8_links, Cond.code yX8_links cX8_links 5 none, Cond.methodLink RX8 123 yX8_rows, Cond.instanceMethod yX8_rows, Cond.selects RX8 yX8_rows yX8_rows, Cond.code yX8_rows cX8_rows 6 none]
def wsX8_drift : List Cond := .code yX8_drift cX8_drift 3 (some .int) :: ((wsX8_drift_r1 ++ (wsX8_drift_r2 ++ (wsX8_drift_r3 ++ (wsX8_drift_r4 ++ wsX8_drift_r5)))) ++ wsX80)
def wsX8_undo : List Cond := .code yX8_undo cX8_undo 3 (some .int) :: ([.fieldLink RX8 48 "PageRoundsModel" "thrown" "I", .constantLong RX8 145 (16), .constant RX8 74 (-1000000002), .fieldLink RX8 133 "PageRoundsModel" "pastMany" "I", .constant RX8 199 (-1000000003), .fieldLink RX8 7 "PageRoundsModel" "s" "[I", .fieldLink RX8 19 "PageRoundsModel" "past" "[I", .methodLink RX8 70 yX8_in, .static yX8_in, .initialized RX8, .code yX8_in cX8_in 6 (some .boolean)] ++ wsX80)
def wsX8_isBetter : List Cond := .code yX8_isBetter cX8_isBetter 7 (some .boolean) :: ([.fieldLink RX8 42 "PageRoundsModel" "lastEnd" "[I", .fieldLink RX8 39 "PageRoundsModel" "often" "[I", .methodLink RX8 82 yX8_of, .instanceMethod yX8_of, .selects RX8 yX8_of yX8_of, .initialized RX8, .code yX8_of cX8_of 3 (some .int), .fieldLink RX8 7 "PageRoundsModel" "s" "[I", .methodLink RX8 52 yX8_at, .static yX8_at, .code yX8_at cX8_at 1 (some .int), .methodLink RX8 170 yX8_lengthOf, .instanceMethod yX8_lengthOf, .selects RX8 yX8_lengthOf yX8_lengthOf, .code yX8_lengthOf cX8_lengthOf 4 (some .int), .methodLink RX8 157 yX8_hasLinks, .instanceMethod yX8_hasLinks, .selects RX8 yX8_hasLinks yX8_hasLinks, .code yX8_hasLinks cX8_hasLinks 4 (some .boolean), .methodLink RX8 160 yX8_lacks, .instanceMethod yX8_lacks, .selects RX8 yX8_lacks yX8_lacks, .code yX8_lacks cX8_lacks 4 (some .int)] ++ wsX80)
def wsX8_waited : List Cond := .code yX8_waited cX8_waited 3 none :: ([.fieldLink RX8 45 "PageRoundsModel" "wait" "[I", .fieldLink RX8 42 "PageRoundsModel" "lastEnd" "[I"] ++ wsX80)
def wsX8_sends_r1 : List Cond := [Cond.fieldLink RX8 39 "PageRoundsModel" "often" "[I", Cond.fieldLink RX8 42 "PageRoundsModel" "lastEnd" "[I", Cond.fieldLink RX8 45 "PageRoundsModel" "wait" "[I", Cond.fieldLink RX8 7 "PageRoundsModel" "s" "[I", Cond.fieldLink RX8 36 "PageRoundsModel" "order" "[I", Cond.methodLink RX8 200 yX8_isBetter, Cond.instanceMethod yX8_isBetter, Cond.selects RX8 yX8_isBetter yX8_isBetter, Cond.initialized RX8, Cond.code yX8_isBetter cX8_isBetter 7 (some .boolean), Cond.methodLink RX8 82 yX8_of, Cond.instanceMethod yX8_of, Cond.selects RX8 yX8_of yX8_of, Cond.code yX8_of cX8_of 3 (some .int), Cond.methodLink RX8 52 yX8_at, Cond.static yX8_at, Cond.code yX8_at cX8_at 1 (some .int), Cond.methodLink RX8 170 yX8_lengthOf, Cond.instanceMethod yX8_lengthOf, Cond.selects RX8 yX8_lengthOf yX8_lengthOf, Cond.code yX8_lengthOf cX8_lengthOf 4 (some .int), Cond.methodLink RX8 157 yX8_hasLinks, Cond.instanceMethod yX8_hasLinks, Cond.selects RX8 yX8_hasLinks yX8_hasLinks]
def wsX8_sends_r2 : List Cond := [Cond.code yX8_hasLinks cX8_hasLinks 4 (some .boolean), Cond.methodLink RX8 160 yX8_lacks, Cond.instanceMethod yX8_lacks, Cond.selects RX8 yX8_lacks yX8_lacks, Cond.code yX8_lacks cX8_lacks 4 (some .int), Cond.methodLink RX8 204 yX8_waited, Cond.instanceMethod yX8_waited, Cond.selects RX8 yX8_waited yX8_waited, Cond.code yX8_waited cX8_waited 3 none]
def wsX8_sends : List Cond := .code yX8_sends cX8_sends 7 none :: ((wsX8_sends_r1 ++ wsX8_sends_r2) ++ wsX80)
def wsX8_sent_r1 : List Cond := [Cond.fieldLink RX8 48 "PageRoundsModel" "thrown" "I", Cond.constantLong RX8 115 (3), Cond.constantLong RX8 207 (59), Cond.constant RX8 74 (-1000000002), Cond.fieldLink RX8 7 "PageRoundsModel" "s" "[I", Cond.fieldLink RX8 36 "PageRoundsModel" "order" "[I", Cond.methodLink RX8 70 yX8_in, Cond.static yX8_in, Cond.initialized RX8, Cond.code yX8_in cX8_in 6 (some .boolean), Cond.methodLink RX8 209 yX8_sends, Cond.instanceMethod yX8_sends, Cond.selects RX8 yX8_sends yX8_sends, Cond.code yX8_sends cX8_sends 7 none, Cond.fieldLink RX8 39 "PageRoundsModel" "often" "[I", Cond.fieldLink RX8 42 "PageRoundsModel" "lastEnd" "[I", Cond.fieldLink RX8 45 "PageRoundsModel" "wait" "[I", Cond.methodLink RX8 200 yX8_isBetter, Cond.instanceMethod yX8_isBetter, Cond.selects RX8 yX8_isBetter yX8_isBetter, Cond.code yX8_isBetter cX8_isBetter 7 (some .boolean), Cond.methodLink RX8 82 yX8_of, Cond.instanceMethod yX8_of, Cond.selects RX8 yX8_of yX8_of]
def wsX8_sent_r2 : List Cond := [Cond.code yX8_of cX8_of 3 (some .int), Cond.methodLink RX8 52 yX8_at, Cond.static yX8_at, Cond.code yX8_at cX8_at 1 (some .int), Cond.methodLink RX8 170 yX8_lengthOf, Cond.instanceMethod yX8_lengthOf, Cond.selects RX8 yX8_lengthOf yX8_lengthOf, Cond.code yX8_lengthOf cX8_lengthOf 4 (some .int), Cond.methodLink RX8 157 yX8_hasLinks, Cond.instanceMethod yX8_hasLinks, Cond.selects RX8 yX8_hasLinks yX8_hasLinks, Cond.code yX8_hasLinks cX8_hasLinks 4 (some .boolean), Cond.methodLink RX8 160 yX8_lacks, Cond.instanceMethod yX8_lacks, Cond.selects RX8 yX8_lacks yX8_lacks, Cond.code yX8_lacks cX8_lacks 4 (some .int), Cond.methodLink RX8 204 yX8_waited, Cond.instanceMethod yX8_waited, Cond.selects RX8 yX8_waited yX8_waited, Cond.code yX8_waited cX8_waited 3 none]
def wsX8_sent : List Cond := .code yX8_sent cX8_sent 3 (some .int) :: ((wsX8_sent_r1 ++ wsX8_sent_r2) ++ wsX80)
def wsX8_waits_r1 : List Cond := [Cond.fieldLink RX8 48 "PageRoundsModel" "thrown" "I", Cond.constant RX8 156 (-1000000001), Cond.constantLong RX8 115 (3), Cond.constantLong RX8 212 (60), Cond.constant RX8 74 (-1000000002), Cond.fieldLink RX8 45 "PageRoundsModel" "wait" "[I", Cond.methodLink RX8 165 yX8_isPage, Cond.instanceMethod yX8_isPage, Cond.selects RX8 yX8_isPage yX8_isPage, Cond.initialized RX8, Cond.code yX8_isPage cX8_isPage 2 (some .boolean), Cond.fieldLink RX8 7 "PageRoundsModel" "s" "[I", Cond.methodLink RX8 70 yX8_in, Cond.static yX8_in, Cond.code yX8_in cX8_in 6 (some .boolean), Cond.methodLink RX8 209 yX8_sends, Cond.instanceMethod yX8_sends, Cond.selects RX8 yX8_sends yX8_sends, Cond.code yX8_sends cX8_sends 7 none, Cond.fieldLink RX8 39 "PageRoundsModel" "often" "[I", Cond.fieldLink RX8 42 "PageRoundsModel" "lastEnd" "[I", Cond.fieldLink RX8 36 "PageRoundsModel" "order" "[I", Cond.methodLink RX8 200 yX8_isBetter, Cond.instanceMethod yX8_isBetter]
def wsX8_waits_r2 : List Cond := [Cond.selects RX8 yX8_isBetter yX8_isBetter, Cond.code yX8_isBetter cX8_isBetter 7 (some .boolean), Cond.methodLink RX8 82 yX8_of, Cond.instanceMethod yX8_of, Cond.selects RX8 yX8_of yX8_of, Cond.code yX8_of cX8_of 3 (some .int), Cond.methodLink RX8 52 yX8_at, Cond.static yX8_at, Cond.code yX8_at cX8_at 1 (some .int), Cond.methodLink RX8 170 yX8_lengthOf, Cond.instanceMethod yX8_lengthOf, Cond.selects RX8 yX8_lengthOf yX8_lengthOf, Cond.code yX8_lengthOf cX8_lengthOf 4 (some .int), Cond.methodLink RX8 157 yX8_hasLinks, Cond.instanceMethod yX8_hasLinks, Cond.selects RX8 yX8_hasLinks yX8_hasLinks, Cond.code yX8_hasLinks cX8_hasLinks 4 (some .boolean), Cond.methodLink RX8 160 yX8_lacks, Cond.instanceMethod yX8_lacks, Cond.selects RX8 yX8_lacks yX8_lacks, Cond.code yX8_lacks cX8_lacks 4 (some .int), Cond.methodLink RX8 204 yX8_waited, Cond.instanceMethod yX8_waited, Cond.selects RX8 yX8_waited yX8_waited]
def wsX8_waits_r3 : List Cond := [Cond.code yX8_waited cX8_waited 3 none]
def wsX8_waits : List Cond := .code yX8_waits cX8_waits 4 (some .int) :: ((wsX8_waits_r1 ++ (wsX8_waits_r2 ++ wsX8_waits_r3)) ++ wsX80)
def wsX8_worstBy_r1 : List Cond := [Cond.fieldLink RX8 7 "PageRoundsModel" "s" "[I", Cond.fieldLink RX8 45 "PageRoundsModel" "wait" "[I", Cond.methodLink RX8 209 yX8_sends, Cond.instanceMethod yX8_sends, Cond.selects RX8 yX8_sends yX8_sends, Cond.initialized RX8, Cond.code yX8_sends cX8_sends 7 none, Cond.fieldLink RX8 39 "PageRoundsModel" "often" "[I", Cond.fieldLink RX8 42 "PageRoundsModel" "lastEnd" "[I", Cond.fieldLink RX8 36 "PageRoundsModel" "order" "[I", Cond.methodLink RX8 200 yX8_isBetter, Cond.instanceMethod yX8_isBetter, Cond.selects RX8 yX8_isBetter yX8_isBetter, Cond.code yX8_isBetter cX8_isBetter 7 (some .boolean), Cond.methodLink RX8 82 yX8_of, Cond.instanceMethod yX8_of, Cond.selects RX8 yX8_of yX8_of, Cond.code yX8_of cX8_of 3 (some .int), Cond.methodLink RX8 52 yX8_at, Cond.static yX8_at, Cond.code yX8_at cX8_at 1 (some .int), Cond.methodLink RX8 170 yX8_lengthOf, Cond.instanceMethod yX8_lengthOf, Cond.selects RX8 yX8_lengthOf yX8_lengthOf]
def wsX8_worstBy_r2 : List Cond := [Cond.code yX8_lengthOf cX8_lengthOf 4 (some .int), Cond.methodLink RX8 157 yX8_hasLinks, Cond.instanceMethod yX8_hasLinks, Cond.selects RX8 yX8_hasLinks yX8_hasLinks, Cond.code yX8_hasLinks cX8_hasLinks 4 (some .boolean), Cond.methodLink RX8 160 yX8_lacks, Cond.instanceMethod yX8_lacks, Cond.selects RX8 yX8_lacks yX8_lacks, Cond.code yX8_lacks cX8_lacks 4 (some .int), Cond.methodLink RX8 204 yX8_waited, Cond.instanceMethod yX8_waited, Cond.selects RX8 yX8_waited yX8_waited, Cond.code yX8_waited cX8_waited 3 none]
def wsX8_worstBy : List Cond := .code yX8_worstBy cX8_worstBy 6 (some .int) :: ((wsX8_worstBy_r1 ++ wsX8_worstBy_r2) ++ wsX80)
def wsX8_bestRule_r1 : List Cond := [Cond.fieldLink RX8 48 "PageRoundsModel" "thrown" "I", Cond.constantLong RX8 212 (60), Cond.constant RX8 74 (-1000000002), Cond.fieldLink RX8 7 "PageRoundsModel" "s" "[I", Cond.methodLink RX8 70 yX8_in, Cond.static yX8_in, Cond.initialized RX8, Cond.code yX8_in cX8_in 6 (some .boolean), Cond.methodLink RX8 214 yX8_worstBy, Cond.instanceMethod yX8_worstBy, Cond.selects RX8 yX8_worstBy yX8_worstBy, Cond.code yX8_worstBy cX8_worstBy 6 (some .int), Cond.fieldLink RX8 45 "PageRoundsModel" "wait" "[I", Cond.methodLink RX8 209 yX8_sends, Cond.instanceMethod yX8_sends, Cond.selects RX8 yX8_sends yX8_sends, Cond.code yX8_sends cX8_sends 7 none, Cond.fieldLink RX8 39 "PageRoundsModel" "often" "[I", Cond.fieldLink RX8 42 "PageRoundsModel" "lastEnd" "[I", Cond.fieldLink RX8 36 "PageRoundsModel" "order" "[I", Cond.methodLink RX8 200 yX8_isBetter, Cond.instanceMethod yX8_isBetter, Cond.selects RX8 yX8_isBetter yX8_isBetter, Cond.code yX8_isBetter cX8_isBetter 7 (some .boolean)]
def wsX8_bestRule_r2 : List Cond := [Cond.methodLink RX8 82 yX8_of, Cond.instanceMethod yX8_of, Cond.selects RX8 yX8_of yX8_of, Cond.code yX8_of cX8_of 3 (some .int), Cond.methodLink RX8 52 yX8_at, Cond.static yX8_at, Cond.code yX8_at cX8_at 1 (some .int), Cond.methodLink RX8 170 yX8_lengthOf, Cond.instanceMethod yX8_lengthOf, Cond.selects RX8 yX8_lengthOf yX8_lengthOf, Cond.code yX8_lengthOf cX8_lengthOf 4 (some .int), Cond.methodLink RX8 157 yX8_hasLinks, Cond.instanceMethod yX8_hasLinks, Cond.selects RX8 yX8_hasLinks yX8_hasLinks, Cond.code yX8_hasLinks cX8_hasLinks 4 (some .boolean), Cond.methodLink RX8 160 yX8_lacks, Cond.instanceMethod yX8_lacks, Cond.selects RX8 yX8_lacks yX8_lacks, Cond.code yX8_lacks cX8_lacks 4 (some .int), Cond.methodLink RX8 204 yX8_waited, Cond.instanceMethod yX8_waited, Cond.selects RX8 yX8_waited yX8_waited, Cond.code yX8_waited cX8_waited 3 none]
def wsX8_bestRule : List Cond := .code yX8_bestRule cX8_bestRule 4 (some .int) :: ((wsX8_bestRule_r1 ++ wsX8_bestRule_r2) ++ wsX80)
def wsX8_write : List Cond := .code yX8_write cX8_write 5 (some .int) :: ([.fieldLink RX8 48 "PageRoundsModel" "thrown" "I", .constant RX8 156 (-1000000001), .constantLong RX8 179 (4), .constantLong RX8 102 (7), .constantLong RX8 163 (127), .constant RX8 74 (-1000000002), .fieldLink RX8 150 "PageRoundsModel" "entryMany" "I", .constant RX8 217 (-1000000004), .fieldLink RX8 33 "PageRoundsModel" "entries" "[I", .methodLink RX8 165 yX8_isPage, .instanceMethod yX8_isPage, .selects RX8 yX8_isPage yX8_isPage, .initialized RX8, .code yX8_isPage cX8_isPage 2 (some .boolean), .fieldLink RX8 7 "PageRoundsModel" "s" "[I", .methodLink RX8 70 yX8_in, .static yX8_in, .code yX8_in cX8_in 6 (some .boolean)] ++ wsX80)
def wsX8_tear : List Cond := .code yX8_tear cX8_tear 2 (some .int) :: ([.fieldLink RX8 48 "PageRoundsModel" "thrown" "I", .fieldLink RX8 150 "PageRoundsModel" "entryMany" "I"] ++ wsX80)
def wsX8_seed : List Cond := .code yX8_seed cX8_seed 3 (some .int) :: ([.fieldLink RX8 48 "PageRoundsModel" "thrown" "I", .constant RX8 74 (-1000000002), .fieldLink RX8 181 "PageRoundsModel" "seed" "J"] ++ wsX80)
def wsX8_keep : List Cond := .code yX8_keep cX8_keep 3 (some .int) :: ([.fieldLink RX8 48 "PageRoundsModel" "thrown" "I", .constant RX8 156 (-1000000001), .fieldLink RX8 22 "PageRoundsModel" "kept" "[I", .fieldLink RX8 7 "PageRoundsModel" "s" "[I", .fieldLink RX8 25 "PageRoundsModel" "keptSeed" "[J", .fieldLink RX8 181 "PageRoundsModel" "seed" "J", .fieldLink RX8 29 "PageRoundsModel" "isKept" "[Z", .fieldLink RX8 133 "PageRoundsModel" "pastMany" "I", .methodLink RX8 70 yX8_in, .static yX8_in, .initialized RX8, .code yX8_in cX8_in 6 (some .boolean)] ++ wsX80)
def wsX8_goBack : List Cond := .code yX8_goBack cX8_goBack 3 (some .int) :: ([.fieldLink RX8 48 "PageRoundsModel" "thrown" "I", .constant RX8 156 (-1000000001), .fieldLink RX8 29 "PageRoundsModel" "isKept" "[Z", .constant RX8 199 (-1000000003), .fieldLink RX8 7 "PageRoundsModel" "s" "[I", .fieldLink RX8 22 "PageRoundsModel" "kept" "[I", .fieldLink RX8 25 "PageRoundsModel" "keptSeed" "[J", .fieldLink RX8 181 "PageRoundsModel" "seed" "J", .fieldLink RX8 133 "PageRoundsModel" "pastMany" "I", .methodLink RX8 70 yX8_in, .static yX8_in, .initialized RX8, .code yX8_in cX8_in 6 (some .boolean)] ++ wsX80)
def wsJ9_max_7cf53 : List Cond := .code yJ9_max_7cf53 cJ9_max_7cf53 2 (some .int) :: ([])
def wsJ9_min_7cf53 : List Cond := .code yJ9_min_7cf53 cJ9_min_7cf53 2 (some .int) :: ([])
abbrev vwCl : List vw_C := [(RX2, TX2, 5), (RX4, TX4, 7), (RX5, TX5, 8), (RX6, TX6, 3), (RX7, TX7, 9), (RX8, TX8, 17)]
end
section
set_option maxRecDepth 20000 in
theorem ggX0_length_X0_lacks : GoodIn wsX0_length wsX0_lacks := goodIn_r _ [4, 5, 6, 3, 7, 8, 9, 10, 11, 12, 13, 14, 15, 16, 17, 32, 33, 34, 35, 36, 37, 38, 39] (by decide +kernel) (by decide +kernel)
set_option maxRecDepth 20000 in
theorem gX0_length_X0_lacks : GoodIn wsX0_length (va_wsS RX0 9 yX0_lacks wsX0_lacks) := goodIn_app (goodIn_of _ (by decide +kernel)) ggX0_length_X0_lacks
set_option maxRecDepth 20000 in
theorem ggX0_length_J6_bitCount_0f7a4 : GoodIn wsX0_length wsJ6_bitCount_0f7a4 := goodIn_r _ [21, 22, 23, 24] (by decide +kernel) (by decide +kernel)
set_option maxRecDepth 20000 in
theorem gX0_length_J6_bitCount_0f7a4 : GoodIn wsX0_length (va_wsS RX0 15 yJ6_bitCount_0f7a4 wsJ6_bitCount_0f7a4) := goodIn_app (goodIn_of _ (by decide +kernel)) ggX0_length_J6_bitCount_0f7a4
set_option maxRecDepth 20000 in
theorem ggX0_length_X0_hasLinks : GoodIn wsX0_length wsX0_hasLinks := goodIn_r _ [27, 28, 29, 30, 11, 31, 13, 14, 15, 16, 17, 32, 33, 34, 35, 36, 37, 38, 39] (by decide +kernel) (by decide +kernel)
set_option maxRecDepth 20000 in
theorem gX0_length_X0_hasLinks : GoodIn wsX0_length (va_wsS RX0 21 yX0_hasLinks wsX0_hasLinks) := goodIn_app (goodIn_of _ (by decide +kernel)) ggX0_length_X0_hasLinks
theorem dX0_length_0 : decode cX0_length 0 = .ok (.iconst 5, 1) := by decide +kernel
theorem dX0_length_1 : decode cX0_length 1 = .ok (.aload_n 0, 1) := by decide +kernel
theorem dX0_length_2 : decode cX0_length 2 = .ok (.iload_n 1, 1) := by decide +kernel
theorem dX0_length_3 : decode cX0_length 3 = .ok (.invokestatic 9, 3) := by decide +kernel
theorem dX0_length_6 : decode cX0_length 6 = .ok (.invokestatic 15, 3) := by decide +kernel
theorem dX0_length_9 : decode cX0_length 9 = .ok (.isub, 1) := by decide +kernel
theorem dX0_length_10 : decode cX0_length 10 = .ok (.istore_n 2, 1) := by decide +kernel
theorem dX0_length_11 : decode cX0_length 11 = .ok (.iconst 1, 1) := by decide +kernel
theorem dX0_length_12 : decode cX0_length 12 = .ok (.iload_n 2, 1) := by decide +kernel
theorem dX0_length_13 : decode cX0_length 13 = .ok (.iadd, 1) := by decide +kernel
theorem dX0_length_14 : decode cX0_length 14 = .ok (.aload_n 0, 1) := by decide +kernel
theorem dX0_length_15 : decode cX0_length 15 = .ok (.iload_n 1, 1) := by decide +kernel
theorem dX0_length_16 : decode cX0_length 16 = .ok (.invokestatic 21, 3) := by decide +kernel
theorem dX0_length_19 : decode cX0_length 19 = .ok (.ifCond .eq 7, 3) := by decide +kernel
theorem dX0_length_22 : decode cX0_length 22 = .ok (.iconst 1, 1) := by decide +kernel
theorem dX0_length_23 : decode cX0_length 23 = .ok (.goto 4, 3) := by decide +kernel
theorem dX0_length_26 : decode cX0_length 26 = .ok (.iconst 0, 1) := by decide +kernel
theorem dX0_length_27 : decode cX0_length 27 = .ok (.iadd, 1) := by decide +kernel
theorem dX0_length_28 : decode cX0_length 28 = .ok (.ireturn, 1) := by decide +kernel
set_option maxRecDepth 20000 in
theorem ggX0_lacks_X0_hasLetters : GoodIn wsX0_lacks wsX0_hasLetters := goodIn_r _ [4, 5, 6, 7, 8, 9, 10, 11, 12, 13, 14, 15, 16, 17, 18, 19, 20, 21, 22] (by decide +kernel) (by decide +kernel)
set_option maxRecDepth 20000 in
theorem gX0_lacks_X0_hasLetters : GoodIn wsX0_lacks (va_wsS RX0 25 yX0_hasLetters wsX0_hasLetters) := goodIn_app (goodIn_of _ (by decide +kernel)) ggX0_lacks_X0_hasLetters
theorem dX0_lacks_0 : decode cX0_lacks 0 = .ok (.iconst 0, 1) := by decide +kernel
theorem dX0_lacks_1 : decode cX0_lacks 1 = .ok (.istore_n 2, 1) := by decide +kernel
theorem dX0_lacks_2 : decode cX0_lacks 2 = .ok (.iconst 0, 1) := by decide +kernel
theorem dX0_lacks_3 : decode cX0_lacks 3 = .ok (.istore_n 3, 1) := by decide +kernel
theorem dX0_lacks_4 : decode cX0_lacks 4 = .ok (.iload_n 3, 1) := by decide +kernel
theorem dX0_lacks_5 : decode cX0_lacks 5 = .ok (.iconst 5, 1) := by decide +kernel
theorem dX0_lacks_6 : decode cX0_lacks 6 = .ok (.if_icmp .ge 24, 3) := by decide +kernel
theorem dX0_lacks_9 : decode cX0_lacks 9 = .ok (.aload_n 0, 1) := by decide +kernel
theorem dX0_lacks_10 : decode cX0_lacks 10 = .ok (.iload_n 1, 1) := by decide +kernel
theorem dX0_lacks_11 : decode cX0_lacks 11 = .ok (.iload_n 3, 1) := by decide +kernel
theorem dX0_lacks_12 : decode cX0_lacks 12 = .ok (.invokestatic 25, 3) := by decide +kernel
theorem dX0_lacks_15 : decode cX0_lacks 15 = .ok (.ifCond .ne 9, 3) := by decide +kernel
theorem dX0_lacks_18 : decode cX0_lacks 18 = .ok (.iload_n 2, 1) := by decide +kernel
theorem dX0_lacks_19 : decode cX0_lacks 19 = .ok (.iconst 1, 1) := by decide +kernel
theorem dX0_lacks_20 : decode cX0_lacks 20 = .ok (.iload_n 3, 1) := by decide +kernel
theorem dX0_lacks_21 : decode cX0_lacks 21 = .ok (.ishl, 1) := by decide +kernel
theorem dX0_lacks_22 : decode cX0_lacks 22 = .ok (.ior, 1) := by decide +kernel
theorem dX0_lacks_23 : decode cX0_lacks 23 = .ok (.istore_n 2, 1) := by decide +kernel
theorem dX0_lacks_24 : decode cX0_lacks 24 = .ok (.iinc 3 1, 3) := by decide +kernel
theorem dX0_lacks_27 : decode cX0_lacks 27 = .ok (.goto (-23), 3) := by decide +kernel
theorem dX0_lacks_30 : decode cX0_lacks 30 = .ok (.iload_n 2, 1) := by decide +kernel
theorem dX0_lacks_31 : decode cX0_lacks 31 = .ok (.ireturn, 1) := by decide +kernel
set_option maxRecDepth 20000 in
theorem ggX0_sureOnes_X5_letterAt : GoodIn wsX0_sureOnes wsX5_letterAt := goodIn_r _ [5, 6, 7, 8, 4, 9, 10, 17, 18, 19, 20, 21, 22, 23, 24] (by decide +kernel) (by decide +kernel)
set_option maxRecDepth 20000 in
theorem gX0_sureOnes_X5_letterAt : GoodIn wsX0_sureOnes (wsV RX0 29 RX5 yX5_letterAt wsX5_letterAt) := goodIn_app (goodIn_of _ (by decide +kernel)) ggX0_sureOnes_X5_letterAt
set_option maxRecDepth 20000 in
theorem ggX0_sureOnes_X5_isSure : GoodIn wsX0_sureOnes wsX5_isSure := goodIn_r _ [13, 14, 15, 16] (by decide +kernel) (by decide +kernel)
set_option maxRecDepth 20000 in
theorem gX0_sureOnes_X5_isSure : GoodIn wsX0_sureOnes (va_wsS RX0 35 yX5_isSure wsX5_isSure) := goodIn_app (goodIn_of _ (by decide +kernel)) ggX0_sureOnes_X5_isSure
theorem dX0_sureOnes_0 : decode cX0_sureOnes 0 = .ok (.iconst 0, 1) := by decide +kernel
theorem dX0_sureOnes_1 : decode cX0_sureOnes 1 = .ok (.istore_n 2, 1) := by decide +kernel
theorem dX0_sureOnes_2 : decode cX0_sureOnes 2 = .ok (.iconst 0, 1) := by decide +kernel
theorem dX0_sureOnes_3 : decode cX0_sureOnes 3 = .ok (.istore_n 3, 1) := by decide +kernel
theorem dX0_sureOnes_4 : decode cX0_sureOnes 4 = .ok (.iload_n 3, 1) := by decide +kernel
theorem dX0_sureOnes_5 : decode cX0_sureOnes 5 = .ok (.iconst 5, 1) := by decide +kernel
theorem dX0_sureOnes_6 : decode cX0_sureOnes 6 = .ok (.if_icmp .ge 42, 3) := by decide +kernel
theorem dX0_sureOnes_9 : decode cX0_sureOnes 9 = .ok (.iconst 0, 1) := by decide +kernel
theorem dX0_sureOnes_10 : decode cX0_sureOnes 10 = .ok (.istore 4, 2) := by decide +kernel
theorem dX0_sureOnes_12 : decode cX0_sureOnes 12 = .ok (.iload 4, 2) := by decide +kernel
theorem dX0_sureOnes_14 : decode cX0_sureOnes 14 = .ok (.bipush 8, 2) := by decide +kernel
theorem dX0_sureOnes_16 : decode cX0_sureOnes 16 = .ok (.if_icmp .ge 26, 3) := by decide +kernel
theorem dX0_sureOnes_19 : decode cX0_sureOnes 19 = .ok (.aload_n 0, 1) := by decide +kernel
theorem dX0_sureOnes_20 : decode cX0_sureOnes 20 = .ok (.iload_n 1, 1) := by decide +kernel
theorem dX0_sureOnes_21 : decode cX0_sureOnes 21 = .ok (.iload_n 3, 1) := by decide +kernel
theorem dX0_sureOnes_22 : decode cX0_sureOnes 22 = .ok (.iload 4, 2) := by decide +kernel
theorem dX0_sureOnes_24 : decode cX0_sureOnes 24 = .ok (.invokevirtual 29, 3) := by decide +kernel
theorem dX0_sureOnes_27 : decode cX0_sureOnes 27 = .ok (.invokestatic 35, 3) := by decide +kernel
theorem dX0_sureOnes_30 : decode cX0_sureOnes 30 = .ok (.ifCond .eq 6, 3) := by decide +kernel
theorem dX0_sureOnes_33 : decode cX0_sureOnes 33 = .ok (.iinc 2 1, 3) := by decide +kernel
theorem dX0_sureOnes_36 : decode cX0_sureOnes 36 = .ok (.iinc 4 1, 3) := by decide +kernel
theorem dX0_sureOnes_39 : decode cX0_sureOnes 39 = .ok (.goto (-27), 3) := by decide +kernel
theorem dX0_sureOnes_42 : decode cX0_sureOnes 42 = .ok (.iinc 3 1, 3) := by decide +kernel
theorem dX0_sureOnes_45 : decode cX0_sureOnes 45 = .ok (.goto (-41), 3) := by decide +kernel
theorem dX0_sureOnes_48 : decode cX0_sureOnes 48 = .ok (.iload_n 2, 1) := by decide +kernel
theorem dX0_sureOnes_49 : decode cX0_sureOnes 49 = .ok (.ireturn, 1) := by decide +kernel
set_option maxRecDepth 20000 in
theorem ggX0_linked_X0_leadsTo : GoodIn wsX0_linked wsX0_leadsTo := goodIn_r _ [5, 6, 7, 8, 9, 10, 11, 12, 13, 14, 15, 16, 17, 18, 19, 20, 21, 22, 23, 24] (by decide +kernel) (by decide +kernel)
set_option maxRecDepth 20000 in
theorem gX0_linked_X0_leadsTo : GoodIn wsX0_linked (va_wsS RX0 43 yX0_leadsTo wsX0_leadsTo) := goodIn_app (goodIn_of _ (by decide +kernel)) ggX0_linked_X0_leadsTo
theorem dX0_linked_0 : decode cX0_linked 0 = .ok (.iconst 0, 1) := by decide +kernel
theorem dX0_linked_1 : decode cX0_linked 1 = .ok (.istore_n 2, 1) := by decide +kernel
theorem dX0_linked_2 : decode cX0_linked 2 = .ok (.iconst 0, 1) := by decide +kernel
theorem dX0_linked_3 : decode cX0_linked 3 = .ok (.istore_n 3, 1) := by decide +kernel
theorem dX0_linked_4 : decode cX0_linked 4 = .ok (.iload_n 3, 1) := by decide +kernel
theorem dX0_linked_5 : decode cX0_linked 5 = .ok (.aload_n 0, 1) := by decide +kernel
theorem dX0_linked_6 : decode cX0_linked 6 = .ok (.getfield 39, 3) := by decide +kernel
theorem dX0_linked_9 : decode cX0_linked 9 = .ok (.if_icmp .ge 24, 3) := by decide +kernel
theorem dX0_linked_12 : decode cX0_linked 12 = .ok (.aload_n 0, 1) := by decide +kernel
theorem dX0_linked_13 : decode cX0_linked 13 = .ok (.iload_n 1, 1) := by decide +kernel
theorem dX0_linked_14 : decode cX0_linked 14 = .ok (.iload_n 3, 1) := by decide +kernel
theorem dX0_linked_15 : decode cX0_linked 15 = .ok (.invokestatic 43, 3) := by decide +kernel
theorem dX0_linked_18 : decode cX0_linked 18 = .ok (.ifCond .eq 9, 3) := by decide +kernel
theorem dX0_linked_21 : decode cX0_linked 21 = .ok (.iload_n 2, 1) := by decide +kernel
theorem dX0_linked_22 : decode cX0_linked 22 = .ok (.iconst 1, 1) := by decide +kernel
theorem dX0_linked_23 : decode cX0_linked 23 = .ok (.iload_n 3, 1) := by decide +kernel
theorem dX0_linked_24 : decode cX0_linked 24 = .ok (.ishl, 1) := by decide +kernel
theorem dX0_linked_25 : decode cX0_linked 25 = .ok (.ior, 1) := by decide +kernel
theorem dX0_linked_26 : decode cX0_linked 26 = .ok (.istore_n 2, 1) := by decide +kernel
theorem dX0_linked_27 : decode cX0_linked 27 = .ok (.iinc 3 1, 3) := by decide +kernel
theorem dX0_linked_30 : decode cX0_linked 30 = .ok (.goto (-26), 3) := by decide +kernel
theorem dX0_linked_33 : decode cX0_linked 33 = .ok (.iload_n 2, 1) := by decide +kernel
theorem dX0_linked_34 : decode cX0_linked 34 = .ok (.ireturn, 1) := by decide +kernel
set_option maxRecDepth 20000 in
theorem ggX0_steps_X0_linkedFromAny : GoodIn wsX0_steps wsX0_linkedFromAny := goodIn_r _ [4, 5, 6, 7, 3, 8, 9, 10, 11, 12, 13, 14, 15, 16, 17, 18, 19, 20, 21, 22, 23, 24, 25, 26, 27, 28, 29, 30] (by decide +kernel) (by decide +kernel)
set_option maxRecDepth 20000 in
theorem gX0_steps_X0_linkedFromAny : GoodIn wsX0_steps (va_wsS RX0 46 yX0_linkedFromAny wsX0_linkedFromAny) := goodIn_app (goodIn_of _ (by decide +kernel)) ggX0_steps_X0_linkedFromAny
theorem dX0_steps_0 : decode cX0_steps 0 = .ok (.iconst 1, 1) := by decide +kernel
theorem dX0_steps_1 : decode cX0_steps 1 = .ok (.iload_n 1, 1) := by decide +kernel
theorem dX0_steps_2 : decode cX0_steps 2 = .ok (.ishl, 1) := by decide +kernel
theorem dX0_steps_3 : decode cX0_steps 3 = .ok (.istore_n 3, 1) := by decide +kernel
theorem dX0_steps_4 : decode cX0_steps 4 = .ok (.iconst 0, 1) := by decide +kernel
theorem dX0_steps_5 : decode cX0_steps 5 = .ok (.istore 4, 2) := by decide +kernel
theorem dX0_steps_7 : decode cX0_steps 7 = .ok (.iload 4, 2) := by decide +kernel
theorem dX0_steps_9 : decode cX0_steps 9 = .ok (.bipush 10, 2) := by decide +kernel
theorem dX0_steps_11 : decode cX0_steps 11 = .ok (.if_icmp .ge 29, 3) := by decide +kernel
theorem dX0_steps_14 : decode cX0_steps 14 = .ok (.iload_n 3, 1) := by decide +kernel
theorem dX0_steps_15 : decode cX0_steps 15 = .ok (.iload_n 2, 1) := by decide +kernel
theorem dX0_steps_16 : decode cX0_steps 16 = .ok (.ishr, 1) := by decide +kernel
theorem dX0_steps_17 : decode cX0_steps 17 = .ok (.iconst 1, 1) := by decide +kernel
theorem dX0_steps_18 : decode cX0_steps 18 = .ok (.iand, 1) := by decide +kernel
theorem dX0_steps_19 : decode cX0_steps 19 = .ok (.iconst 1, 1) := by decide +kernel
theorem dX0_steps_20 : decode cX0_steps 20 = .ok (.if_icmp .ne 6, 3) := by decide +kernel
theorem dX0_steps_23 : decode cX0_steps 23 = .ok (.iload 4, 2) := by decide +kernel
theorem dX0_steps_25 : decode cX0_steps 25 = .ok (.ireturn, 1) := by decide +kernel
theorem dX0_steps_26 : decode cX0_steps 26 = .ok (.iload_n 3, 1) := by decide +kernel
theorem dX0_steps_27 : decode cX0_steps 27 = .ok (.aload_n 0, 1) := by decide +kernel
theorem dX0_steps_28 : decode cX0_steps 28 = .ok (.iload_n 3, 1) := by decide +kernel
theorem dX0_steps_29 : decode cX0_steps 29 = .ok (.invokestatic 46, 3) := by decide +kernel
theorem dX0_steps_32 : decode cX0_steps 32 = .ok (.ior, 1) := by decide +kernel
theorem dX0_steps_33 : decode cX0_steps 33 = .ok (.istore_n 3, 1) := by decide +kernel
theorem dX0_steps_34 : decode cX0_steps 34 = .ok (.iinc 4 1, 3) := by decide +kernel
theorem dX0_steps_37 : decode cX0_steps 37 = .ok (.goto (-30), 3) := by decide +kernel
theorem dX0_steps_40 : decode cX0_steps 40 = .ok (.iconst (-1), 1) := by decide +kernel
theorem dX0_steps_41 : decode cX0_steps 41 = .ok (.ireturn, 1) := by decide +kernel
set_option maxRecDepth 20000 in
theorem ggX0_linkedFromAny_X0_linked : GoodIn wsX0_linkedFromAny wsX0_linked := goodIn_r _ [5, 1, 6, 7, 4, 8, 9, 10, 11, 12, 13, 14, 15, 16, 17, 18, 19, 20, 21, 22, 23, 24, 25, 26, 27] (by decide +kernel) (by decide +kernel)
set_option maxRecDepth 20000 in
theorem gX0_linkedFromAny_X0_linked : GoodIn wsX0_linkedFromAny (va_wsS RX0 49 yX0_linked wsX0_linked) := goodIn_app (goodIn_of _ (by decide +kernel)) ggX0_linkedFromAny_X0_linked
theorem dX0_linkedFromAny_0 : decode cX0_linkedFromAny 0 = .ok (.iconst 0, 1) := by decide +kernel
theorem dX0_linkedFromAny_1 : decode cX0_linkedFromAny 1 = .ok (.istore_n 2, 1) := by decide +kernel
theorem dX0_linkedFromAny_2 : decode cX0_linkedFromAny 2 = .ok (.iconst 0, 1) := by decide +kernel
theorem dX0_linkedFromAny_3 : decode cX0_linkedFromAny 3 = .ok (.istore_n 3, 1) := by decide +kernel
theorem dX0_linkedFromAny_4 : decode cX0_linkedFromAny 4 = .ok (.iload_n 3, 1) := by decide +kernel
theorem dX0_linkedFromAny_5 : decode cX0_linkedFromAny 5 = .ok (.aload_n 0, 1) := by decide +kernel
theorem dX0_linkedFromAny_6 : decode cX0_linkedFromAny 6 = .ok (.getfield 39, 3) := by decide +kernel
theorem dX0_linkedFromAny_9 : decode cX0_linkedFromAny 9 = .ok (.if_icmp .ge 26, 3) := by decide +kernel
theorem dX0_linkedFromAny_12 : decode cX0_linkedFromAny 12 = .ok (.iload_n 1, 1) := by decide +kernel
theorem dX0_linkedFromAny_13 : decode cX0_linkedFromAny 13 = .ok (.iload_n 3, 1) := by decide +kernel
theorem dX0_linkedFromAny_14 : decode cX0_linkedFromAny 14 = .ok (.ishr, 1) := by decide +kernel
theorem dX0_linkedFromAny_15 : decode cX0_linkedFromAny 15 = .ok (.iconst 1, 1) := by decide +kernel
theorem dX0_linkedFromAny_16 : decode cX0_linkedFromAny 16 = .ok (.iand, 1) := by decide +kernel
theorem dX0_linkedFromAny_17 : decode cX0_linkedFromAny 17 = .ok (.iconst 1, 1) := by decide +kernel
theorem dX0_linkedFromAny_18 : decode cX0_linkedFromAny 18 = .ok (.if_icmp .ne 11, 3) := by decide +kernel
theorem dX0_linkedFromAny_21 : decode cX0_linkedFromAny 21 = .ok (.iload_n 2, 1) := by decide +kernel
theorem dX0_linkedFromAny_22 : decode cX0_linkedFromAny 22 = .ok (.aload_n 0, 1) := by decide +kernel
theorem dX0_linkedFromAny_23 : decode cX0_linkedFromAny 23 = .ok (.iload_n 3, 1) := by decide +kernel
theorem dX0_linkedFromAny_24 : decode cX0_linkedFromAny 24 = .ok (.invokestatic 49, 3) := by decide +kernel
theorem dX0_linkedFromAny_27 : decode cX0_linkedFromAny 27 = .ok (.ior, 1) := by decide +kernel
theorem dX0_linkedFromAny_28 : decode cX0_linkedFromAny 28 = .ok (.istore_n 2, 1) := by decide +kernel
theorem dX0_linkedFromAny_29 : decode cX0_linkedFromAny 29 = .ok (.iinc 3 1, 3) := by decide +kernel
theorem dX0_linkedFromAny_32 : decode cX0_linkedFromAny 32 = .ok (.goto (-28), 3) := by decide +kernel
theorem dX0_linkedFromAny_35 : decode cX0_linkedFromAny 35 = .ok (.iload_n 2, 1) := by decide +kernel
theorem dX0_linkedFromAny_36 : decode cX0_linkedFromAny 36 = .ok (.ireturn, 1) := by decide +kernel
set_option maxRecDepth 20000 in
theorem ggX0_leadsTo_X5_get : GoodIn wsX0_leadsTo wsX5_get := goodIn_r _ [5, 6, 12, 13, 14, 15, 16, 17, 18, 19] (by decide +kernel) (by decide +kernel)
set_option maxRecDepth 20000 in
theorem gX0_leadsTo_X5_get : GoodIn wsX0_leadsTo (wsV RX0 52 RX5 yX5_get wsX5_get) := goodIn_app (goodIn_of _ (by decide +kernel)) ggX0_leadsTo_X5_get
set_option maxRecDepth 20000 in
theorem ggX0_leadsTo_X5_linkAt : GoodIn wsX0_leadsTo wsX5_linkAt := goodIn_r _ [10, 11, 2, 3, 4, 5, 6, 12, 13, 14, 15, 16, 17, 18, 19] (by decide +kernel) (by decide +kernel)
set_option maxRecDepth 20000 in
theorem gX0_leadsTo_X5_linkAt : GoodIn wsX0_leadsTo (wsV RX0 56 RX5 yX5_linkAt wsX5_linkAt) := goodIn_app (goodIn_of _ (by decide +kernel)) ggX0_leadsTo_X5_linkAt
theorem dX0_leadsTo_0 : decode cX0_leadsTo 0 = .ok (.aload_n 0, 1) := by decide +kernel
theorem dX0_leadsTo_1 : decode cX0_leadsTo 1 = .ok (.iload_n 1, 1) := by decide +kernel
theorem dX0_leadsTo_2 : decode cX0_leadsTo 2 = .ok (.iconst 0, 1) := by decide +kernel
theorem dX0_leadsTo_3 : decode cX0_leadsTo 3 = .ok (.invokevirtual 52, 3) := by decide +kernel
theorem dX0_leadsTo_6 : decode cX0_leadsTo 6 = .ok (.aload_n 0, 1) := by decide +kernel
theorem dX0_leadsTo_7 : decode cX0_leadsTo 7 = .ok (.iload_n 2, 1) := by decide +kernel
theorem dX0_leadsTo_8 : decode cX0_leadsTo 8 = .ok (.iconst 0, 1) := by decide +kernel
theorem dX0_leadsTo_9 : decode cX0_leadsTo 9 = .ok (.invokevirtual 52, 3) := by decide +kernel
theorem dX0_leadsTo_12 : decode cX0_leadsTo 12 = .ok (.if_icmp .eq 5, 3) := by decide +kernel
theorem dX0_leadsTo_15 : decode cX0_leadsTo 15 = .ok (.iconst 0, 1) := by decide +kernel
theorem dX0_leadsTo_16 : decode cX0_leadsTo 16 = .ok (.ireturn, 1) := by decide +kernel
theorem dX0_leadsTo_17 : decode cX0_leadsTo 17 = .ok (.aload_n 0, 1) := by decide +kernel
theorem dX0_leadsTo_18 : decode cX0_leadsTo 18 = .ok (.iload_n 2, 1) := by decide +kernel
theorem dX0_leadsTo_19 : decode cX0_leadsTo 19 = .ok (.iconst 1, 1) := by decide +kernel
theorem dX0_leadsTo_20 : decode cX0_leadsTo 20 = .ok (.invokevirtual 52, 3) := by decide +kernel
theorem dX0_leadsTo_23 : decode cX0_leadsTo 23 = .ok (.istore_n 3, 1) := by decide +kernel
theorem dX0_leadsTo_24 : decode cX0_leadsTo 24 = .ok (.iconst 0, 1) := by decide +kernel
theorem dX0_leadsTo_25 : decode cX0_leadsTo 25 = .ok (.istore 4, 2) := by decide +kernel
theorem dX0_leadsTo_27 : decode cX0_leadsTo 27 = .ok (.iload 4, 2) := by decide +kernel
theorem dX0_leadsTo_29 : decode cX0_leadsTo 29 = .ok (.iconst 4, 1) := by decide +kernel
theorem dX0_leadsTo_30 : decode cX0_leadsTo 30 = .ok (.if_icmp .ge 22, 3) := by decide +kernel
theorem dX0_leadsTo_33 : decode cX0_leadsTo 33 = .ok (.aload_n 0, 1) := by decide +kernel
theorem dX0_leadsTo_34 : decode cX0_leadsTo 34 = .ok (.iload_n 1, 1) := by decide +kernel
theorem dX0_leadsTo_35 : decode cX0_leadsTo 35 = .ok (.iload 4, 2) := by decide +kernel
theorem dX0_leadsTo_37 : decode cX0_leadsTo 37 = .ok (.invokevirtual 56, 3) := by decide +kernel
theorem dX0_leadsTo_40 : decode cX0_leadsTo 40 = .ok (.iload_n 3, 1) := by decide +kernel
theorem dX0_leadsTo_41 : decode cX0_leadsTo 41 = .ok (.if_icmp .ne 5, 3) := by decide +kernel
theorem dX0_leadsTo_44 : decode cX0_leadsTo 44 = .ok (.iconst 1, 1) := by decide +kernel
theorem dX0_leadsTo_45 : decode cX0_leadsTo 45 = .ok (.ireturn, 1) := by decide +kernel
theorem dX0_leadsTo_46 : decode cX0_leadsTo 46 = .ok (.iinc 4 1, 3) := by decide +kernel
theorem dX0_leadsTo_49 : decode cX0_leadsTo 49 = .ok (.goto (-22), 3) := by decide +kernel
theorem dX0_leadsTo_52 : decode cX0_leadsTo 52 = .ok (.iconst 0, 1) := by decide +kernel
theorem dX0_leadsTo_53 : decode cX0_leadsTo 53 = .ok (.ireturn, 1) := by decide +kernel
set_option maxRecDepth 20000 in
theorem ggX0_hasLetters_X5_letterAt : GoodIn wsX0_hasLetters wsX5_letterAt := goodIn_r _ [5, 6, 7, 8, 4, 9, 10, 11, 12, 13, 14, 15, 16, 17, 18] (by decide +kernel) (by decide +kernel)
set_option maxRecDepth 20000 in
theorem gX0_hasLetters_X5_letterAt : GoodIn wsX0_hasLetters (wsV RX0 29 RX5 yX5_letterAt wsX5_letterAt) := goodIn_app (goodIn_of _ (by decide +kernel)) ggX0_hasLetters_X5_letterAt
theorem dX0_hasLetters_0 : decode cX0_hasLetters 0 = .ok (.iconst 0, 1) := by decide +kernel
theorem dX0_hasLetters_1 : decode cX0_hasLetters 1 = .ok (.istore_n 3, 1) := by decide +kernel
theorem dX0_hasLetters_2 : decode cX0_hasLetters 2 = .ok (.iload_n 3, 1) := by decide +kernel
theorem dX0_hasLetters_3 : decode cX0_hasLetters 3 = .ok (.bipush 8, 2) := by decide +kernel
theorem dX0_hasLetters_5 : decode cX0_hasLetters 5 = .ok (.if_icmp .ge 22, 3) := by decide +kernel
theorem dX0_hasLetters_8 : decode cX0_hasLetters 8 = .ok (.aload_n 0, 1) := by decide +kernel
theorem dX0_hasLetters_9 : decode cX0_hasLetters 9 = .ok (.iload_n 1, 1) := by decide +kernel
theorem dX0_hasLetters_10 : decode cX0_hasLetters 10 = .ok (.iload_n 2, 1) := by decide +kernel
theorem dX0_hasLetters_11 : decode cX0_hasLetters 11 = .ok (.iload_n 3, 1) := by decide +kernel
theorem dX0_hasLetters_12 : decode cX0_hasLetters 12 = .ok (.invokevirtual 29, 3) := by decide +kernel
theorem dX0_hasLetters_15 : decode cX0_hasLetters 15 = .ok (.iconst (-1), 1) := by decide +kernel
theorem dX0_hasLetters_16 : decode cX0_hasLetters 16 = .ok (.if_icmp .eq 5, 3) := by decide +kernel
theorem dX0_hasLetters_19 : decode cX0_hasLetters 19 = .ok (.iconst 1, 1) := by decide +kernel
theorem dX0_hasLetters_20 : decode cX0_hasLetters 20 = .ok (.ireturn, 1) := by decide +kernel
theorem dX0_hasLetters_21 : decode cX0_hasLetters 21 = .ok (.iinc 3 1, 3) := by decide +kernel
theorem dX0_hasLetters_24 : decode cX0_hasLetters 24 = .ok (.goto (-22), 3) := by decide +kernel
theorem dX0_hasLetters_27 : decode cX0_hasLetters 27 = .ok (.iconst 0, 1) := by decide +kernel
theorem dX0_hasLetters_28 : decode cX0_hasLetters 28 = .ok (.ireturn, 1) := by decide +kernel
set_option maxRecDepth 20000 in
theorem ggX0_hasLinks_X5_linkAt : GoodIn wsX0_hasLinks wsX5_linkAt := goodIn_r _ [5, 6, 7, 8, 4, 9, 10, 11, 12, 13, 14, 15, 16, 17, 18] (by decide +kernel) (by decide +kernel)
set_option maxRecDepth 20000 in
theorem gX0_hasLinks_X5_linkAt : GoodIn wsX0_hasLinks (wsV RX0 56 RX5 yX5_linkAt wsX5_linkAt) := goodIn_app (goodIn_of _ (by decide +kernel)) ggX0_hasLinks_X5_linkAt
theorem dX0_hasLinks_0 : decode cX0_hasLinks 0 = .ok (.iconst 0, 1) := by decide +kernel
theorem dX0_hasLinks_1 : decode cX0_hasLinks 1 = .ok (.istore_n 2, 1) := by decide +kernel
theorem dX0_hasLinks_2 : decode cX0_hasLinks 2 = .ok (.iload_n 2, 1) := by decide +kernel
theorem dX0_hasLinks_3 : decode cX0_hasLinks 3 = .ok (.iconst 4, 1) := by decide +kernel
theorem dX0_hasLinks_4 : decode cX0_hasLinks 4 = .ok (.if_icmp .ge 21, 3) := by decide +kernel
theorem dX0_hasLinks_7 : decode cX0_hasLinks 7 = .ok (.aload_n 0, 1) := by decide +kernel
theorem dX0_hasLinks_8 : decode cX0_hasLinks 8 = .ok (.iload_n 1, 1) := by decide +kernel
theorem dX0_hasLinks_9 : decode cX0_hasLinks 9 = .ok (.iload_n 2, 1) := by decide +kernel
theorem dX0_hasLinks_10 : decode cX0_hasLinks 10 = .ok (.invokevirtual 56, 3) := by decide +kernel
theorem dX0_hasLinks_13 : decode cX0_hasLinks 13 = .ok (.iconst (-1), 1) := by decide +kernel
theorem dX0_hasLinks_14 : decode cX0_hasLinks 14 = .ok (.if_icmp .eq 5, 3) := by decide +kernel
theorem dX0_hasLinks_17 : decode cX0_hasLinks 17 = .ok (.iconst 1, 1) := by decide +kernel
theorem dX0_hasLinks_18 : decode cX0_hasLinks 18 = .ok (.ireturn, 1) := by decide +kernel
theorem dX0_hasLinks_19 : decode cX0_hasLinks 19 = .ok (.iinc 2 1, 3) := by decide +kernel
theorem dX0_hasLinks_22 : decode cX0_hasLinks 22 = .ok (.goto (-20), 3) := by decide +kernel
theorem dX0_hasLinks_25 : decode cX0_hasLinks 25 = .ok (.iconst 0, 1) := by decide +kernel
theorem dX0_hasLinks_26 : decode cX0_hasLinks 26 = .ok (.ireturn, 1) := by decide +kernel
theorem dX1_encode_0 : decode cX1_encode 0 = .ok (.getstatic 9, 3) := by decide +kernel
theorem dX1_encode_3 : decode cX1_encode 3 = .ok (.iload_n 0, 1) := by decide +kernel
theorem dX1_encode_4 : decode cX1_encode 4 = .ok (.bipush 15, 2) := by decide +kernel
theorem dX1_encode_6 : decode cX1_encode 6 = .ok (.iand, 1) := by decide +kernel
theorem dX1_encode_7 : decode cX1_encode 7 = .ok (.iaload, 1) := by decide +kernel
theorem dX1_encode_8 : decode cX1_encode 8 = .ok (.ireturn, 1) := by decide +kernel
set_option maxRecDepth 20000 in
theorem ggX1_decode_J6_bitCount_0f7a4 : GoodIn wsX1_decode wsJ6_bitCount_0f7a4 := goodIn_r _ [5, 6, 7, 8] (by decide +kernel) (by decide +kernel)
set_option maxRecDepth 20000 in
theorem gX1_decode_J6_bitCount_0f7a4 : GoodIn wsX1_decode (va_wsS RX1 15 yJ6_bitCount_0f7a4 wsJ6_bitCount_0f7a4) := goodIn_app (goodIn_of _ (by decide +kernel)) ggX1_decode_J6_bitCount_0f7a4
theorem dX1_decode_0 : decode cX1_decode 0 = .ok (.iconst 0, 1) := by decide +kernel
theorem dX1_decode_1 : decode cX1_decode 1 = .ok (.istore_n 1, 1) := by decide +kernel
theorem dX1_decode_2 : decode cX1_decode 2 = .ok (.iload_n 1, 1) := by decide +kernel
theorem dX1_decode_3 : decode cX1_decode 3 = .ok (.getstatic 9, 3) := by decide +kernel
theorem dX1_decode_6 : decode cX1_decode 6 = .ok (.arraylength, 1) := by decide +kernel
theorem dX1_decode_7 : decode cX1_decode 7 = .ok (.if_icmp .ge 25, 3) := by decide +kernel
theorem dX1_decode_10 : decode cX1_decode 10 = .ok (.iload_n 0, 1) := by decide +kernel
theorem dX1_decode_11 : decode cX1_decode 11 = .ok (.getstatic 9, 3) := by decide +kernel
theorem dX1_decode_14 : decode cX1_decode 14 = .ok (.iload_n 1, 1) := by decide +kernel
theorem dX1_decode_15 : decode cX1_decode 15 = .ok (.iaload, 1) := by decide +kernel
theorem dX1_decode_16 : decode cX1_decode 16 = .ok (.ixor, 1) := by decide +kernel
theorem dX1_decode_17 : decode cX1_decode 17 = .ok (.invokestatic 15, 3) := by decide +kernel
theorem dX1_decode_20 : decode cX1_decode 20 = .ok (.iconst 1, 1) := by decide +kernel
theorem dX1_decode_21 : decode cX1_decode 21 = .ok (.if_icmp .gt 5, 3) := by decide +kernel
theorem dX1_decode_24 : decode cX1_decode 24 = .ok (.iload_n 1, 1) := by decide +kernel
theorem dX1_decode_25 : decode cX1_decode 25 = .ok (.ireturn, 1) := by decide +kernel
theorem dX1_decode_26 : decode cX1_decode 26 = .ok (.iinc 1 1, 3) := by decide +kernel
theorem dX1_decode_29 : decode cX1_decode 29 = .ok (.goto (-27), 3) := by decide +kernel
theorem dX1_decode_32 : decode cX1_decode 32 = .ok (.iconst (-1), 1) := by decide +kernel
theorem dX1_decode_33 : decode cX1_decode 33 = .ok (.ireturn, 1) := by decide +kernel
set_option maxRecDepth 20000 in
theorem ggX1_isWell_J6_bitCount_0f7a4 : GoodIn wsX1_isWell wsJ6_bitCount_0f7a4 := goodIn_r _ [4, 5, 6, 7] (by decide +kernel) (by decide +kernel)
set_option maxRecDepth 20000 in
theorem gX1_isWell_J6_bitCount_0f7a4 : GoodIn wsX1_isWell (va_wsS RX1 15 yJ6_bitCount_0f7a4 wsJ6_bitCount_0f7a4) := goodIn_app (goodIn_of _ (by decide +kernel)) ggX1_isWell_J6_bitCount_0f7a4
theorem dX1_isWell_0 : decode cX1_isWell 0 = .ok (.iload_n 0, 1) := by decide +kernel
theorem dX1_isWell_1 : decode cX1_isWell 1 = .ok (.invokestatic 15, 3) := by decide +kernel
theorem dX1_isWell_4 : decode cX1_isWell 4 = .ok (.iconst 1, 1) := by decide +kernel
theorem dX1_isWell_5 : decode cX1_isWell 5 = .ok (.iand, 1) := by decide +kernel
theorem dX1_isWell_6 : decode cX1_isWell 6 = .ok (.iconst 1, 1) := by decide +kernel
theorem dX1_isWell_7 : decode cX1_isWell 7 = .ok (.if_icmp .ne 7, 3) := by decide +kernel
theorem dX1_isWell_10 : decode cX1_isWell 10 = .ok (.iconst 1, 1) := by decide +kernel
theorem dX1_isWell_11 : decode cX1_isWell 11 = .ok (.goto 4, 3) := by decide +kernel
theorem dX1_isWell_14 : decode cX1_isWell 14 = .ok (.iconst 0, 1) := by decide +kernel
theorem dX1_isWell_15 : decode cX1_isWell 15 = .ok (.ireturn, 1) := by decide +kernel
set_option maxRecDepth 20000 in
theorem ggX1_oddOctet_X1_isWell : GoodIn wsX1_oddOctet wsX1_isWell := goodIn_r _ [4, 5, 6, 7, 8, 9, 10, 11] (by decide +kernel) (by decide +kernel)
set_option maxRecDepth 20000 in
theorem gX1_oddOctet_X1_isWell : GoodIn wsX1_oddOctet (va_wsS RX1 21 yX1_isWell wsX1_isWell) := goodIn_app (goodIn_of _ (by decide +kernel)) ggX1_oddOctet_X1_isWell
theorem dX1_oddOctet_0 : decode cX1_oddOctet 0 = .ok (.iload_n 0, 1) := by decide +kernel
theorem dX1_oddOctet_1 : decode cX1_oddOctet 1 = .ok (.invokestatic 21, 3) := by decide +kernel
theorem dX1_oddOctet_4 : decode cX1_oddOctet 4 = .ok (.ifCond .eq 7, 3) := by decide +kernel
theorem dX1_oddOctet_7 : decode cX1_oddOctet 7 = .ok (.iload_n 0, 1) := by decide +kernel
theorem dX1_oddOctet_8 : decode cX1_oddOctet 8 = .ok (.goto 8, 3) := by decide +kernel
theorem dX1_oddOctet_11 : decode cX1_oddOctet 11 = .ok (.iload_n 0, 1) := by decide +kernel
theorem dX1_oddOctet_12 : decode cX1_oddOctet 12 = .ok (.sipush 128, 3) := by decide +kernel
theorem dX1_oddOctet_15 : decode cX1_oddOctet 15 = .ok (.ior, 1) := by decide +kernel
theorem dX1_oddOctet_16 : decode cX1_oddOctet 16 = .ok (.ireturn, 1) := by decide +kernel
theorem dX2_init_0 : decode cX2_init 0 = .ok (.aload_n 0, 1) := by decide +kernel
theorem dX2_init_1 : decode cX2_init 1 = .ok (.invokespecial 3, 3) := by decide +kernel
theorem dX2_init_4 : decode cX2_init 4 = .ok (.aload_n 0, 1) := by decide +kernel
theorem dX2_init_5 : decode cX2_init 5 = .ok (.bipush 20, 2) := by decide +kernel
theorem dX2_init_7 : decode cX2_init 7 = .ok (.newarray .int, 2) := by decide +kernel
theorem dX2_init_9 : decode cX2_init 9 = .ok (.putfield 11, 3) := by decide +kernel
theorem dX2_init_12 : decode cX2_init 12 = .ok (.aload_n 0, 1) := by decide +kernel
theorem dX2_init_13 : decode cX2_init 13 = .ok (.bipush 20, 2) := by decide +kernel
theorem dX2_init_15 : decode cX2_init 15 = .ok (.newarray .int, 2) := by decide +kernel
theorem dX2_init_17 : decode cX2_init 17 = .ok (.putfield 15, 3) := by decide +kernel
theorem dX2_init_20 : decode cX2_init 20 = .ok (.aload_n 0, 1) := by decide +kernel
theorem dX2_init_21 : decode cX2_init 21 = .ok (.bipush 20, 2) := by decide +kernel
theorem dX2_init_23 : decode cX2_init 23 = .ok (.newarray .int, 2) := by decide +kernel
theorem dX2_init_25 : decode cX2_init 25 = .ok (.putfield 18, 3) := by decide +kernel
theorem dX2_init_28 : decode cX2_init 28 = .ok (.aload_n 0, 1) := by decide +kernel
theorem dX2_init_29 : decode cX2_init 29 = .ok (.bipush 20, 2) := by decide +kernel
theorem dX2_init_31 : decode cX2_init 31 = .ok (.newarray .int, 2) := by decide +kernel
theorem dX2_init_33 : decode cX2_init 33 = .ok (.putfield 21, 3) := by decide +kernel
theorem dX2_init_36 : decode cX2_init 36 = .ok (.return_, 1) := by decide +kernel
set_option maxRecDepth 20000 in
theorem ggX2_add_X7_isWithin : GoodIn wsX2_add wsX7_isWithin := goodIn_r _ [8] (by decide +kernel) (by decide +kernel)
set_option maxRecDepth 20000 in
theorem gX2_add_X7_isWithin_n28 : GoodIn wsX2_add (wsX7_isWithin) := ggX2_add_X7_isWithin
theorem dX2_add_0 : decode cX2_add 0 = .ok (.aload_n 0, 1) := by decide +kernel
theorem dX2_add_1 : decode cX2_add 1 = .ok (.getfield 24, 3) := by decide +kernel
theorem dX2_add_4 : decode cX2_add 4 = .ok (.iconst 0, 1) := by decide +kernel
theorem dX2_add_5 : decode cX2_add 5 = .ok (.bipush 19, 2) := by decide +kernel
theorem dX2_add_7 : decode cX2_add 7 = .ok (.invokestatic 28, 3) := by decide +kernel
theorem dX2_add_10 : decode cX2_add 10 = .ok (.ifCond .ne 5, 3) := by decide +kernel
theorem dX2_add_13 : decode cX2_add 13 = .ok (.iconst 0, 1) := by decide +kernel
theorem dX2_add_14 : decode cX2_add 14 = .ok (.ireturn, 1) := by decide +kernel
theorem dX2_add_15 : decode cX2_add 15 = .ok (.aload_n 0, 1) := by decide +kernel
theorem dX2_add_16 : decode cX2_add 16 = .ok (.getfield 11, 3) := by decide +kernel
theorem dX2_add_19 : decode cX2_add 19 = .ok (.aload_n 0, 1) := by decide +kernel
theorem dX2_add_20 : decode cX2_add 20 = .ok (.getfield 24, 3) := by decide +kernel
theorem dX2_add_23 : decode cX2_add 23 = .ok (.iload_n 1, 1) := by decide +kernel
theorem dX2_add_24 : decode cX2_add 24 = .ok (.iastore, 1) := by decide +kernel
theorem dX2_add_25 : decode cX2_add 25 = .ok (.aload_n 0, 1) := by decide +kernel
theorem dX2_add_26 : decode cX2_add 26 = .ok (.getfield 15, 3) := by decide +kernel
theorem dX2_add_29 : decode cX2_add 29 = .ok (.aload_n 0, 1) := by decide +kernel
theorem dX2_add_30 : decode cX2_add 30 = .ok (.getfield 24, 3) := by decide +kernel
theorem dX2_add_33 : decode cX2_add 33 = .ok (.iload_n 2, 1) := by decide +kernel
theorem dX2_add_34 : decode cX2_add 34 = .ok (.iastore, 1) := by decide +kernel
theorem dX2_add_35 : decode cX2_add 35 = .ok (.aload_n 0, 1) := by decide +kernel
theorem dX2_add_36 : decode cX2_add 36 = .ok (.getfield 18, 3) := by decide +kernel
theorem dX2_add_39 : decode cX2_add 39 = .ok (.aload_n 0, 1) := by decide +kernel
theorem dX2_add_40 : decode cX2_add 40 = .ok (.getfield 24, 3) := by decide +kernel
theorem dX2_add_43 : decode cX2_add 43 = .ok (.iload_n 3, 1) := by decide +kernel
theorem dX2_add_44 : decode cX2_add 44 = .ok (.iastore, 1) := by decide +kernel
theorem dX2_add_45 : decode cX2_add 45 = .ok (.aload_n 0, 1) := by decide +kernel
theorem dX2_add_46 : decode cX2_add 46 = .ok (.getfield 21, 3) := by decide +kernel
theorem dX2_add_49 : decode cX2_add 49 = .ok (.aload_n 0, 1) := by decide +kernel
theorem dX2_add_50 : decode cX2_add 50 = .ok (.getfield 24, 3) := by decide +kernel
theorem dX2_add_53 : decode cX2_add 53 = .ok (.iload 4, 2) := by decide +kernel
theorem dX2_add_55 : decode cX2_add 55 = .ok (.iastore, 1) := by decide +kernel
theorem dX2_add_56 : decode cX2_add 56 = .ok (.aload_n 0, 1) := by decide +kernel
theorem dX2_add_57 : decode cX2_add 57 = .ok (.dup, 1) := by decide +kernel
theorem dX2_add_58 : decode cX2_add 58 = .ok (.getfield 24, 3) := by decide +kernel
theorem dX2_add_61 : decode cX2_add 61 = .ok (.iconst 1, 1) := by decide +kernel
theorem dX2_add_62 : decode cX2_add 62 = .ok (.iadd, 1) := by decide +kernel
theorem dX2_add_63 : decode cX2_add 63 = .ok (.putfield 24, 3) := by decide +kernel
theorem dX2_add_66 : decode cX2_add 66 = .ok (.iconst 1, 1) := by decide +kernel
theorem dX2_add_67 : decode cX2_add 67 = .ok (.ireturn, 1) := by decide +kernel
set_option maxRecDepth 20000 in
theorem ggX2_firstWrong_X2_isRight : GoodIn wsX2_firstWrong wsX2_isRight := goodIn_r _ [6, 7, 8, 9, 10, 11, 12, 13, 14, 15, 16, 17, 18, 19, 20, 21, 22, 23, 24, 25, 26, 27, 28, 29, 30, 31, 32, 33, 34, 35, 36, 37, 38, 39, 40, 41] (by decide +kernel) (by decide +kernel)
set_option maxRecDepth 20000 in
theorem gX2_firstWrong_X2_isRight : GoodIn wsX2_firstWrong (wsV RX2 32 RX2 yX2_isRight wsX2_isRight) := goodIn_app (goodIn_of _ (by decide +kernel)) ggX2_firstWrong_X2_isRight
theorem dX2_firstWrong_0 : decode cX2_firstWrong 0 = .ok (.iconst 0, 1) := by decide +kernel
theorem dX2_firstWrong_1 : decode cX2_firstWrong 1 = .ok (.istore_n 2, 1) := by decide +kernel
theorem dX2_firstWrong_2 : decode cX2_firstWrong 2 = .ok (.iload_n 2, 1) := by decide +kernel
theorem dX2_firstWrong_3 : decode cX2_firstWrong 3 = .ok (.aload_n 0, 1) := by decide +kernel
theorem dX2_firstWrong_4 : decode cX2_firstWrong 4 = .ok (.getfield 24, 3) := by decide +kernel
theorem dX2_firstWrong_7 : decode cX2_firstWrong 7 = .ok (.if_icmp .ge 20, 3) := by decide +kernel
theorem dX2_firstWrong_10 : decode cX2_firstWrong 10 = .ok (.aload_n 0, 1) := by decide +kernel
theorem dX2_firstWrong_11 : decode cX2_firstWrong 11 = .ok (.aload_n 1, 1) := by decide +kernel
theorem dX2_firstWrong_12 : decode cX2_firstWrong 12 = .ok (.iload_n 2, 1) := by decide +kernel
theorem dX2_firstWrong_13 : decode cX2_firstWrong 13 = .ok (.invokevirtual 32, 3) := by decide +kernel
theorem dX2_firstWrong_16 : decode cX2_firstWrong 16 = .ok (.ifCond .ne 5, 3) := by decide +kernel
theorem dX2_firstWrong_19 : decode cX2_firstWrong 19 = .ok (.iload_n 2, 1) := by decide +kernel
theorem dX2_firstWrong_20 : decode cX2_firstWrong 20 = .ok (.ireturn, 1) := by decide +kernel
theorem dX2_firstWrong_21 : decode cX2_firstWrong 21 = .ok (.iinc 2 1, 3) := by decide +kernel
theorem dX2_firstWrong_24 : decode cX2_firstWrong 24 = .ok (.goto (-22), 3) := by decide +kernel
theorem dX2_firstWrong_27 : decode cX2_firstWrong 27 = .ok (.iconst (-1), 1) := by decide +kernel
theorem dX2_firstWrong_28 : decode cX2_firstWrong 28 = .ok (.ireturn, 1) := by decide +kernel
set_option maxRecDepth 20000 in
theorem ggX2_isRight_X5_has : GoodIn wsX2_isRight wsX5_has := goodIn_r _ [9, 10, 11, 12, 13, 28, 29, 30, 31, 32, 33, 34, 35] (by decide +kernel) (by decide +kernel)
set_option maxRecDepth 20000 in
theorem gX2_isRight_X5_has : GoodIn wsX2_isRight (wsV RX2 36 RX5 yX5_has wsX5_has) := goodIn_app (goodIn_of _ (by decide +kernel)) ggX2_isRight_X5_has
set_option maxRecDepth 20000 in
theorem ggX2_isRight_X5_letterAt : GoodIn wsX2_isRight wsX5_letterAt := goodIn_r _ [17, 18, 19, 20, 8, 21, 22, 28, 29, 30, 31, 32, 33, 34, 35] (by decide +kernel) (by decide +kernel)
set_option maxRecDepth 20000 in
theorem gX2_isRight_X5_letterAt : GoodIn wsX2_isRight (wsV RX2 42 RX5 yX5_letterAt wsX5_letterAt) := goodIn_app (goodIn_of _ (by decide +kernel)) ggX2_isRight_X5_letterAt
theorem dX2_isRight_0 : decode cX2_isRight 0 = .ok (.aload_n 1, 1) := by decide +kernel
theorem dX2_isRight_1 : decode cX2_isRight 1 = .ok (.aload_n 0, 1) := by decide +kernel
theorem dX2_isRight_2 : decode cX2_isRight 2 = .ok (.getfield 11, 3) := by decide +kernel
theorem dX2_isRight_5 : decode cX2_isRight 5 = .ok (.iload_n 2, 1) := by decide +kernel
theorem dX2_isRight_6 : decode cX2_isRight 6 = .ok (.iaload, 1) := by decide +kernel
theorem dX2_isRight_7 : decode cX2_isRight 7 = .ok (.invokevirtual 36, 3) := by decide +kernel
theorem dX2_isRight_10 : decode cX2_isRight 10 = .ok (.ifCond .ne 5, 3) := by decide +kernel
theorem dX2_isRight_13 : decode cX2_isRight 13 = .ok (.iconst 0, 1) := by decide +kernel
theorem dX2_isRight_14 : decode cX2_isRight 14 = .ok (.ireturn, 1) := by decide +kernel
theorem dX2_isRight_15 : decode cX2_isRight 15 = .ok (.aload_n 1, 1) := by decide +kernel
theorem dX2_isRight_16 : decode cX2_isRight 16 = .ok (.aload_n 0, 1) := by decide +kernel
theorem dX2_isRight_17 : decode cX2_isRight 17 = .ok (.getfield 11, 3) := by decide +kernel
theorem dX2_isRight_20 : decode cX2_isRight 20 = .ok (.iload_n 2, 1) := by decide +kernel
theorem dX2_isRight_21 : decode cX2_isRight 21 = .ok (.iaload, 1) := by decide +kernel
theorem dX2_isRight_22 : decode cX2_isRight 22 = .ok (.aload_n 0, 1) := by decide +kernel
theorem dX2_isRight_23 : decode cX2_isRight 23 = .ok (.getfield 15, 3) := by decide +kernel
theorem dX2_isRight_26 : decode cX2_isRight 26 = .ok (.iload_n 2, 1) := by decide +kernel
theorem dX2_isRight_27 : decode cX2_isRight 27 = .ok (.iaload, 1) := by decide +kernel
theorem dX2_isRight_28 : decode cX2_isRight 28 = .ok (.aload_n 0, 1) := by decide +kernel
theorem dX2_isRight_29 : decode cX2_isRight 29 = .ok (.getfield 18, 3) := by decide +kernel
theorem dX2_isRight_32 : decode cX2_isRight 32 = .ok (.iload_n 2, 1) := by decide +kernel
theorem dX2_isRight_33 : decode cX2_isRight 33 = .ok (.iaload, 1) := by decide +kernel
theorem dX2_isRight_34 : decode cX2_isRight 34 = .ok (.invokevirtual 42, 3) := by decide +kernel
theorem dX2_isRight_37 : decode cX2_isRight 37 = .ok (.istore_n 3, 1) := by decide +kernel
theorem dX2_isRight_38 : decode cX2_isRight 38 = .ok (.iload_n 3, 1) := by decide +kernel
theorem dX2_isRight_39 : decode cX2_isRight 39 = .ok (.iconst (-1), 1) := by decide +kernel
theorem dX2_isRight_40 : decode cX2_isRight 40 = .ok (.if_icmp .eq 20, 3) := by decide +kernel
theorem dX2_isRight_43 : decode cX2_isRight 43 = .ok (.iload_n 3, 1) := by decide +kernel
theorem dX2_isRight_44 : decode cX2_isRight 44 = .ok (.bipush 127, 2) := by decide +kernel
theorem dX2_isRight_46 : decode cX2_isRight 46 = .ok (.iand, 1) := by decide +kernel
theorem dX2_isRight_47 : decode cX2_isRight 47 = .ok (.aload_n 0, 1) := by decide +kernel
theorem dX2_isRight_48 : decode cX2_isRight 48 = .ok (.getfield 21, 3) := by decide +kernel
theorem dX2_isRight_51 : decode cX2_isRight 51 = .ok (.iload_n 2, 1) := by decide +kernel
theorem dX2_isRight_52 : decode cX2_isRight 52 = .ok (.iaload, 1) := by decide +kernel
theorem dX2_isRight_53 : decode cX2_isRight 53 = .ok (.if_icmp .ne 7, 3) := by decide +kernel
theorem dX2_isRight_56 : decode cX2_isRight 56 = .ok (.iconst 1, 1) := by decide +kernel
theorem dX2_isRight_57 : decode cX2_isRight 57 = .ok (.goto 4, 3) := by decide +kernel
theorem dX2_isRight_60 : decode cX2_isRight 60 = .ok (.iconst 0, 1) := by decide +kernel
theorem dX2_isRight_61 : decode cX2_isRight 61 = .ok (.ireturn, 1) := by decide +kernel
set_option maxRecDepth 20000 in
theorem ggX3_take_X5_countMended : GoodIn wsX3_take wsX5_countMended := goodIn_r _ [6, 7, 8, 9, 10, 11, 12, 13, 14, 15, 16, 17, 18, 19, 20, 21, 22, 23, 111, 112, 113, 114, 115, 116, 117, 118] (by decide +kernel) (by decide +kernel)
set_option maxRecDepth 20000 in
theorem gX3_take_X5_countMended : GoodIn wsX3_take (wsV RX3 9 RX5 yX5_countMended wsX5_countMended) := goodIn_app (goodIn_of _ (by decide +kernel)) ggX3_take_X5_countMended
set_option maxRecDepth 20000 in
theorem ggX3_take_X1_decode : GoodIn wsX3_take wsX1_decode := goodIn_r _ [12, 13, 14, 15, 16, 17, 18, 19, 20] (by decide +kernel) (by decide +kernel)
set_option maxRecDepth 20000 in
theorem gX3_take_X1_decode : GoodIn wsX3_take (va_wsS RX3 15 yX1_decode wsX1_decode) := goodIn_app (goodIn_of _ (by decide +kernel)) ggX3_take_X1_decode
set_option maxRecDepth 20000 in
theorem ggX3_take_X7_isWithin : GoodIn wsX3_take wsX7_isWithin := goodIn_r _ [27] (by decide +kernel) (by decide +kernel)
set_option maxRecDepth 20000 in
theorem gX3_take_X7_isWithin_n21 : GoodIn wsX3_take (wsX7_isWithin) := ggX3_take_X7_isWithin
set_option maxRecDepth 20000 in
theorem ggX3_take_X3_takeHead : GoodIn wsX3_take wsX3_takeHead := goodIn_r _ [31, 1, 2, 3, 4, 5, 6, 7, 8, 9, 10, 11, 12, 13, 14, 15, 16, 17, 18, 19, 20, 21, 22, 23, 32, 33, 30, 34, 24, 25, 26, 27, 35, 36, 37, 38, 39, 40, 41, 42, 43, 44, 45, 46, 47, 48, 49, 50, 51, 52, 53, 54, 55, 56, 57, 58, 59, 60, 61, 62, 63, 64, 65, 66, 67, 68, 69, 70, 71, 72, 73, 74, 75, 76, 77, 78, 79, 80, 81, 82, 83, 84, 85, 86, 111, 112, 113, 114, 115, 116, 117, 118] (by decide +kernel) (by decide +kernel)
set_option maxRecDepth 20000 in
theorem gX3_take_X3_takeHead : GoodIn wsX3_take (va_wsS RX3 25 yX3_takeHead wsX3_takeHead) := goodIn_app (goodIn_of _ (by decide +kernel)) ggX3_take_X3_takeHead
set_option maxRecDepth 20000 in
theorem ggX3_take_X3_takeLinks : GoodIn wsX3_take wsX3_takeLinks := goodIn_r _ [89, 90, 91, 92, 5, 93, 39, 25, 26, 27, 2, 3, 4, 6, 7, 8, 9, 10, 11, 12, 13, 14, 15, 16, 17, 18, 19, 20, 21, 22, 23, 32, 33, 30, 34, 24, 94, 95, 96, 97, 71, 72, 73, 74, 54, 111, 112, 113, 114, 115, 116, 117, 118] (by decide +kernel) (by decide +kernel)
set_option maxRecDepth 20000 in
theorem gX3_take_X3_takeLinks : GoodIn wsX3_take (va_wsS RX3 35 yX3_takeLinks wsX3_takeLinks) := goodIn_app (goodIn_of _ (by decide +kernel)) ggX3_take_X3_takeLinks
set_option maxRecDepth 20000 in
theorem ggX3_take_X3_takeRow : GoodIn wsX3_take wsX3_takeRow := goodIn_r _ [100, 90, 91, 92, 5, 93, 39, 25, 26, 27, 101, 102, 103, 104, 105, 106, 11, 107, 14, 15, 16, 17, 18, 19, 20, 71, 72, 73, 74, 54, 50, 51, 52, 53, 108, 109, 110, 111, 112, 113, 114, 115, 116, 117, 118] (by decide +kernel) (by decide +kernel)
set_option maxRecDepth 20000 in
theorem gX3_take_X3_takeRow : GoodIn wsX3_take (va_wsS RX3 38 yX3_takeRow wsX3_takeRow) := goodIn_app (goodIn_of _ (by decide +kernel)) ggX3_take_X3_takeRow
theorem dX3_take_0 : decode cX3_take 0 = .ok (.aload_n 0, 1) := by decide +kernel
theorem dX3_take_1 : decode cX3_take 1 = .ok (.aload_n 1, 1) := by decide +kernel
theorem dX3_take_2 : decode cX3_take 2 = .ok (.iconst 0, 1) := by decide +kernel
theorem dX3_take_3 : decode cX3_take 3 = .ok (.iconst 2, 1) := by decide +kernel
theorem dX3_take_4 : decode cX3_take 4 = .ok (.invokevirtual 9, 3) := by decide +kernel
theorem dX3_take_7 : decode cX3_take 7 = .ok (.aload_n 1, 1) := by decide +kernel
theorem dX3_take_8 : decode cX3_take 8 = .ok (.iconst 0, 1) := by decide +kernel
theorem dX3_take_9 : decode cX3_take 9 = .ok (.iaload, 1) := by decide +kernel
theorem dX3_take_10 : decode cX3_take 10 = .ok (.invokestatic 15, 3) := by decide +kernel
theorem dX3_take_13 : decode cX3_take 13 = .ok (.istore_n 2, 1) := by decide +kernel
theorem dX3_take_14 : decode cX3_take 14 = .ok (.aload_n 1, 1) := by decide +kernel
theorem dX3_take_15 : decode cX3_take 15 = .ok (.iconst 1, 1) := by decide +kernel
theorem dX3_take_16 : decode cX3_take 16 = .ok (.iaload, 1) := by decide +kernel
theorem dX3_take_17 : decode cX3_take 17 = .ok (.invokestatic 15, 3) := by decide +kernel
theorem dX3_take_20 : decode cX3_take 20 = .ok (.istore_n 3, 1) := by decide +kernel
theorem dX3_take_21 : decode cX3_take 21 = .ok (.iload_n 2, 1) := by decide +kernel
theorem dX3_take_22 : decode cX3_take 22 = .ok (.iconst 0, 1) := by decide +kernel
theorem dX3_take_23 : decode cX3_take 23 = .ok (.iconst 3, 1) := by decide +kernel
theorem dX3_take_24 : decode cX3_take 24 = .ok (.invokestatic 21, 3) := by decide +kernel
theorem dX3_take_27 : decode cX3_take 27 = .ok (.ifCond .ne 5, 3) := by decide +kernel
theorem dX3_take_30 : decode cX3_take 30 = .ok (.iconst 0, 1) := by decide +kernel
theorem dX3_take_31 : decode cX3_take 31 = .ok (.ireturn, 1) := by decide +kernel
theorem dX3_take_32 : decode cX3_take 32 = .ok (.iload_n 3, 1) := by decide +kernel
theorem dX3_take_33 : decode cX3_take 33 = .ok (.lookupswitch 56 #[(0, 35), (6, 42), (7, 54)], 35) := by decide +kernel
theorem dX3_take_68 : decode cX3_take 68 = .ok (.aload_n 0, 1) := by decide +kernel
theorem dX3_take_69 : decode cX3_take 69 = .ok (.iload_n 2, 1) := by decide +kernel
theorem dX3_take_70 : decode cX3_take 70 = .ok (.aload_n 1, 1) := by decide +kernel
theorem dX3_take_71 : decode cX3_take 71 = .ok (.invokestatic 25, 3) := by decide +kernel
theorem dX3_take_74 : decode cX3_take 74 = .ok (.ireturn, 1) := by decide +kernel
theorem dX3_take_75 : decode cX3_take 75 = .ok (.aload_n 0, 1) := by decide +kernel
theorem dX3_take_76 : decode cX3_take 76 = .ok (.aload_n 0, 1) := by decide +kernel
theorem dX3_take_77 : decode cX3_take 77 = .ok (.getfield 31, 3) := by decide +kernel
theorem dX3_take_80 : decode cX3_take 80 = .ok (.iload_n 2, 1) := by decide +kernel
theorem dX3_take_81 : decode cX3_take 81 = .ok (.iaload, 1) := by decide +kernel
theorem dX3_take_82 : decode cX3_take 82 = .ok (.aload_n 1, 1) := by decide +kernel
theorem dX3_take_83 : decode cX3_take 83 = .ok (.invokestatic 35, 3) := by decide +kernel
theorem dX3_take_86 : decode cX3_take 86 = .ok (.ireturn, 1) := by decide +kernel
theorem dX3_take_87 : decode cX3_take 87 = .ok (.iconst 1, 1) := by decide +kernel
theorem dX3_take_88 : decode cX3_take 88 = .ok (.ireturn, 1) := by decide +kernel
theorem dX3_take_89 : decode cX3_take 89 = .ok (.aload_n 0, 1) := by decide +kernel
theorem dX3_take_90 : decode cX3_take 90 = .ok (.aload_n 0, 1) := by decide +kernel
theorem dX3_take_91 : decode cX3_take 91 = .ok (.getfield 31, 3) := by decide +kernel
theorem dX3_take_94 : decode cX3_take 94 = .ok (.iload_n 2, 1) := by decide +kernel
theorem dX3_take_95 : decode cX3_take 95 = .ok (.iaload, 1) := by decide +kernel
theorem dX3_take_96 : decode cX3_take 96 = .ok (.iload_n 3, 1) := by decide +kernel
theorem dX3_take_97 : decode cX3_take 97 = .ok (.iconst 1, 1) := by decide +kernel
theorem dX3_take_98 : decode cX3_take 98 = .ok (.isub, 1) := by decide +kernel
theorem dX3_take_99 : decode cX3_take 99 = .ok (.aload_n 1, 1) := by decide +kernel
theorem dX3_take_100 : decode cX3_take 100 = .ok (.invokestatic 38, 3) := by decide +kernel
theorem dX3_take_103 : decode cX3_take 103 = .ok (.ireturn, 1) := by decide +kernel
set_option maxRecDepth 20000 in
theorem ggX3_takeHead_X5_countMended : GoodIn wsX3_takeHead wsX5_countMended := goodIn_r _ [6, 7, 8, 9, 10, 11, 12, 13, 14, 15, 16, 17, 18, 19, 20, 21, 22, 23, 84, 85, 86, 87, 88, 89, 90, 91] (by decide +kernel) (by decide +kernel)
set_option maxRecDepth 20000 in
theorem gX3_takeHead_X5_countMended : GoodIn wsX3_takeHead (wsV RX3 9 RX5 yX5_countMended wsX5_countMended) := goodIn_app (goodIn_of _ (by decide +kernel)) ggX3_takeHead_X5_countMended
set_option maxRecDepth 20000 in
theorem ggX3_takeHead_X3_numberAt : GoodIn wsX3_takeHead wsX3_numberAt := goodIn_r _ [27, 28, 10, 11, 12, 13, 14, 15, 16, 17, 18, 19, 20, 29, 30, 31] (by decide +kernel) (by decide +kernel)
set_option maxRecDepth 20000 in
theorem gX3_takeHead_X3_numberAt : GoodIn wsX3_takeHead (va_wsS RX3 42 yX3_numberAt wsX3_numberAt) := goodIn_app (goodIn_of _ (by decide +kernel)) ggX3_takeHead_X3_numberAt
set_option maxRecDepth 20000 in
theorem ggX3_takeHead_X1_decode : GoodIn wsX3_takeHead wsX1_decode := goodIn_r _ [12, 13, 14, 15, 16, 17, 18, 19, 20] (by decide +kernel) (by decide +kernel)
set_option maxRecDepth 20000 in
theorem gX3_takeHead_X1_decode : GoodIn wsX3_takeHead (va_wsS RX3 15 yX1_decode wsX1_decode) := goodIn_app (goodIn_of _ (by decide +kernel)) ggX3_takeHead_X1_decode
set_option maxRecDepth 20000 in
theorem ggX3_takeHead_X7_isWithin : GoodIn wsX3_takeHead wsX7_isWithin := goodIn_r _ [31] (by decide +kernel) (by decide +kernel)
set_option maxRecDepth 20000 in
theorem gX3_takeHead_X7_isWithin_n21 : GoodIn wsX3_takeHead (wsX7_isWithin) := ggX3_takeHead_X7_isWithin
set_option maxRecDepth 20000 in
theorem ggX3_takeHead_X5_openPage : GoodIn wsX3_takeHead wsX5_openPage := goodIn_r _ [35, 36, 37, 38, 39, 40, 41, 42, 43, 44, 45, 5, 46, 47, 48, 49, 50, 51, 52, 53, 54, 55, 56, 57, 58, 59, 60, 61, 62, 63, 64, 65, 66, 67, 68, 69, 70, 71, 72, 73, 74, 75, 76, 77, 78, 79, 80, 81, 82, 84, 85, 86, 87, 88, 89, 90, 91] (by decide +kernel) (by decide +kernel)
set_option maxRecDepth 20000 in
theorem gX3_takeHead_X5_openPage : GoodIn wsX3_takeHead (wsV RX3 46 RX5 yX5_openPage wsX5_openPage) := goodIn_app (goodIn_of _ (by decide +kernel)) ggX3_takeHead_X5_openPage
set_option maxRecDepth 20000 in
theorem ggX3_takeHead_X5_clear : GoodIn wsX3_takeHead wsX5_clear := goodIn_r _ [75, 51, 76, 77, 78, 79, 80, 81, 82, 84, 85, 86, 87, 88, 89, 90, 91] (by decide +kernel) (by decide +kernel)
set_option maxRecDepth 20000 in
theorem gX3_takeHead_X5_clear : GoodIn wsX3_takeHead (wsV RX3 50 RX5 yX5_clear wsX5_clear) := goodIn_app (goodIn_of _ (by decide +kernel)) ggX3_takeHead_X5_clear
theorem dX3_takeHead_0 : decode cX3_takeHead 0 = .ok (.aload_n 0, 1) := by decide +kernel
theorem dX3_takeHead_1 : decode cX3_takeHead 1 = .ok (.aload_n 2, 1) := by decide +kernel
theorem dX3_takeHead_2 : decode cX3_takeHead 2 = .ok (.iconst 2, 1) := by decide +kernel
theorem dX3_takeHead_3 : decode cX3_takeHead 3 = .ok (.bipush 6, 2) := by decide +kernel
theorem dX3_takeHead_5 : decode cX3_takeHead 5 = .ok (.invokevirtual 9, 3) := by decide +kernel
theorem dX3_takeHead_8 : decode cX3_takeHead 8 = .ok (.aload_n 2, 1) := by decide +kernel
theorem dX3_takeHead_9 : decode cX3_takeHead 9 = .ok (.iconst 2, 1) := by decide +kernel
theorem dX3_takeHead_10 : decode cX3_takeHead 10 = .ok (.invokestatic 42, 3) := by decide +kernel
theorem dX3_takeHead_13 : decode cX3_takeHead 13 = .ok (.istore_n 3, 1) := by decide +kernel
theorem dX3_takeHead_14 : decode cX3_takeHead 14 = .ok (.aload_n 2, 1) := by decide +kernel
theorem dX3_takeHead_15 : decode cX3_takeHead 15 = .ok (.iconst 4, 1) := by decide +kernel
theorem dX3_takeHead_16 : decode cX3_takeHead 16 = .ok (.iaload, 1) := by decide +kernel
theorem dX3_takeHead_17 : decode cX3_takeHead 17 = .ok (.invokestatic 15, 3) := by decide +kernel
theorem dX3_takeHead_20 : decode cX3_takeHead 20 = .ok (.istore 4, 2) := by decide +kernel
theorem dX3_takeHead_22 : decode cX3_takeHead 22 = .ok (.aload_n 2, 1) := by decide +kernel
theorem dX3_takeHead_23 : decode cX3_takeHead 23 = .ok (.iconst 5, 1) := by decide +kernel
theorem dX3_takeHead_24 : decode cX3_takeHead 24 = .ok (.iaload, 1) := by decide +kernel
theorem dX3_takeHead_25 : decode cX3_takeHead 25 = .ok (.invokestatic 15, 3) := by decide +kernel
theorem dX3_takeHead_28 : decode cX3_takeHead 28 = .ok (.istore 5, 2) := by decide +kernel
theorem dX3_takeHead_30 : decode cX3_takeHead 30 = .ok (.iload_n 3, 1) := by decide +kernel
theorem dX3_takeHead_31 : decode cX3_takeHead 31 = .ok (.iconst (-1), 1) := by decide +kernel
theorem dX3_takeHead_32 : decode cX3_takeHead 32 = .ok (.if_icmp .eq 20, 3) := by decide +kernel
theorem dX3_takeHead_35 : decode cX3_takeHead 35 = .ok (.iload 4, 2) := by decide +kernel
theorem dX3_takeHead_37 : decode cX3_takeHead 37 = .ok (.iconst 0, 1) := by decide +kernel
theorem dX3_takeHead_38 : decode cX3_takeHead 38 = .ok (.bipush 7, 2) := by decide +kernel
theorem dX3_takeHead_40 : decode cX3_takeHead 40 = .ok (.invokestatic 21, 3) := by decide +kernel
theorem dX3_takeHead_43 : decode cX3_takeHead 43 = .ok (.ifCond .eq 9, 3) := by decide +kernel
theorem dX3_takeHead_46 : decode cX3_takeHead 46 = .ok (.iload 5, 2) := by decide +kernel
theorem dX3_takeHead_48 : decode cX3_takeHead 48 = .ok (.iconst (-1), 1) := by decide +kernel
theorem dX3_takeHead_49 : decode cX3_takeHead 49 = .ok (.if_icmp .ne 12, 3) := by decide +kernel
theorem dX3_takeHead_52 : decode cX3_takeHead 52 = .ok (.aload_n 0, 1) := by decide +kernel
theorem dX3_takeHead_53 : decode cX3_takeHead 53 = .ok (.getfield 31, 3) := by decide +kernel
theorem dX3_takeHead_56 : decode cX3_takeHead 56 = .ok (.iload_n 1, 1) := by decide +kernel
theorem dX3_takeHead_57 : decode cX3_takeHead 57 = .ok (.iconst (-1), 1) := by decide +kernel
theorem dX3_takeHead_58 : decode cX3_takeHead 58 = .ok (.iastore, 1) := by decide +kernel
theorem dX3_takeHead_59 : decode cX3_takeHead 59 = .ok (.iconst 0, 1) := by decide +kernel
theorem dX3_takeHead_60 : decode cX3_takeHead 60 = .ok (.ireturn, 1) := by decide +kernel
theorem dX3_takeHead_61 : decode cX3_takeHead 61 = .ok (.aload_n 0, 1) := by decide +kernel
theorem dX3_takeHead_62 : decode cX3_takeHead 62 = .ok (.iload_n 1, 1) := by decide +kernel
theorem dX3_takeHead_63 : decode cX3_takeHead 63 = .ok (.iload_n 3, 1) := by decide +kernel
theorem dX3_takeHead_64 : decode cX3_takeHead 64 = .ok (.iload 4, 2) := by decide +kernel
theorem dX3_takeHead_66 : decode cX3_takeHead 66 = .ok (.invokevirtual 46, 3) := by decide +kernel
theorem dX3_takeHead_69 : decode cX3_takeHead 69 = .ok (.istore 6, 2) := by decide +kernel
theorem dX3_takeHead_71 : decode cX3_takeHead 71 = .ok (.iload 5, 2) := by decide +kernel
theorem dX3_takeHead_73 : decode cX3_takeHead 73 = .ok (.iconst 1, 1) := by decide +kernel
theorem dX3_takeHead_74 : decode cX3_takeHead 74 = .ok (.iand, 1) := by decide +kernel
theorem dX3_takeHead_75 : decode cX3_takeHead 75 = .ok (.iconst 1, 1) := by decide +kernel
theorem dX3_takeHead_76 : decode cX3_takeHead 76 = .ok (.if_icmp .ne 9, 3) := by decide +kernel
theorem dX3_takeHead_79 : decode cX3_takeHead 79 = .ok (.aload_n 0, 1) := by decide +kernel
theorem dX3_takeHead_80 : decode cX3_takeHead 80 = .ok (.iload 6, 2) := by decide +kernel
theorem dX3_takeHead_82 : decode cX3_takeHead 82 = .ok (.invokevirtual 50, 3) := by decide +kernel
theorem dX3_takeHead_85 : decode cX3_takeHead 85 = .ok (.iconst 1, 1) := by decide +kernel
theorem dX3_takeHead_86 : decode cX3_takeHead 86 = .ok (.ireturn, 1) := by decide +kernel
set_option maxRecDepth 20000 in
theorem ggX3_takeLinks_X5_has : GoodIn wsX3_takeLinks wsX5_has := goodIn_r _ [5, 6, 7, 8, 9, 45, 46, 47, 48, 49, 50, 51, 52] (by decide +kernel) (by decide +kernel)
set_option maxRecDepth 20000 in
theorem gX3_takeLinks_X5_has : GoodIn wsX3_takeLinks (wsV RX3 54 RX5 yX5_has wsX5_has) := goodIn_app (goodIn_of _ (by decide +kernel)) ggX3_takeLinks_X5_has
set_option maxRecDepth 20000 in
theorem ggX3_takeLinks_X5_countMended : GoodIn wsX3_takeLinks wsX5_countMended := goodIn_r _ [13, 14, 15, 16, 17, 18, 19, 20, 21, 22, 23, 24, 25, 26, 27, 28, 29, 30, 45, 46, 47, 48, 49, 50, 51, 52] (by decide +kernel) (by decide +kernel)
set_option maxRecDepth 20000 in
theorem gX3_takeLinks_X5_countMended : GoodIn wsX3_takeLinks (wsV RX3 9 RX5 yX5_countMended wsX5_countMended) := goodIn_app (goodIn_of _ (by decide +kernel)) ggX3_takeLinks_X5_countMended
set_option maxRecDepth 20000 in
theorem ggX3_takeLinks_X3_numberAt : GoodIn wsX3_takeLinks wsX3_numberAt := goodIn_r _ [34, 35, 17, 18, 19, 20, 21, 22, 23, 24, 25, 26, 27, 7, 8, 9] (by decide +kernel) (by decide +kernel)
set_option maxRecDepth 20000 in
theorem gX3_takeLinks_X3_numberAt : GoodIn wsX3_takeLinks (va_wsS RX3 42 yX3_numberAt wsX3_numberAt) := goodIn_app (goodIn_of _ (by decide +kernel)) ggX3_takeLinks_X3_numberAt
set_option maxRecDepth 20000 in
theorem ggX3_takeLinks_X5_putLink : GoodIn wsX3_takeLinks wsX5_putLink := goodIn_r _ [39, 40, 41, 42, 4, 43, 44, 45, 46, 47, 48, 49, 50, 51, 52] (by decide +kernel) (by decide +kernel)
set_option maxRecDepth 20000 in
theorem gX3_takeLinks_X5_putLink : GoodIn wsX3_takeLinks (wsV RX3 58 RX5 yX5_putLink wsX5_putLink) := goodIn_app (goodIn_of _ (by decide +kernel)) ggX3_takeLinks_X5_putLink
theorem dX3_takeLinks_0 : decode cX3_takeLinks 0 = .ok (.aload_n 0, 1) := by decide +kernel
theorem dX3_takeLinks_1 : decode cX3_takeLinks 1 = .ok (.iload_n 1, 1) := by decide +kernel
theorem dX3_takeLinks_2 : decode cX3_takeLinks 2 = .ok (.invokevirtual 54, 3) := by decide +kernel
theorem dX3_takeLinks_5 : decode cX3_takeLinks 5 = .ok (.ifCond .ne 5, 3) := by decide +kernel
theorem dX3_takeLinks_8 : decode cX3_takeLinks 8 = .ok (.iconst 0, 1) := by decide +kernel
theorem dX3_takeLinks_9 : decode cX3_takeLinks 9 = .ok (.ireturn, 1) := by decide +kernel
theorem dX3_takeLinks_10 : decode cX3_takeLinks 10 = .ok (.aload_n 0, 1) := by decide +kernel
theorem dX3_takeLinks_11 : decode cX3_takeLinks 11 = .ok (.aload_n 2, 1) := by decide +kernel
theorem dX3_takeLinks_12 : decode cX3_takeLinks 12 = .ok (.iconst 2, 1) := by decide +kernel
theorem dX3_takeLinks_13 : decode cX3_takeLinks 13 = .ok (.bipush 10, 2) := by decide +kernel
theorem dX3_takeLinks_15 : decode cX3_takeLinks 15 = .ok (.invokevirtual 9, 3) := by decide +kernel
theorem dX3_takeLinks_18 : decode cX3_takeLinks 18 = .ok (.iconst 0, 1) := by decide +kernel
theorem dX3_takeLinks_19 : decode cX3_takeLinks 19 = .ok (.istore_n 3, 1) := by decide +kernel
theorem dX3_takeLinks_20 : decode cX3_takeLinks 20 = .ok (.iload_n 3, 1) := by decide +kernel
theorem dX3_takeLinks_21 : decode cX3_takeLinks 21 = .ok (.iconst 4, 1) := by decide +kernel
theorem dX3_takeLinks_22 : decode cX3_takeLinks 22 = .ok (.if_icmp .ge 34, 3) := by decide +kernel
theorem dX3_takeLinks_25 : decode cX3_takeLinks 25 = .ok (.aload_n 2, 1) := by decide +kernel
theorem dX3_takeLinks_26 : decode cX3_takeLinks 26 = .ok (.iconst 2, 1) := by decide +kernel
theorem dX3_takeLinks_27 : decode cX3_takeLinks 27 = .ok (.iconst 2, 1) := by decide +kernel
theorem dX3_takeLinks_28 : decode cX3_takeLinks 28 = .ok (.iload_n 3, 1) := by decide +kernel
theorem dX3_takeLinks_29 : decode cX3_takeLinks 29 = .ok (.imul, 1) := by decide +kernel
theorem dX3_takeLinks_30 : decode cX3_takeLinks 30 = .ok (.iadd, 1) := by decide +kernel
theorem dX3_takeLinks_31 : decode cX3_takeLinks 31 = .ok (.invokestatic 42, 3) := by decide +kernel
theorem dX3_takeLinks_34 : decode cX3_takeLinks 34 = .ok (.istore 4, 2) := by decide +kernel
theorem dX3_takeLinks_36 : decode cX3_takeLinks 36 = .ok (.iload 4, 2) := by decide +kernel
theorem dX3_takeLinks_38 : decode cX3_takeLinks 38 = .ok (.iconst (-1), 1) := by decide +kernel
theorem dX3_takeLinks_39 : decode cX3_takeLinks 39 = .ok (.if_icmp .eq 11, 3) := by decide +kernel
theorem dX3_takeLinks_42 : decode cX3_takeLinks 42 = .ok (.aload_n 0, 1) := by decide +kernel
theorem dX3_takeLinks_43 : decode cX3_takeLinks 43 = .ok (.iload_n 1, 1) := by decide +kernel
theorem dX3_takeLinks_44 : decode cX3_takeLinks 44 = .ok (.iload_n 3, 1) := by decide +kernel
theorem dX3_takeLinks_45 : decode cX3_takeLinks 45 = .ok (.iload 4, 2) := by decide +kernel
theorem dX3_takeLinks_47 : decode cX3_takeLinks 47 = .ok (.invokevirtual 58, 3) := by decide +kernel
theorem dX3_takeLinks_50 : decode cX3_takeLinks 50 = .ok (.iinc 3 1, 3) := by decide +kernel
theorem dX3_takeLinks_53 : decode cX3_takeLinks 53 = .ok (.goto (-33), 3) := by decide +kernel
theorem dX3_takeLinks_56 : decode cX3_takeLinks 56 = .ok (.iconst 1, 1) := by decide +kernel
theorem dX3_takeLinks_57 : decode cX3_takeLinks 57 = .ok (.ireturn, 1) := by decide +kernel
set_option maxRecDepth 20000 in
theorem ggX3_takeRow_X5_has : GoodIn wsX3_takeRow wsX5_has := goodIn_r _ [5, 6, 7, 8, 9, 37, 38, 39, 40, 41, 42, 43, 44] (by decide +kernel) (by decide +kernel)
set_option maxRecDepth 20000 in
theorem gX3_takeRow_X5_has : GoodIn wsX3_takeRow (wsV RX3 54 RX5 yX5_has wsX5_has) := goodIn_app (goodIn_of _ (by decide +kernel)) ggX3_takeRow_X5_has
set_option maxRecDepth 20000 in
theorem ggX3_takeRow_X7_isWithin : GoodIn wsX3_takeRow wsX7_isWithin := goodIn_r _ [9] (by decide +kernel) (by decide +kernel)
set_option maxRecDepth 20000 in
theorem gX3_takeRow_X7_isWithin_n21 : GoodIn wsX3_takeRow (wsX7_isWithin) := ggX3_takeRow_X7_isWithin
set_option maxRecDepth 20000 in
theorem ggX3_takeRow_X5_putLetter : GoodIn wsX3_takeRow wsX5_putLetter := goodIn_r _ [13, 14, 15, 16, 17, 18, 19, 20, 21, 22, 23, 24, 25, 26, 27, 4, 28, 29, 30, 31, 32, 33, 34, 35, 36, 7, 8, 9, 37, 38, 39, 40, 41, 42, 43, 44] (by decide +kernel) (by decide +kernel)
set_option maxRecDepth 20000 in
theorem gX3_takeRow_X5_putLetter : GoodIn wsX3_takeRow (wsV RX3 62 RX5 yX5_putLetter wsX5_putLetter) := goodIn_app (goodIn_of _ (by decide +kernel)) ggX3_takeRow_X5_putLetter
theorem dX3_takeRow_0 : decode cX3_takeRow 0 = .ok (.aload_n 0, 1) := by decide +kernel
theorem dX3_takeRow_1 : decode cX3_takeRow 1 = .ok (.iload_n 1, 1) := by decide +kernel
theorem dX3_takeRow_2 : decode cX3_takeRow 2 = .ok (.invokevirtual 54, 3) := by decide +kernel
theorem dX3_takeRow_5 : decode cX3_takeRow 5 = .ok (.ifCond .eq 12, 3) := by decide +kernel
theorem dX3_takeRow_8 : decode cX3_takeRow 8 = .ok (.iload_n 2, 1) := by decide +kernel
theorem dX3_takeRow_9 : decode cX3_takeRow 9 = .ok (.iconst 0, 1) := by decide +kernel
theorem dX3_takeRow_10 : decode cX3_takeRow 10 = .ok (.iconst 4, 1) := by decide +kernel
theorem dX3_takeRow_11 : decode cX3_takeRow 11 = .ok (.invokestatic 21, 3) := by decide +kernel
theorem dX3_takeRow_14 : decode cX3_takeRow 14 = .ok (.ifCond .ne 5, 3) := by decide +kernel
theorem dX3_takeRow_17 : decode cX3_takeRow 17 = .ok (.iconst 0, 1) := by decide +kernel
theorem dX3_takeRow_18 : decode cX3_takeRow 18 = .ok (.ireturn, 1) := by decide +kernel
theorem dX3_takeRow_19 : decode cX3_takeRow 19 = .ok (.iconst 0, 1) := by decide +kernel
theorem dX3_takeRow_20 : decode cX3_takeRow 20 = .ok (.istore 4, 2) := by decide +kernel
theorem dX3_takeRow_22 : decode cX3_takeRow 22 = .ok (.iload 4, 2) := by decide +kernel
theorem dX3_takeRow_24 : decode cX3_takeRow 24 = .ok (.bipush 8, 2) := by decide +kernel
theorem dX3_takeRow_26 : decode cX3_takeRow 26 = .ok (.if_icmp .ge 23, 3) := by decide +kernel
theorem dX3_takeRow_29 : decode cX3_takeRow 29 = .ok (.aload_n 0, 1) := by decide +kernel
theorem dX3_takeRow_30 : decode cX3_takeRow 30 = .ok (.iload_n 1, 1) := by decide +kernel
theorem dX3_takeRow_31 : decode cX3_takeRow 31 = .ok (.iload_n 2, 1) := by decide +kernel
theorem dX3_takeRow_32 : decode cX3_takeRow 32 = .ok (.iload 4, 2) := by decide +kernel
theorem dX3_takeRow_34 : decode cX3_takeRow 34 = .ok (.aload_n 3, 1) := by decide +kernel
theorem dX3_takeRow_35 : decode cX3_takeRow 35 = .ok (.iconst 2, 1) := by decide +kernel
theorem dX3_takeRow_36 : decode cX3_takeRow 36 = .ok (.iload 4, 2) := by decide +kernel
theorem dX3_takeRow_38 : decode cX3_takeRow 38 = .ok (.iadd, 1) := by decide +kernel
theorem dX3_takeRow_39 : decode cX3_takeRow 39 = .ok (.iaload, 1) := by decide +kernel
theorem dX3_takeRow_40 : decode cX3_takeRow 40 = .ok (.invokevirtual 62, 3) := by decide +kernel
theorem dX3_takeRow_43 : decode cX3_takeRow 43 = .ok (.iinc 4 1, 3) := by decide +kernel
theorem dX3_takeRow_46 : decode cX3_takeRow 46 = .ok (.goto (-24), 3) := by decide +kernel
theorem dX3_takeRow_49 : decode cX3_takeRow 49 = .ok (.iconst 1, 1) := by decide +kernel
theorem dX3_takeRow_50 : decode cX3_takeRow 50 = .ok (.ireturn, 1) := by decide +kernel
set_option maxRecDepth 20000 in
theorem ggX3_numberAt_X1_decode : GoodIn wsX3_numberAt wsX1_decode := goodIn_r _ [4, 5, 6, 7, 8, 9, 10, 11, 12] (by decide +kernel) (by decide +kernel)
set_option maxRecDepth 20000 in
theorem gX3_numberAt_X1_decode : GoodIn wsX3_numberAt (va_wsS RX3 15 yX1_decode wsX1_decode) := goodIn_app (goodIn_of _ (by decide +kernel)) ggX3_numberAt_X1_decode
set_option maxRecDepth 20000 in
theorem ggX3_numberAt_X7_isWithin : GoodIn wsX3_numberAt wsX7_isWithin := goodIn_r _ [15] (by decide +kernel) (by decide +kernel)
set_option maxRecDepth 20000 in
theorem gX3_numberAt_X7_isWithin_n21 : GoodIn wsX3_numberAt (wsX7_isWithin) := ggX3_numberAt_X7_isWithin
theorem dX3_numberAt_0 : decode cX3_numberAt 0 = .ok (.aload_n 0, 1) := by decide +kernel
theorem dX3_numberAt_1 : decode cX3_numberAt 1 = .ok (.iload_n 1, 1) := by decide +kernel
theorem dX3_numberAt_2 : decode cX3_numberAt 2 = .ok (.iaload, 1) := by decide +kernel
theorem dX3_numberAt_3 : decode cX3_numberAt 3 = .ok (.invokestatic 15, 3) := by decide +kernel
theorem dX3_numberAt_6 : decode cX3_numberAt 6 = .ok (.istore_n 2, 1) := by decide +kernel
theorem dX3_numberAt_7 : decode cX3_numberAt 7 = .ok (.aload_n 0, 1) := by decide +kernel
theorem dX3_numberAt_8 : decode cX3_numberAt 8 = .ok (.iload_n 1, 1) := by decide +kernel
theorem dX3_numberAt_9 : decode cX3_numberAt 9 = .ok (.iconst 1, 1) := by decide +kernel
theorem dX3_numberAt_10 : decode cX3_numberAt 10 = .ok (.iadd, 1) := by decide +kernel
theorem dX3_numberAt_11 : decode cX3_numberAt 11 = .ok (.iaload, 1) := by decide +kernel
theorem dX3_numberAt_12 : decode cX3_numberAt 12 = .ok (.invokestatic 15, 3) := by decide +kernel
theorem dX3_numberAt_15 : decode cX3_numberAt 15 = .ok (.istore_n 3, 1) := by decide +kernel
theorem dX3_numberAt_16 : decode cX3_numberAt 16 = .ok (.iload_n 2, 1) := by decide +kernel
theorem dX3_numberAt_17 : decode cX3_numberAt 17 = .ok (.iconst 0, 1) := by decide +kernel
theorem dX3_numberAt_18 : decode cX3_numberAt 18 = .ok (.bipush 9, 2) := by decide +kernel
theorem dX3_numberAt_20 : decode cX3_numberAt 20 = .ok (.invokestatic 21, 3) := by decide +kernel
theorem dX3_numberAt_23 : decode cX3_numberAt 23 = .ok (.ifCond .eq 17, 3) := by decide +kernel
theorem dX3_numberAt_26 : decode cX3_numberAt 26 = .ok (.iload_n 3, 1) := by decide +kernel
theorem dX3_numberAt_27 : decode cX3_numberAt 27 = .ok (.iconst 0, 1) := by decide +kernel
theorem dX3_numberAt_28 : decode cX3_numberAt 28 = .ok (.bipush 9, 2) := by decide +kernel
theorem dX3_numberAt_30 : decode cX3_numberAt 30 = .ok (.invokestatic 21, 3) := by decide +kernel
theorem dX3_numberAt_33 : decode cX3_numberAt 33 = .ok (.ifCond .eq 7, 3) := by decide +kernel
theorem dX3_numberAt_36 : decode cX3_numberAt 36 = .ok (.iconst 1, 1) := by decide +kernel
theorem dX3_numberAt_37 : decode cX3_numberAt 37 = .ok (.goto 4, 3) := by decide +kernel
theorem dX3_numberAt_40 : decode cX3_numberAt 40 = .ok (.iconst 0, 1) := by decide +kernel
theorem dX3_numberAt_41 : decode cX3_numberAt 41 = .ok (.istore 4, 2) := by decide +kernel
theorem dX3_numberAt_43 : decode cX3_numberAt 43 = .ok (.iload 4, 2) := by decide +kernel
theorem dX3_numberAt_45 : decode cX3_numberAt 45 = .ok (.ifCond .eq 12, 3) := by decide +kernel
theorem dX3_numberAt_48 : decode cX3_numberAt 48 = .ok (.bipush 10, 2) := by decide +kernel
theorem dX3_numberAt_50 : decode cX3_numberAt 50 = .ok (.iload_n 3, 1) := by decide +kernel
theorem dX3_numberAt_51 : decode cX3_numberAt 51 = .ok (.imul, 1) := by decide +kernel
theorem dX3_numberAt_52 : decode cX3_numberAt 52 = .ok (.iload_n 2, 1) := by decide +kernel
theorem dX3_numberAt_53 : decode cX3_numberAt 53 = .ok (.iadd, 1) := by decide +kernel
theorem dX3_numberAt_54 : decode cX3_numberAt 54 = .ok (.goto 4, 3) := by decide +kernel
theorem dX3_numberAt_57 : decode cX3_numberAt 57 = .ok (.iconst (-1), 1) := by decide +kernel
theorem dX3_numberAt_58 : decode cX3_numberAt 58 = .ok (.ireturn, 1) := by decide +kernel
theorem dX4_init_0 : decode cX4_init 0 = .ok (.aload_n 0, 1) := by decide +kernel
theorem dX4_init_1 : decode cX4_init 1 = .ok (.invokespecial 3, 3) := by decide +kernel
theorem dX4_init_4 : decode cX4_init 4 = .ok (.aload_n 0, 1) := by decide +kernel
theorem dX4_init_5 : decode cX4_init 5 = .ok (.bipush 10, 2) := by decide +kernel
theorem dX4_init_7 : decode cX4_init 7 = .ok (.newarray .int, 2) := by decide +kernel
theorem dX4_init_9 : decode cX4_init 9 = .ok (.putfield 9, 3) := by decide +kernel
theorem dX4_init_12 : decode cX4_init 12 = .ok (.aload_n 0, 1) := by decide +kernel
theorem dX4_init_13 : decode cX4_init 13 = .ok (.bipush 10, 2) := by decide +kernel
theorem dX4_init_15 : decode cX4_init 15 = .ok (.newarray .int, 2) := by decide +kernel
theorem dX4_init_17 : decode cX4_init 17 = .ok (.putfield 15, 3) := by decide +kernel
theorem dX4_init_20 : decode cX4_init 20 = .ok (.aload_n 0, 1) := by decide +kernel
theorem dX4_init_21 : decode cX4_init 21 = .ok (.bipush 10, 2) := by decide +kernel
theorem dX4_init_23 : decode cX4_init 23 = .ok (.newarray .int, 2) := by decide +kernel
theorem dX4_init_25 : decode cX4_init 25 = .ok (.putfield 18, 3) := by decide +kernel
theorem dX4_init_28 : decode cX4_init 28 = .ok (.aload_n 0, 1) := by decide +kernel
theorem dX4_init_29 : decode cX4_init 29 = .ok (.bipush 10, 2) := by decide +kernel
theorem dX4_init_31 : decode cX4_init 31 = .ok (.newarray .int, 2) := by decide +kernel
theorem dX4_init_33 : decode cX4_init 33 = .ok (.putfield 21, 3) := by decide +kernel
theorem dX4_init_36 : decode cX4_init 36 = .ok (.aload_n 0, 1) := by decide +kernel
theorem dX4_init_37 : decode cX4_init 37 = .ok (.bipush 10, 2) := by decide +kernel
theorem dX4_init_39 : decode cX4_init 39 = .ok (.newarray .int, 2) := by decide +kernel
theorem dX4_init_41 : decode cX4_init 41 = .ok (.putfield 24, 3) := by decide +kernel
theorem dX4_init_44 : decode cX4_init 44 = .ok (.return_, 1) := by decide +kernel
set_option maxRecDepth 20000 in
theorem ggX4_prepare_X0_length : GoodIn wsX4_prepare wsX0_length := goodIn_r _ [8, 9, 10, 7, 11, 12, 13, 14, 15, 16, 17, 18, 19, 20, 21, 22, 23, 24, 25, 26, 27, 28, 29, 30, 31, 32, 33, 34, 35, 36, 37, 38, 40, 41, 42, 43, 44, 45, 46, 47] (by decide +kernel) (by decide +kernel)
set_option maxRecDepth 20000 in
theorem gX4_prepare_X0_length : GoodIn wsX4_prepare (va_wsS RX4 34 yX0_length wsX0_length) := goodIn_app (goodIn_of _ (by decide +kernel)) ggX4_prepare_X0_length
set_option maxRecDepth 20000 in
theorem ggX4_prepare_X5_get : GoodIn wsX4_prepare wsX5_get := goodIn_r _ [23, 24, 40, 41, 42, 43, 44, 45, 46, 47] (by decide +kernel) (by decide +kernel)
set_option maxRecDepth 20000 in
theorem gX4_prepare_X5_get : GoodIn wsX4_prepare (wsV RX4 40 RX5 yX5_get wsX5_get) := goodIn_app (goodIn_of _ (by decide +kernel)) ggX4_prepare_X5_get
theorem dX4_prepare_0 : decode cX4_prepare 0 = .ok (.aload_n 0, 1) := by decide +kernel
theorem dX4_prepare_1 : decode cX4_prepare 1 = .ok (.aload_n 1, 1) := by decide +kernel
theorem dX4_prepare_2 : decode cX4_prepare 2 = .ok (.getfield 27, 3) := by decide +kernel
theorem dX4_prepare_5 : decode cX4_prepare 5 = .ok (.putfield 33, 3) := by decide +kernel
theorem dX4_prepare_8 : decode cX4_prepare 8 = .ok (.iconst 0, 1) := by decide +kernel
theorem dX4_prepare_9 : decode cX4_prepare 9 = .ok (.istore_n 2, 1) := by decide +kernel
theorem dX4_prepare_10 : decode cX4_prepare 10 = .ok (.iload_n 2, 1) := by decide +kernel
theorem dX4_prepare_11 : decode cX4_prepare 11 = .ok (.aload_n 0, 1) := by decide +kernel
theorem dX4_prepare_12 : decode cX4_prepare 12 = .ok (.getfield 33, 3) := by decide +kernel
theorem dX4_prepare_15 : decode cX4_prepare 15 = .ok (.if_icmp .ge 32, 3) := by decide +kernel
theorem dX4_prepare_18 : decode cX4_prepare 18 = .ok (.aload_n 0, 1) := by decide +kernel
theorem dX4_prepare_19 : decode cX4_prepare 19 = .ok (.getfield 9, 3) := by decide +kernel
theorem dX4_prepare_22 : decode cX4_prepare 22 = .ok (.iload_n 2, 1) := by decide +kernel
theorem dX4_prepare_23 : decode cX4_prepare 23 = .ok (.aload_n 1, 1) := by decide +kernel
theorem dX4_prepare_24 : decode cX4_prepare 24 = .ok (.iload_n 2, 1) := by decide +kernel
theorem dX4_prepare_25 : decode cX4_prepare 25 = .ok (.invokestatic 34, 3) := by decide +kernel
theorem dX4_prepare_28 : decode cX4_prepare 28 = .ok (.iastore, 1) := by decide +kernel
theorem dX4_prepare_29 : decode cX4_prepare 29 = .ok (.aload_n 0, 1) := by decide +kernel
theorem dX4_prepare_30 : decode cX4_prepare 30 = .ok (.getfield 15, 3) := by decide +kernel
theorem dX4_prepare_33 : decode cX4_prepare 33 = .ok (.iload_n 2, 1) := by decide +kernel
theorem dX4_prepare_34 : decode cX4_prepare 34 = .ok (.aload_n 1, 1) := by decide +kernel
theorem dX4_prepare_35 : decode cX4_prepare 35 = .ok (.iload_n 2, 1) := by decide +kernel
theorem dX4_prepare_36 : decode cX4_prepare 36 = .ok (.iconst 4, 1) := by decide +kernel
theorem dX4_prepare_37 : decode cX4_prepare 37 = .ok (.invokevirtual 40, 3) := by decide +kernel
theorem dX4_prepare_40 : decode cX4_prepare 40 = .ok (.iastore, 1) := by decide +kernel
theorem dX4_prepare_41 : decode cX4_prepare 41 = .ok (.iinc 2 1, 3) := by decide +kernel
theorem dX4_prepare_44 : decode cX4_prepare 44 = .ok (.goto (-34), 3) := by decide +kernel
theorem dX4_prepare_47 : decode cX4_prepare 47 = .ok (.return_, 1) := by decide +kernel
set_option maxRecDepth 20000 in
theorem ggX4_run_J7_fill_53178 : GoodIn wsX4_run wsJ7_fill_53178 := goodIn_r _ [10] (by decide +kernel) (by decide +kernel)
set_option maxRecDepth 20000 in
theorem gX4_run_J7_fill_53178 : GoodIn wsX4_run (va_wsS RX4 44 yJ7_fill_53178 wsJ7_fill_53178) := goodIn_app (goodIn_of _ (by decide +kernel)) ggX4_run_J7_fill_53178
set_option maxRecDepth 20000 in
theorem ggX4_run_X4_foremost : GoodIn wsX4_run wsX4_foremost := goodIn_r _ [15, 5, 16, 17, 18, 14, 19, 20, 21, 22, 23, 24, 4, 2, 25, 26, 27, 28, 1, 6, 37, 38, 39, 40, 41, 42, 43] (by decide +kernel) (by decide +kernel)
set_option maxRecDepth 20000 in
theorem gX4_run_X4_foremost : GoodIn wsX4_run (wsV RX4 53 RX4 yX4_foremost wsX4_foremost) := goodIn_app (goodIn_of _ (by decide +kernel)) ggX4_run_X4_foremost
set_option maxRecDepth 20000 in
theorem ggX4_run_X4_waitEnds : GoodIn wsX4_run wsX4_waitEnds := goodIn_r _ [32, 3, 4, 2, 33, 34, 35, 36, 37, 38, 39, 40, 41, 42, 43] (by decide +kernel) (by decide +kernel)
set_option maxRecDepth 20000 in
theorem gX4_run_X4_waitEnds : GoodIn wsX4_run (wsV RX4 57 RX4 yX4_waitEnds wsX4_waitEnds) := goodIn_app (goodIn_of _ (by decide +kernel)) ggX4_run_X4_waitEnds
theorem dX4_run_0 : decode cX4_run 0 = .ok (.aload_n 0, 1) := by decide +kernel
theorem dX4_run_1 : decode cX4_run 1 = .ok (.getfield 18, 3) := by decide +kernel
theorem dX4_run_4 : decode cX4_run 4 = .ok (.iconst 0, 1) := by decide +kernel
theorem dX4_run_5 : decode cX4_run 5 = .ok (.invokestatic 44, 3) := by decide +kernel
theorem dX4_run_8 : decode cX4_run 8 = .ok (.aload_n 0, 1) := by decide +kernel
theorem dX4_run_9 : decode cX4_run 9 = .ok (.getfield 21, 3) := by decide +kernel
theorem dX4_run_12 : decode cX4_run 12 = .ok (.iconst 0, 1) := by decide +kernel
theorem dX4_run_13 : decode cX4_run 13 = .ok (.invokestatic 44, 3) := by decide +kernel
theorem dX4_run_16 : decode cX4_run 16 = .ok (.aload_n 0, 1) := by decide +kernel
theorem dX4_run_17 : decode cX4_run 17 = .ok (.getfield 24, 3) := by decide +kernel
theorem dX4_run_20 : decode cX4_run 20 = .ok (.iconst 0, 1) := by decide +kernel
theorem dX4_run_21 : decode cX4_run 21 = .ok (.invokestatic 44, 3) := by decide +kernel
theorem dX4_run_24 : decode cX4_run 24 = .ok (.aload_n 0, 1) := by decide +kernel
theorem dX4_run_25 : decode cX4_run 25 = .ok (.iconst 0, 1) := by decide +kernel
theorem dX4_run_26 : decode cX4_run 26 = .ok (.putfield 50, 3) := by decide +kernel
theorem dX4_run_29 : decode cX4_run 29 = .ok (.iconst (-1), 1) := by decide +kernel
theorem dX4_run_30 : decode cX4_run 30 = .ok (.istore_n 3, 1) := by decide +kernel
theorem dX4_run_31 : decode cX4_run 31 = .ok (.iconst 0, 1) := by decide +kernel
theorem dX4_run_32 : decode cX4_run 32 = .ok (.istore 4, 2) := by decide +kernel
theorem dX4_run_34 : decode cX4_run 34 = .ok (.iload 4, 2) := by decide +kernel
theorem dX4_run_36 : decode cX4_run 36 = .ok (.iload_n 2, 1) := by decide +kernel
theorem dX4_run_37 : decode cX4_run 37 = .ok (.if_icmp .ge 76, 3) := by decide +kernel
theorem dX4_run_40 : decode cX4_run 40 = .ok (.aload_n 0, 1) := by decide +kernel
theorem dX4_run_41 : decode cX4_run 41 = .ok (.getfield 33, 3) := by decide +kernel
theorem dX4_run_44 : decode cX4_run 44 = .ok (.ifCond .le 69, 3) := by decide +kernel
theorem dX4_run_47 : decode cX4_run 47 = .ok (.iload_n 1, 1) := by decide +kernel
theorem dX4_run_48 : decode cX4_run 48 = .ok (.ifCond .ne 13, 3) := by decide +kernel
theorem dX4_run_51 : decode cX4_run 51 = .ok (.iload 4, 2) := by decide +kernel
theorem dX4_run_53 : decode cX4_run 53 = .ok (.aload_n 0, 1) := by decide +kernel
theorem dX4_run_54 : decode cX4_run 54 = .ok (.getfield 33, 3) := by decide +kernel
theorem dX4_run_57 : decode cX4_run 57 = .ok (.irem, 1) := by decide +kernel
theorem dX4_run_58 : decode cX4_run 58 = .ok (.goto 8, 3) := by decide +kernel
theorem dX4_run_61 : decode cX4_run 61 = .ok (.aload_n 0, 1) := by decide +kernel
theorem dX4_run_62 : decode cX4_run 62 = .ok (.iload_n 1, 1) := by decide +kernel
theorem dX4_run_63 : decode cX4_run 63 = .ok (.invokevirtual 53, 3) := by decide +kernel
theorem dX4_run_66 : decode cX4_run 66 = .ok (.istore_n 3, 1) := by decide +kernel
theorem dX4_run_67 : decode cX4_run 67 = .ok (.aload_n 0, 1) := by decide +kernel
theorem dX4_run_68 : decode cX4_run 68 = .ok (.dup, 1) := by decide +kernel
theorem dX4_run_69 : decode cX4_run 69 = .ok (.getfield 50, 3) := by decide +kernel
theorem dX4_run_72 : decode cX4_run 72 = .ok (.aload_n 0, 1) := by decide +kernel
theorem dX4_run_73 : decode cX4_run 73 = .ok (.getfield 9, 3) := by decide +kernel
theorem dX4_run_76 : decode cX4_run 76 = .ok (.iload_n 3, 1) := by decide +kernel
theorem dX4_run_77 : decode cX4_run 77 = .ok (.iaload, 1) := by decide +kernel
theorem dX4_run_78 : decode cX4_run 78 = .ok (.iadd, 1) := by decide +kernel
theorem dX4_run_79 : decode cX4_run 79 = .ok (.putfield 50, 3) := by decide +kernel
theorem dX4_run_82 : decode cX4_run 82 = .ok (.aload_n 0, 1) := by decide +kernel
theorem dX4_run_83 : decode cX4_run 83 = .ok (.iload_n 3, 1) := by decide +kernel
theorem dX4_run_84 : decode cX4_run 84 = .ok (.invokevirtual 57, 3) := by decide +kernel
theorem dX4_run_87 : decode cX4_run 87 = .ok (.aload_n 0, 1) := by decide +kernel
theorem dX4_run_88 : decode cX4_run 88 = .ok (.getfield 21, 3) := by decide +kernel
theorem dX4_run_91 : decode cX4_run 91 = .ok (.iload_n 3, 1) := by decide +kernel
theorem dX4_run_92 : decode cX4_run 92 = .ok (.aload_n 0, 1) := by decide +kernel
theorem dX4_run_93 : decode cX4_run 93 = .ok (.getfield 50, 3) := by decide +kernel
theorem dX4_run_96 : decode cX4_run 96 = .ok (.iastore, 1) := by decide +kernel
theorem dX4_run_97 : decode cX4_run 97 = .ok (.aload_n 0, 1) := by decide +kernel
theorem dX4_run_98 : decode cX4_run 98 = .ok (.getfield 18, 3) := by decide +kernel
theorem dX4_run_101 : decode cX4_run 101 = .ok (.iload_n 3, 1) := by decide +kernel
theorem dX4_run_102 : decode cX4_run 102 = .ok (.dup2, 1) := by decide +kernel
theorem dX4_run_103 : decode cX4_run 103 = .ok (.iaload, 1) := by decide +kernel
theorem dX4_run_104 : decode cX4_run 104 = .ok (.iconst 1, 1) := by decide +kernel
theorem dX4_run_105 : decode cX4_run 105 = .ok (.iadd, 1) := by decide +kernel
theorem dX4_run_106 : decode cX4_run 106 = .ok (.iastore, 1) := by decide +kernel
theorem dX4_run_107 : decode cX4_run 107 = .ok (.iinc 4 1, 3) := by decide +kernel
theorem dX4_run_110 : decode cX4_run 110 = .ok (.goto (-76), 3) := by decide +kernel
theorem dX4_run_113 : decode cX4_run 113 = .ok (.iconst 0, 1) := by decide +kernel
theorem dX4_run_114 : decode cX4_run 114 = .ok (.istore 4, 2) := by decide +kernel
theorem dX4_run_116 : decode cX4_run 116 = .ok (.iload 4, 2) := by decide +kernel
theorem dX4_run_118 : decode cX4_run 118 = .ok (.aload_n 0, 1) := by decide +kernel
theorem dX4_run_119 : decode cX4_run 119 = .ok (.getfield 33, 3) := by decide +kernel
theorem dX4_run_122 : decode cX4_run 122 = .ok (.if_icmp .ge 15, 3) := by decide +kernel
theorem dX4_run_125 : decode cX4_run 125 = .ok (.aload_n 0, 1) := by decide +kernel
theorem dX4_run_126 : decode cX4_run 126 = .ok (.iload 4, 2) := by decide +kernel
theorem dX4_run_128 : decode cX4_run 128 = .ok (.invokevirtual 57, 3) := by decide +kernel
theorem dX4_run_131 : decode cX4_run 131 = .ok (.iinc 4 1, 3) := by decide +kernel
theorem dX4_run_134 : decode cX4_run 134 = .ok (.goto (-18), 3) := by decide +kernel
theorem dX4_run_137 : decode cX4_run 137 = .ok (.iload_n 3, 1) := by decide +kernel
theorem dX4_run_138 : decode cX4_run 138 = .ok (.ireturn, 1) := by decide +kernel
set_option maxRecDepth 20000 in
theorem ggX4_best_X4_worstWait : GoodIn wsX4_best wsX4_worstWait := goodIn_r _ [6, 1, 7, 8, 9, 10, 11, 12, 13, 14, 15, 5, 16, 17, 18, 19, 20, 21, 22, 23, 24, 25, 26, 27, 28, 29, 30, 31, 32, 33, 34, 35, 36, 37, 38, 39, 40, 41, 42, 43, 44, 45, 46, 47, 48, 49, 50, 51] (by decide +kernel) (by decide +kernel)
set_option maxRecDepth 20000 in
theorem gX4_best_X4_worstWait : GoodIn wsX4_best (wsV RX4 61 RX4 yX4_worstWait wsX4_worstWait) := goodIn_app (goodIn_of _ (by decide +kernel)) ggX4_best_X4_worstWait
theorem dX4_best_0 : decode cX4_best 0 = .ok (.iconst (-1), 1) := by decide +kernel
theorem dX4_best_1 : decode cX4_best 1 = .ok (.istore_n 2, 1) := by decide +kernel
theorem dX4_best_2 : decode cX4_best 2 = .ok (.iconst 0, 1) := by decide +kernel
theorem dX4_best_3 : decode cX4_best 3 = .ok (.istore_n 3, 1) := by decide +kernel
theorem dX4_best_4 : decode cX4_best 4 = .ok (.iconst 0, 1) := by decide +kernel
theorem dX4_best_5 : decode cX4_best 5 = .ok (.istore 4, 2) := by decide +kernel
theorem dX4_best_7 : decode cX4_best 7 = .ok (.iload 4, 2) := by decide +kernel
theorem dX4_best_9 : decode cX4_best 9 = .ok (.iconst 4, 1) := by decide +kernel
theorem dX4_best_10 : decode cX4_best 10 = .ok (.if_icmp .ge 42, 3) := by decide +kernel
theorem dX4_best_13 : decode cX4_best 13 = .ok (.aload_n 0, 1) := by decide +kernel
theorem dX4_best_14 : decode cX4_best 14 = .ok (.getfield 33, 3) := by decide +kernel
theorem dX4_best_17 : decode cX4_best 17 = .ok (.ifCond .le 35, 3) := by decide +kernel
theorem dX4_best_20 : decode cX4_best 20 = .ok (.aload_n 0, 1) := by decide +kernel
theorem dX4_best_21 : decode cX4_best 21 = .ok (.iload 4, 2) := by decide +kernel
theorem dX4_best_23 : decode cX4_best 23 = .ok (.iload_n 1, 1) := by decide +kernel
theorem dX4_best_24 : decode cX4_best 24 = .ok (.invokevirtual 61, 3) := by decide +kernel
theorem dX4_best_27 : decode cX4_best 27 = .ok (.istore 5, 2) := by decide +kernel
theorem dX4_best_29 : decode cX4_best 29 = .ok (.iload_n 2, 1) := by decide +kernel
theorem dX4_best_30 : decode cX4_best 30 = .ok (.iconst (-1), 1) := by decide +kernel
theorem dX4_best_31 : decode cX4_best 31 = .ok (.if_icmp .eq 9, 3) := by decide +kernel
theorem dX4_best_34 : decode cX4_best 34 = .ok (.iload 5, 2) := by decide +kernel
theorem dX4_best_36 : decode cX4_best 36 = .ok (.iload_n 3, 1) := by decide +kernel
theorem dX4_best_37 : decode cX4_best 37 = .ok (.if_icmp .ge 9, 3) := by decide +kernel
theorem dX4_best_40 : decode cX4_best 40 = .ok (.iload 4, 2) := by decide +kernel
theorem dX4_best_42 : decode cX4_best 42 = .ok (.istore_n 2, 1) := by decide +kernel
theorem dX4_best_43 : decode cX4_best 43 = .ok (.iload 5, 2) := by decide +kernel
theorem dX4_best_45 : decode cX4_best 45 = .ok (.istore_n 3, 1) := by decide +kernel
theorem dX4_best_46 : decode cX4_best 46 = .ok (.iinc 4 1, 3) := by decide +kernel
theorem dX4_best_49 : decode cX4_best 49 = .ok (.goto (-42), 3) := by decide +kernel
theorem dX4_best_52 : decode cX4_best 52 = .ok (.iload_n 2, 1) := by decide +kernel
theorem dX4_best_53 : decode cX4_best 53 = .ok (.ireturn, 1) := by decide +kernel
set_option maxRecDepth 20000 in
theorem ggX4_worstWait_X4_run : GoodIn wsX4_worstWait wsX4_run := goodIn_r _ [12, 13, 14, 3, 15, 1, 16, 17, 18, 19, 20, 21, 22, 23, 11, 24, 25, 26, 27, 28, 2, 29, 30, 31, 32, 33, 34, 35, 36, 37, 38, 39, 40, 4, 5, 6, 7, 41, 42, 43, 44, 45, 46, 47] (by decide +kernel) (by decide +kernel)
set_option maxRecDepth 20000 in
theorem gX4_worstWait_X4_run : GoodIn wsX4_worstWait (wsV RX4 64 RX4 yX4_run wsX4_run) := goodIn_app (goodIn_of _ (by decide +kernel)) ggX4_worstWait_X4_run
theorem dX4_worstWait_0 : decode cX4_worstWait 0 = .ok (.aload_n 0, 1) := by decide +kernel
theorem dX4_worstWait_1 : decode cX4_worstWait 1 = .ok (.iload_n 1, 1) := by decide +kernel
theorem dX4_worstWait_2 : decode cX4_worstWait 2 = .ok (.iload_n 2, 1) := by decide +kernel
theorem dX4_worstWait_3 : decode cX4_worstWait 3 = .ok (.invokevirtual 64, 3) := by decide +kernel
theorem dX4_worstWait_6 : decode cX4_worstWait 6 = .ok (.pop, 1) := by decide +kernel
theorem dX4_worstWait_7 : decode cX4_worstWait 7 = .ok (.iconst 0, 1) := by decide +kernel
theorem dX4_worstWait_8 : decode cX4_worstWait 8 = .ok (.istore_n 3, 1) := by decide +kernel
theorem dX4_worstWait_9 : decode cX4_worstWait 9 = .ok (.iconst 0, 1) := by decide +kernel
theorem dX4_worstWait_10 : decode cX4_worstWait 10 = .ok (.istore 4, 2) := by decide +kernel
theorem dX4_worstWait_12 : decode cX4_worstWait 12 = .ok (.iload 4, 2) := by decide +kernel
theorem dX4_worstWait_14 : decode cX4_worstWait 14 = .ok (.aload_n 0, 1) := by decide +kernel
theorem dX4_worstWait_15 : decode cX4_worstWait 15 = .ok (.getfield 33, 3) := by decide +kernel
theorem dX4_worstWait_18 : decode cX4_worstWait 18 = .ok (.if_icmp .ge 29, 3) := by decide +kernel
theorem dX4_worstWait_21 : decode cX4_worstWait 21 = .ok (.iload_n 3, 1) := by decide +kernel
theorem dX4_worstWait_22 : decode cX4_worstWait 22 = .ok (.aload_n 0, 1) := by decide +kernel
theorem dX4_worstWait_23 : decode cX4_worstWait 23 = .ok (.getfield 15, 3) := by decide +kernel
theorem dX4_worstWait_26 : decode cX4_worstWait 26 = .ok (.iload 4, 2) := by decide +kernel
theorem dX4_worstWait_28 : decode cX4_worstWait 28 = .ok (.iaload, 1) := by decide +kernel
theorem dX4_worstWait_29 : decode cX4_worstWait 29 = .ok (.aload_n 0, 1) := by decide +kernel
theorem dX4_worstWait_30 : decode cX4_worstWait 30 = .ok (.getfield 24, 3) := by decide +kernel
theorem dX4_worstWait_33 : decode cX4_worstWait 33 = .ok (.iload 4, 2) := by decide +kernel
theorem dX4_worstWait_35 : decode cX4_worstWait 35 = .ok (.iaload, 1) := by decide +kernel
theorem dX4_worstWait_36 : decode cX4_worstWait 36 = .ok (.imul, 1) := by decide +kernel
theorem dX4_worstWait_37 : decode cX4_worstWait 37 = .ok (.invokestatic 67, 3) := by decide +kernel
theorem dX4_worstWait_40 : decode cX4_worstWait 40 = .ok (.istore_n 3, 1) := by decide +kernel
theorem dX4_worstWait_41 : decode cX4_worstWait 41 = .ok (.iinc 4 1, 3) := by decide +kernel
theorem dX4_worstWait_44 : decode cX4_worstWait 44 = .ok (.goto (-32), 3) := by decide +kernel
theorem dX4_worstWait_47 : decode cX4_worstWait 47 = .ok (.iload_n 3, 1) := by decide +kernel
theorem dX4_worstWait_48 : decode cX4_worstWait 48 = .ok (.ireturn, 1) := by decide +kernel
theorem dX4_waitEnds_0 : decode cX4_waitEnds 0 = .ok (.aload_n 0, 1) := by decide +kernel
theorem dX4_waitEnds_1 : decode cX4_waitEnds 1 = .ok (.getfield 24, 3) := by decide +kernel
theorem dX4_waitEnds_4 : decode cX4_waitEnds 4 = .ok (.iload_n 1, 1) := by decide +kernel
theorem dX4_waitEnds_5 : decode cX4_waitEnds 5 = .ok (.aload_n 0, 1) := by decide +kernel
theorem dX4_waitEnds_6 : decode cX4_waitEnds 6 = .ok (.getfield 24, 3) := by decide +kernel
theorem dX4_waitEnds_9 : decode cX4_waitEnds 9 = .ok (.iload_n 1, 1) := by decide +kernel
theorem dX4_waitEnds_10 : decode cX4_waitEnds 10 = .ok (.iaload, 1) := by decide +kernel
theorem dX4_waitEnds_11 : decode cX4_waitEnds 11 = .ok (.aload_n 0, 1) := by decide +kernel
theorem dX4_waitEnds_12 : decode cX4_waitEnds 12 = .ok (.getfield 50, 3) := by decide +kernel
theorem dX4_waitEnds_15 : decode cX4_waitEnds 15 = .ok (.aload_n 0, 1) := by decide +kernel
theorem dX4_waitEnds_16 : decode cX4_waitEnds 16 = .ok (.getfield 21, 3) := by decide +kernel
theorem dX4_waitEnds_19 : decode cX4_waitEnds 19 = .ok (.iload_n 1, 1) := by decide +kernel
theorem dX4_waitEnds_20 : decode cX4_waitEnds 20 = .ok (.iaload, 1) := by decide +kernel
theorem dX4_waitEnds_21 : decode cX4_waitEnds 21 = .ok (.isub, 1) := by decide +kernel
theorem dX4_waitEnds_22 : decode cX4_waitEnds 22 = .ok (.invokestatic 67, 3) := by decide +kernel
theorem dX4_waitEnds_25 : decode cX4_waitEnds 25 = .ok (.iastore, 1) := by decide +kernel
theorem dX4_waitEnds_26 : decode cX4_waitEnds 26 = .ok (.return_, 1) := by decide +kernel
set_option maxRecDepth 20000 in
theorem ggX4_foremost_X4_goesAhead : GoodIn wsX4_foremost wsX4_goesAhead := goodIn_r _ [6, 7, 8, 9, 10, 5, 11, 12, 13, 14, 15, 16, 17, 18, 19, 20, 21, 22, 23, 24, 25, 26] (by decide +kernel) (by decide +kernel)
set_option maxRecDepth 20000 in
theorem gX4_foremost_X4_goesAhead : GoodIn wsX4_foremost (wsV RX4 72 RX4 yX4_goesAhead wsX4_goesAhead) := goodIn_app (goodIn_of _ (by decide +kernel)) ggX4_foremost_X4_goesAhead
theorem dX4_foremost_0 : decode cX4_foremost 0 = .ok (.iconst 0, 1) := by decide +kernel
theorem dX4_foremost_1 : decode cX4_foremost 1 = .ok (.istore_n 2, 1) := by decide +kernel
theorem dX4_foremost_2 : decode cX4_foremost 2 = .ok (.iconst 1, 1) := by decide +kernel
theorem dX4_foremost_3 : decode cX4_foremost 3 = .ok (.istore_n 3, 1) := by decide +kernel
theorem dX4_foremost_4 : decode cX4_foremost 4 = .ok (.iload_n 3, 1) := by decide +kernel
theorem dX4_foremost_5 : decode cX4_foremost 5 = .ok (.aload_n 0, 1) := by decide +kernel
theorem dX4_foremost_6 : decode cX4_foremost 6 = .ok (.getfield 33, 3) := by decide +kernel
theorem dX4_foremost_9 : decode cX4_foremost 9 = .ok (.if_icmp .ge 21, 3) := by decide +kernel
theorem dX4_foremost_12 : decode cX4_foremost 12 = .ok (.aload_n 0, 1) := by decide +kernel
theorem dX4_foremost_13 : decode cX4_foremost 13 = .ok (.iload_n 1, 1) := by decide +kernel
theorem dX4_foremost_14 : decode cX4_foremost 14 = .ok (.iload_n 3, 1) := by decide +kernel
theorem dX4_foremost_15 : decode cX4_foremost 15 = .ok (.iload_n 2, 1) := by decide +kernel
theorem dX4_foremost_16 : decode cX4_foremost 16 = .ok (.invokevirtual 72, 3) := by decide +kernel
theorem dX4_foremost_19 : decode cX4_foremost 19 = .ok (.ifCond .eq 5, 3) := by decide +kernel
theorem dX4_foremost_22 : decode cX4_foremost 22 = .ok (.iload_n 3, 1) := by decide +kernel
theorem dX4_foremost_23 : decode cX4_foremost 23 = .ok (.istore_n 2, 1) := by decide +kernel
theorem dX4_foremost_24 : decode cX4_foremost 24 = .ok (.iinc 3 1, 3) := by decide +kernel
theorem dX4_foremost_27 : decode cX4_foremost 27 = .ok (.goto (-23), 3) := by decide +kernel
theorem dX4_foremost_30 : decode cX4_foremost 30 = .ok (.iload_n 2, 1) := by decide +kernel
theorem dX4_foremost_31 : decode cX4_foremost 31 = .ok (.ireturn, 1) := by decide +kernel
set_option maxRecDepth 20000 in
theorem ggX4_goesAhead_X4_urgency : GoodIn wsX4_goesAhead wsX4_urgency := goodIn_r _ [6, 1, 7, 8, 15, 16, 17, 18, 19, 20, 21] (by decide +kernel) (by decide +kernel)
set_option maxRecDepth 20000 in
theorem gX4_goesAhead_X4_urgency : GoodIn wsX4_goesAhead (wsV RX4 76 RX4 yX4_urgency wsX4_urgency) := goodIn_app (goodIn_of _ (by decide +kernel)) ggX4_goesAhead_X4_urgency
set_option maxRecDepth 20000 in
theorem ggX4_goesAhead_X4_cost : GoodIn wsX4_goesAhead wsX4_cost := goodIn_r _ [12, 13, 14, 15, 16, 17, 18, 19, 20, 21] (by decide +kernel) (by decide +kernel)
set_option maxRecDepth 20000 in
theorem gX4_goesAhead_X4_cost : GoodIn wsX4_goesAhead (wsV RX4 79 RX4 yX4_cost wsX4_cost) := goodIn_app (goodIn_of _ (by decide +kernel)) ggX4_goesAhead_X4_cost
theorem dX4_goesAhead_0 : decode cX4_goesAhead 0 = .ok (.iload_n 1, 1) := by decide +kernel
theorem dX4_goesAhead_1 : decode cX4_goesAhead 1 = .ok (.lookupswitch 79 #[(1, 27), (2, 46)], 27) := by decide +kernel
theorem dX4_goesAhead_28 : decode cX4_goesAhead 28 = .ok (.aload_n 0, 1) := by decide +kernel
theorem dX4_goesAhead_29 : decode cX4_goesAhead 29 = .ok (.iload_n 2, 1) := by decide +kernel
theorem dX4_goesAhead_30 : decode cX4_goesAhead 30 = .ok (.invokevirtual 76, 3) := by decide +kernel
theorem dX4_goesAhead_33 : decode cX4_goesAhead 33 = .ok (.aload_n 0, 1) := by decide +kernel
theorem dX4_goesAhead_34 : decode cX4_goesAhead 34 = .ok (.iload_n 3, 1) := by decide +kernel
theorem dX4_goesAhead_35 : decode cX4_goesAhead 35 = .ok (.invokevirtual 76, 3) := by decide +kernel
theorem dX4_goesAhead_38 : decode cX4_goesAhead 38 = .ok (.if_icmp .le 7, 3) := by decide +kernel
theorem dX4_goesAhead_41 : decode cX4_goesAhead 41 = .ok (.iconst 1, 1) := by decide +kernel
theorem dX4_goesAhead_42 : decode cX4_goesAhead 42 = .ok (.goto 4, 3) := by decide +kernel
theorem dX4_goesAhead_45 : decode cX4_goesAhead 45 = .ok (.iconst 0, 1) := by decide +kernel
theorem dX4_goesAhead_46 : decode cX4_goesAhead 46 = .ok (.ireturn, 1) := by decide +kernel
theorem dX4_goesAhead_47 : decode cX4_goesAhead 47 = .ok (.aload_n 0, 1) := by decide +kernel
theorem dX4_goesAhead_48 : decode cX4_goesAhead 48 = .ok (.iload_n 2, 1) := by decide +kernel
theorem dX4_goesAhead_49 : decode cX4_goesAhead 49 = .ok (.invokevirtual 79, 3) := by decide +kernel
theorem dX4_goesAhead_52 : decode cX4_goesAhead 52 = .ok (.aload_n 0, 1) := by decide +kernel
theorem dX4_goesAhead_53 : decode cX4_goesAhead 53 = .ok (.getfield 15, 3) := by decide +kernel
theorem dX4_goesAhead_56 : decode cX4_goesAhead 56 = .ok (.iload_n 3, 1) := by decide +kernel
theorem dX4_goesAhead_57 : decode cX4_goesAhead 57 = .ok (.iaload, 1) := by decide +kernel
theorem dX4_goesAhead_58 : decode cX4_goesAhead 58 = .ok (.imul, 1) := by decide +kernel
theorem dX4_goesAhead_59 : decode cX4_goesAhead 59 = .ok (.aload_n 0, 1) := by decide +kernel
theorem dX4_goesAhead_60 : decode cX4_goesAhead 60 = .ok (.iload_n 3, 1) := by decide +kernel
theorem dX4_goesAhead_61 : decode cX4_goesAhead 61 = .ok (.invokevirtual 79, 3) := by decide +kernel
theorem dX4_goesAhead_64 : decode cX4_goesAhead 64 = .ok (.aload_n 0, 1) := by decide +kernel
theorem dX4_goesAhead_65 : decode cX4_goesAhead 65 = .ok (.getfield 15, 3) := by decide +kernel
theorem dX4_goesAhead_68 : decode cX4_goesAhead 68 = .ok (.iload_n 2, 1) := by decide +kernel
theorem dX4_goesAhead_69 : decode cX4_goesAhead 69 = .ok (.iaload, 1) := by decide +kernel
theorem dX4_goesAhead_70 : decode cX4_goesAhead 70 = .ok (.imul, 1) := by decide +kernel
theorem dX4_goesAhead_71 : decode cX4_goesAhead 71 = .ok (.if_icmp .ge 7, 3) := by decide +kernel
theorem dX4_goesAhead_74 : decode cX4_goesAhead 74 = .ok (.iconst 1, 1) := by decide +kernel
theorem dX4_goesAhead_75 : decode cX4_goesAhead 75 = .ok (.goto 4, 3) := by decide +kernel
theorem dX4_goesAhead_78 : decode cX4_goesAhead 78 = .ok (.iconst 0, 1) := by decide +kernel
theorem dX4_goesAhead_79 : decode cX4_goesAhead 79 = .ok (.ireturn, 1) := by decide +kernel
theorem dX4_goesAhead_80 : decode cX4_goesAhead 80 = .ok (.aload_n 0, 1) := by decide +kernel
theorem dX4_goesAhead_81 : decode cX4_goesAhead 81 = .ok (.iload_n 2, 1) := by decide +kernel
theorem dX4_goesAhead_82 : decode cX4_goesAhead 82 = .ok (.invokevirtual 79, 3) := by decide +kernel
theorem dX4_goesAhead_85 : decode cX4_goesAhead 85 = .ok (.aload_n 0, 1) := by decide +kernel
theorem dX4_goesAhead_86 : decode cX4_goesAhead 86 = .ok (.iload_n 3, 1) := by decide +kernel
theorem dX4_goesAhead_87 : decode cX4_goesAhead 87 = .ok (.invokevirtual 79, 3) := by decide +kernel
theorem dX4_goesAhead_90 : decode cX4_goesAhead 90 = .ok (.if_icmp .ge 7, 3) := by decide +kernel
theorem dX4_goesAhead_93 : decode cX4_goesAhead 93 = .ok (.iconst 1, 1) := by decide +kernel
theorem dX4_goesAhead_94 : decode cX4_goesAhead 94 = .ok (.goto 4, 3) := by decide +kernel
theorem dX4_goesAhead_97 : decode cX4_goesAhead 97 = .ok (.iconst 0, 1) := by decide +kernel
theorem dX4_goesAhead_98 : decode cX4_goesAhead 98 = .ok (.ireturn, 1) := by decide +kernel
theorem dX4_urgency_0 : decode cX4_urgency 0 = .ok (.aload_n 0, 1) := by decide +kernel
theorem dX4_urgency_1 : decode cX4_urgency 1 = .ok (.getfield 15, 3) := by decide +kernel
theorem dX4_urgency_4 : decode cX4_urgency 4 = .ok (.iload_n 1, 1) := by decide +kernel
theorem dX4_urgency_5 : decode cX4_urgency 5 = .ok (.iaload, 1) := by decide +kernel
theorem dX4_urgency_6 : decode cX4_urgency 6 = .ok (.aload_n 0, 1) := by decide +kernel
theorem dX4_urgency_7 : decode cX4_urgency 7 = .ok (.getfield 50, 3) := by decide +kernel
theorem dX4_urgency_10 : decode cX4_urgency 10 = .ok (.aload_n 0, 1) := by decide +kernel
theorem dX4_urgency_11 : decode cX4_urgency 11 = .ok (.getfield 21, 3) := by decide +kernel
theorem dX4_urgency_14 : decode cX4_urgency 14 = .ok (.iload_n 1, 1) := by decide +kernel
theorem dX4_urgency_15 : decode cX4_urgency 15 = .ok (.iaload, 1) := by decide +kernel
theorem dX4_urgency_16 : decode cX4_urgency 16 = .ok (.isub, 1) := by decide +kernel
theorem dX4_urgency_17 : decode cX4_urgency 17 = .ok (.iconst 1, 1) := by decide +kernel
theorem dX4_urgency_18 : decode cX4_urgency 18 = .ok (.iadd, 1) := by decide +kernel
theorem dX4_urgency_19 : decode cX4_urgency 19 = .ok (.imul, 1) := by decide +kernel
theorem dX4_urgency_20 : decode cX4_urgency 20 = .ok (.ireturn, 1) := by decide +kernel
theorem dX4_cost_0 : decode cX4_cost 0 = .ok (.aload_n 0, 1) := by decide +kernel
theorem dX4_cost_1 : decode cX4_cost 1 = .ok (.getfield 18, 3) := by decide +kernel
theorem dX4_cost_4 : decode cX4_cost 4 = .ok (.iload_n 1, 1) := by decide +kernel
theorem dX4_cost_5 : decode cX4_cost 5 = .ok (.iaload, 1) := by decide +kernel
theorem dX4_cost_6 : decode cX4_cost 6 = .ok (.iconst 1, 1) := by decide +kernel
theorem dX4_cost_7 : decode cX4_cost 7 = .ok (.iadd, 1) := by decide +kernel
theorem dX4_cost_8 : decode cX4_cost 8 = .ok (.aload_n 0, 1) := by decide +kernel
theorem dX4_cost_9 : decode cX4_cost 9 = .ok (.getfield 9, 3) := by decide +kernel
theorem dX4_cost_12 : decode cX4_cost 12 = .ok (.iload_n 1, 1) := by decide +kernel
theorem dX4_cost_13 : decode cX4_cost 13 = .ok (.iaload, 1) := by decide +kernel
theorem dX4_cost_14 : decode cX4_cost 14 = .ok (.imul, 1) := by decide +kernel
theorem dX4_cost_15 : decode cX4_cost 15 = .ok (.ireturn, 1) := by decide +kernel
set_option maxRecDepth 20000 in
theorem ggX5_init_J7_fill_53178 : GoodIn wsX5_init wsJ7_fill_53178 := goodIn_r _ [10] (by decide +kernel) (by decide +kernel)
set_option maxRecDepth 20000 in
theorem gX5_init_J7_fill_53178 : GoodIn wsX5_init (va_wsS RX5 18 yJ7_fill_53178 wsJ7_fill_53178) := goodIn_app (goodIn_of _ (by decide +kernel)) ggX5_init_J7_fill_53178
theorem dX5_init_0 : decode cX5_init 0 = .ok (.aload_n 0, 1) := by decide +kernel
theorem dX5_init_1 : decode cX5_init 1 = .ok (.invokespecial 5, 3) := by decide +kernel
theorem dX5_init_4 : decode cX5_init 4 = .ok (.aload_n 0, 1) := by decide +kernel
theorem dX5_init_5 : decode cX5_init 5 = .ok (.sipush 500, 3) := by decide +kernel
theorem dX5_init_8 : decode cX5_init 8 = .ok (.newarray .int, 2) := by decide +kernel
theorem dX5_init_10 : decode cX5_init 10 = .ok (.putfield 11, 3) := by decide +kernel
theorem dX5_init_13 : decode cX5_init 13 = .ok (.aload_n 0, 1) := by decide +kernel
theorem dX5_init_14 : decode cX5_init 14 = .ok (.iconst 4, 1) := by decide +kernel
theorem dX5_init_15 : decode cX5_init 15 = .ok (.newarray .int, 2) := by decide +kernel
theorem dX5_init_17 : decode cX5_init 17 = .ok (.putfield 15, 3) := by decide +kernel
theorem dX5_init_20 : decode cX5_init 20 = .ok (.aload_n 0, 1) := by decide +kernel
theorem dX5_init_21 : decode cX5_init 21 = .ok (.getfield 15, 3) := by decide +kernel
theorem dX5_init_24 : decode cX5_init 24 = .ok (.iconst (-1), 1) := by decide +kernel
theorem dX5_init_25 : decode cX5_init 25 = .ok (.invokestatic 18, 3) := by decide +kernel
theorem dX5_init_28 : decode cX5_init 28 = .ok (.return_, 1) := by decide +kernel
theorem dX5_become_0 : decode cX5_become 0 = .ok (.aload_n 1, 1) := by decide +kernel
theorem dX5_become_1 : decode cX5_become 1 = .ok (.getfield 11, 3) := by decide +kernel
theorem dX5_become_4 : decode cX5_become 4 = .ok (.iconst 0, 1) := by decide +kernel
theorem dX5_become_5 : decode cX5_become 5 = .ok (.aload_n 0, 1) := by decide +kernel
theorem dX5_become_6 : decode cX5_become 6 = .ok (.getfield 11, 3) := by decide +kernel
theorem dX5_become_9 : decode cX5_become 9 = .ok (.iconst 0, 1) := by decide +kernel
theorem dX5_become_10 : decode cX5_become 10 = .ok (.aload_n 1, 1) := by decide +kernel
theorem dX5_become_11 : decode cX5_become 11 = .ok (.getfield 24, 3) := by decide +kernel
theorem dX5_become_14 : decode cX5_become 14 = .ok (.bipush 50, 2) := by decide +kernel
theorem dX5_become_16 : decode cX5_become 16 = .ok (.imul, 1) := by decide +kernel
theorem dX5_become_17 : decode cX5_become 17 = .ok (.invokestatic 28, 3) := by decide +kernel
theorem dX5_become_20 : decode cX5_become 20 = .ok (.aload_n 1, 1) := by decide +kernel
theorem dX5_become_21 : decode cX5_become 21 = .ok (.getfield 15, 3) := by decide +kernel
theorem dX5_become_24 : decode cX5_become 24 = .ok (.iconst 0, 1) := by decide +kernel
theorem dX5_become_25 : decode cX5_become 25 = .ok (.aload_n 0, 1) := by decide +kernel
theorem dX5_become_26 : decode cX5_become 26 = .ok (.getfield 15, 3) := by decide +kernel
theorem dX5_become_29 : decode cX5_become 29 = .ok (.iconst 0, 1) := by decide +kernel
theorem dX5_become_30 : decode cX5_become 30 = .ok (.aload_n 0, 1) := by decide +kernel
theorem dX5_become_31 : decode cX5_become 31 = .ok (.getfield 15, 3) := by decide +kernel
theorem dX5_become_34 : decode cX5_become 34 = .ok (.arraylength, 1) := by decide +kernel
theorem dX5_become_35 : decode cX5_become 35 = .ok (.invokestatic 28, 3) := by decide +kernel
theorem dX5_become_38 : decode cX5_become 38 = .ok (.aload_n 0, 1) := by decide +kernel
theorem dX5_become_39 : decode cX5_become 39 = .ok (.aload_n 1, 1) := by decide +kernel
theorem dX5_become_40 : decode cX5_become 40 = .ok (.getfield 24, 3) := by decide +kernel
theorem dX5_become_43 : decode cX5_become 43 = .ok (.putfield 24, 3) := by decide +kernel
theorem dX5_become_46 : decode cX5_become 46 = .ok (.aload_n 0, 1) := by decide +kernel
theorem dX5_become_47 : decode cX5_become 47 = .ok (.aload_n 1, 1) := by decide +kernel
theorem dX5_become_48 : decode cX5_become 48 = .ok (.getfield 34, 3) := by decide +kernel
theorem dX5_become_51 : decode cX5_become 51 = .ok (.putfield 34, 3) := by decide +kernel
theorem dX5_become_54 : decode cX5_become 54 = .ok (.aload_n 0, 1) := by decide +kernel
theorem dX5_become_55 : decode cX5_become 55 = .ok (.aload_n 1, 1) := by decide +kernel
theorem dX5_become_56 : decode cX5_become 56 = .ok (.getfield 37, 3) := by decide +kernel
theorem dX5_become_59 : decode cX5_become 59 = .ok (.putfield 37, 3) := by decide +kernel
theorem dX5_become_62 : decode cX5_become 62 = .ok (.aload_n 0, 1) := by decide +kernel
theorem dX5_become_63 : decode cX5_become 63 = .ok (.aload_n 1, 1) := by decide +kernel
theorem dX5_become_64 : decode cX5_become 64 = .ok (.getfield 40, 3) := by decide +kernel
theorem dX5_become_67 : decode cX5_become 67 = .ok (.putfield 40, 3) := by decide +kernel
theorem dX5_become_70 : decode cX5_become 70 = .ok (.aload_n 0, 1) := by decide +kernel
theorem dX5_become_71 : decode cX5_become 71 = .ok (.aload_n 1, 1) := by decide +kernel
theorem dX5_become_72 : decode cX5_become 72 = .ok (.getfield 43, 3) := by decide +kernel
theorem dX5_become_75 : decode cX5_become 75 = .ok (.putfield 43, 3) := by decide +kernel
theorem dX5_become_78 : decode cX5_become 78 = .ok (.return_, 1) := by decide +kernel
theorem dX5_draw_0 : decode cX5_draw 0 = .ok (.aload_n 0, 1) := by decide +kernel
theorem dX5_draw_1 : decode cX5_draw 1 = .ok (.aload_n 0, 1) := by decide +kernel
theorem dX5_draw_2 : decode cX5_draw 2 = .ok (.getfield 46, 3) := by decide +kernel
theorem dX5_draw_5 : decode cX5_draw 5 = .ok (.i2l, 1) := by decide +kernel
theorem dX5_draw_6 : decode cX5_draw 6 = .ok (.ldc2_w 49, 3) := by decide +kernel
theorem dX5_draw_9 : decode cX5_draw 9 = .ok (.lmul, 1) := by decide +kernel
theorem dX5_draw_10 : decode cX5_draw 10 = .ok (.ldc2_w 51, 3) := by decide +kernel
theorem dX5_draw_13 : decode cX5_draw 13 = .ok (.ladd, 1) := by decide +kernel
theorem dX5_draw_14 : decode cX5_draw 14 = .ok (.ldc2_w 53, 3) := by decide +kernel
theorem dX5_draw_17 : decode cX5_draw 17 = .ok (.lrem, 1) := by decide +kernel
theorem dX5_draw_18 : decode cX5_draw 18 = .ok (.l2i, 1) := by decide +kernel
theorem dX5_draw_19 : decode cX5_draw 19 = .ok (.putfield 46, 3) := by decide +kernel
theorem dX5_draw_22 : decode cX5_draw 22 = .ok (.iload_n 1, 1) := by decide +kernel
theorem dX5_draw_23 : decode cX5_draw 23 = .ok (.iconst 1, 1) := by decide +kernel
theorem dX5_draw_24 : decode cX5_draw 24 = .ok (.if_icmp .ge 7, 3) := by decide +kernel
theorem dX5_draw_27 : decode cX5_draw 27 = .ok (.iconst 0, 1) := by decide +kernel
theorem dX5_draw_28 : decode cX5_draw 28 = .ok (.goto 12, 3) := by decide +kernel
theorem dX5_draw_31 : decode cX5_draw 31 = .ok (.aload_n 0, 1) := by decide +kernel
theorem dX5_draw_32 : decode cX5_draw 32 = .ok (.getfield 46, 3) := by decide +kernel
theorem dX5_draw_35 : decode cX5_draw 35 = .ok (.ldc 55, 2) := by decide +kernel
theorem dX5_draw_37 : decode cX5_draw 37 = .ok (.idiv, 1) := by decide +kernel
theorem dX5_draw_38 : decode cX5_draw 38 = .ok (.iload_n 1, 1) := by decide +kernel
theorem dX5_draw_39 : decode cX5_draw 39 = .ok (.irem, 1) := by decide +kernel
theorem dX5_draw_40 : decode cX5_draw 40 = .ok (.ireturn, 1) := by decide +kernel
set_option maxRecDepth 20000 in
theorem ggX5_countMended_X1_decode : GoodIn wsX5_countMended wsX1_decode := goodIn_r _ [6, 7, 8, 9, 10, 11, 12, 13, 14] (by decide +kernel) (by decide +kernel)
set_option maxRecDepth 20000 in
theorem gX5_countMended_X1_decode : GoodIn wsX5_countMended (va_wsS RX5 56 yX1_decode wsX1_decode) := goodIn_app (goodIn_of _ (by decide +kernel)) ggX5_countMended_X1_decode
set_option maxRecDepth 20000 in
theorem ggX5_countMended_X1_encode : GoodIn wsX5_countMended wsX1_encode := goodIn_r _ [17, 7] (by decide +kernel) (by decide +kernel)
set_option maxRecDepth 20000 in
theorem gX5_countMended_X1_encode : GoodIn wsX5_countMended (va_wsS RX5 62 yX1_encode wsX1_encode) := goodIn_app (goodIn_of _ (by decide +kernel)) ggX5_countMended_X1_encode
theorem dX5_countMended_0 : decode cX5_countMended 0 = .ok (.iload_n 2, 1) := by decide +kernel
theorem dX5_countMended_1 : decode cX5_countMended 1 = .ok (.istore 4, 2) := by decide +kernel
theorem dX5_countMended_3 : decode cX5_countMended 3 = .ok (.iload 4, 2) := by decide +kernel
theorem dX5_countMended_5 : decode cX5_countMended 5 = .ok (.iload_n 3, 1) := by decide +kernel
theorem dX5_countMended_6 : decode cX5_countMended 6 = .ok (.if_icmp .ge 62, 3) := by decide +kernel
theorem dX5_countMended_9 : decode cX5_countMended 9 = .ok (.iload 4, 2) := by decide +kernel
theorem dX5_countMended_11 : decode cX5_countMended 11 = .ok (.aload_n 1, 1) := by decide +kernel
theorem dX5_countMended_12 : decode cX5_countMended 12 = .ok (.arraylength, 1) := by decide +kernel
theorem dX5_countMended_13 : decode cX5_countMended 13 = .ok (.if_icmp .ge 55, 3) := by decide +kernel
theorem dX5_countMended_16 : decode cX5_countMended 16 = .ok (.aload_n 1, 1) := by decide +kernel
theorem dX5_countMended_17 : decode cX5_countMended 17 = .ok (.iload 4, 2) := by decide +kernel
theorem dX5_countMended_19 : decode cX5_countMended 19 = .ok (.iaload, 1) := by decide +kernel
theorem dX5_countMended_20 : decode cX5_countMended 20 = .ok (.invokestatic 56, 3) := by decide +kernel
theorem dX5_countMended_23 : decode cX5_countMended 23 = .ok (.istore 5, 2) := by decide +kernel
theorem dX5_countMended_25 : decode cX5_countMended 25 = .ok (.iload 5, 2) := by decide +kernel
theorem dX5_countMended_27 : decode cX5_countMended 27 = .ok (.iconst (-1), 1) := by decide +kernel
theorem dX5_countMended_28 : decode cX5_countMended 28 = .ok (.if_icmp .eq 34, 3) := by decide +kernel
theorem dX5_countMended_31 : decode cX5_countMended 31 = .ok (.aload_n 1, 1) := by decide +kernel
theorem dX5_countMended_32 : decode cX5_countMended 32 = .ok (.iload 4, 2) := by decide +kernel
theorem dX5_countMended_34 : decode cX5_countMended 34 = .ok (.iaload, 1) := by decide +kernel
theorem dX5_countMended_35 : decode cX5_countMended 35 = .ok (.iload 5, 2) := by decide +kernel
theorem dX5_countMended_37 : decode cX5_countMended 37 = .ok (.invokestatic 62, 3) := by decide +kernel
theorem dX5_countMended_40 : decode cX5_countMended 40 = .ok (.if_icmp .eq 22, 3) := by decide +kernel
theorem dX5_countMended_43 : decode cX5_countMended 43 = .ok (.aload_n 0, 1) := by decide +kernel
theorem dX5_countMended_44 : decode cX5_countMended 44 = .ok (.getfield 40, 3) := by decide +kernel
theorem dX5_countMended_47 : decode cX5_countMended 47 = .ok (.ldc 65, 2) := by decide +kernel
theorem dX5_countMended_49 : decode cX5_countMended 49 = .ok (.if_icmp .ge 13, 3) := by decide +kernel
theorem dX5_countMended_52 : decode cX5_countMended 52 = .ok (.aload_n 0, 1) := by decide +kernel
theorem dX5_countMended_53 : decode cX5_countMended 53 = .ok (.dup, 1) := by decide +kernel
theorem dX5_countMended_54 : decode cX5_countMended 54 = .ok (.getfield 40, 3) := by decide +kernel
theorem dX5_countMended_57 : decode cX5_countMended 57 = .ok (.iconst 1, 1) := by decide +kernel
theorem dX5_countMended_58 : decode cX5_countMended 58 = .ok (.iadd, 1) := by decide +kernel
theorem dX5_countMended_59 : decode cX5_countMended 59 = .ok (.putfield 40, 3) := by decide +kernel
theorem dX5_countMended_62 : decode cX5_countMended 62 = .ok (.iinc 4 1, 3) := by decide +kernel
theorem dX5_countMended_65 : decode cX5_countMended 65 = .ok (.goto (-62), 3) := by decide +kernel
theorem dX5_countMended_68 : decode cX5_countMended 68 = .ok (.return_, 1) := by decide +kernel
set_option maxRecDepth 20000 in
theorem ggX5_has_X7_isWithin : GoodIn wsX5_has wsX7_isWithin := goodIn_r _ [4] (by decide +kernel) (by decide +kernel)
set_option maxRecDepth 20000 in
theorem gX5_has_X7_isWithin_n66 : GoodIn wsX5_has (wsX7_isWithin) := ggX5_has_X7_isWithin
theorem dX5_has_0 : decode cX5_has 0 = .ok (.iload_n 1, 1) := by decide +kernel
theorem dX5_has_1 : decode cX5_has 1 = .ok (.iconst 0, 1) := by decide +kernel
theorem dX5_has_2 : decode cX5_has 2 = .ok (.aload_n 0, 1) := by decide +kernel
theorem dX5_has_3 : decode cX5_has 3 = .ok (.getfield 24, 3) := by decide +kernel
theorem dX5_has_6 : decode cX5_has 6 = .ok (.iconst 1, 1) := by decide +kernel
theorem dX5_has_7 : decode cX5_has 7 = .ok (.isub, 1) := by decide +kernel
theorem dX5_has_8 : decode cX5_has 8 = .ok (.invokestatic 66, 3) := by decide +kernel
theorem dX5_has_11 : decode cX5_has 11 = .ok (.ireturn, 1) := by decide +kernel
theorem dX5_get_0 : decode cX5_get 0 = .ok (.iload_n 1, 1) := by decide +kernel
theorem dX5_get_1 : decode cX5_get 1 = .ok (.bipush 50, 2) := by decide +kernel
theorem dX5_get_3 : decode cX5_get 3 = .ok (.imul, 1) := by decide +kernel
theorem dX5_get_4 : decode cX5_get 4 = .ok (.iload_n 2, 1) := by decide +kernel
theorem dX5_get_5 : decode cX5_get 5 = .ok (.iadd, 1) := by decide +kernel
theorem dX5_get_6 : decode cX5_get 6 = .ok (.istore_n 3, 1) := by decide +kernel
theorem dX5_get_7 : decode cX5_get 7 = .ok (.iload_n 3, 1) := by decide +kernel
theorem dX5_get_8 : decode cX5_get 8 = .ok (.ifCond .lt 12, 3) := by decide +kernel
theorem dX5_get_11 : decode cX5_get 11 = .ok (.iload_n 3, 1) := by decide +kernel
theorem dX5_get_12 : decode cX5_get 12 = .ok (.aload_n 0, 1) := by decide +kernel
theorem dX5_get_13 : decode cX5_get 13 = .ok (.getfield 11, 3) := by decide +kernel
theorem dX5_get_16 : decode cX5_get 16 = .ok (.arraylength, 1) := by decide +kernel
theorem dX5_get_17 : decode cX5_get 17 = .ok (.if_icmp .lt 7, 3) := by decide +kernel
theorem dX5_get_20 : decode cX5_get 20 = .ok (.iconst (-1), 1) := by decide +kernel
theorem dX5_get_21 : decode cX5_get 21 = .ok (.goto 9, 3) := by decide +kernel
theorem dX5_get_24 : decode cX5_get 24 = .ok (.aload_n 0, 1) := by decide +kernel
theorem dX5_get_25 : decode cX5_get 25 = .ok (.getfield 11, 3) := by decide +kernel
theorem dX5_get_28 : decode cX5_get 28 = .ok (.iload_n 3, 1) := by decide +kernel
theorem dX5_get_29 : decode cX5_get 29 = .ok (.iaload, 1) := by decide +kernel
theorem dX5_get_30 : decode cX5_get 30 = .ok (.ireturn, 1) := by decide +kernel
theorem dX5_set_0 : decode cX5_set 0 = .ok (.iload_n 1, 1) := by decide +kernel
theorem dX5_set_1 : decode cX5_set 1 = .ok (.bipush 50, 2) := by decide +kernel
theorem dX5_set_3 : decode cX5_set 3 = .ok (.imul, 1) := by decide +kernel
theorem dX5_set_4 : decode cX5_set 4 = .ok (.iload_n 2, 1) := by decide +kernel
theorem dX5_set_5 : decode cX5_set 5 = .ok (.iadd, 1) := by decide +kernel
theorem dX5_set_6 : decode cX5_set 6 = .ok (.istore 4, 2) := by decide +kernel
theorem dX5_set_8 : decode cX5_set 8 = .ok (.iload 4, 2) := by decide +kernel
theorem dX5_set_10 : decode cX5_set 10 = .ok (.ifCond .lt 21, 3) := by decide +kernel
theorem dX5_set_13 : decode cX5_set 13 = .ok (.iload 4, 2) := by decide +kernel
theorem dX5_set_15 : decode cX5_set 15 = .ok (.aload_n 0, 1) := by decide +kernel
theorem dX5_set_16 : decode cX5_set 16 = .ok (.getfield 11, 3) := by decide +kernel
theorem dX5_set_19 : decode cX5_set 19 = .ok (.arraylength, 1) := by decide +kernel
theorem dX5_set_20 : decode cX5_set 20 = .ok (.if_icmp .ge 11, 3) := by decide +kernel
theorem dX5_set_23 : decode cX5_set 23 = .ok (.aload_n 0, 1) := by decide +kernel
theorem dX5_set_24 : decode cX5_set 24 = .ok (.getfield 11, 3) := by decide +kernel
theorem dX5_set_27 : decode cX5_set 27 = .ok (.iload 4, 2) := by decide +kernel
theorem dX5_set_29 : decode cX5_set 29 = .ok (.iload_n 3, 1) := by decide +kernel
theorem dX5_set_30 : decode cX5_set 30 = .ok (.iastore, 1) := by decide +kernel
theorem dX5_set_31 : decode cX5_set 31 = .ok (.return_, 1) := by decide +kernel
set_option maxRecDepth 20000 in
theorem ggX5_linkAt_X5_get : GoodIn wsX5_linkAt wsX5_get := goodIn_r _ [5, 6, 7, 8, 9, 10, 11, 12, 13, 14] (by decide +kernel) (by decide +kernel)
set_option maxRecDepth 20000 in
theorem gX5_linkAt_X5_get : GoodIn wsX5_linkAt (wsV RX5 70 RX5 yX5_get wsX5_get) := goodIn_app (goodIn_of _ (by decide +kernel)) ggX5_linkAt_X5_get
theorem dX5_linkAt_0 : decode cX5_linkAt 0 = .ok (.aload_n 0, 1) := by decide +kernel
theorem dX5_linkAt_1 : decode cX5_linkAt 1 = .ok (.iload_n 1, 1) := by decide +kernel
theorem dX5_linkAt_2 : decode cX5_linkAt 2 = .ok (.bipush 6, 2) := by decide +kernel
theorem dX5_linkAt_4 : decode cX5_linkAt 4 = .ok (.iload_n 2, 1) := by decide +kernel
theorem dX5_linkAt_5 : decode cX5_linkAt 5 = .ok (.iadd, 1) := by decide +kernel
theorem dX5_linkAt_6 : decode cX5_linkAt 6 = .ok (.invokevirtual 70, 3) := by decide +kernel
theorem dX5_linkAt_9 : decode cX5_linkAt 9 = .ok (.ireturn, 1) := by decide +kernel
set_option maxRecDepth 20000 in
theorem ggX5_putLink_X5_set : GoodIn wsX5_putLink wsX5_set := goodIn_r _ [5, 6, 7, 8, 9, 10, 11, 12, 13, 14] (by decide +kernel) (by decide +kernel)
set_option maxRecDepth 20000 in
theorem gX5_putLink_X5_set : GoodIn wsX5_putLink (wsV RX5 74 RX5 yX5_set wsX5_set) := goodIn_app (goodIn_of _ (by decide +kernel)) ggX5_putLink_X5_set
theorem dX5_putLink_0 : decode cX5_putLink 0 = .ok (.aload_n 0, 1) := by decide +kernel
theorem dX5_putLink_1 : decode cX5_putLink 1 = .ok (.iload_n 1, 1) := by decide +kernel
theorem dX5_putLink_2 : decode cX5_putLink 2 = .ok (.bipush 6, 2) := by decide +kernel
theorem dX5_putLink_4 : decode cX5_putLink 4 = .ok (.iload_n 2, 1) := by decide +kernel
theorem dX5_putLink_5 : decode cX5_putLink 5 = .ok (.iadd, 1) := by decide +kernel
theorem dX5_putLink_6 : decode cX5_putLink 6 = .ok (.iload_n 3, 1) := by decide +kernel
theorem dX5_putLink_7 : decode cX5_putLink 7 = .ok (.invokevirtual 74, 3) := by decide +kernel
theorem dX5_putLink_10 : decode cX5_putLink 10 = .ok (.return_, 1) := by decide +kernel
set_option maxRecDepth 20000 in
theorem ggX5_letterAt_X5_get : GoodIn wsX5_letterAt wsX5_get := goodIn_r _ [5, 6, 7, 8, 9, 10, 11, 12, 13, 14] (by decide +kernel) (by decide +kernel)
set_option maxRecDepth 20000 in
theorem gX5_letterAt_X5_get : GoodIn wsX5_letterAt (wsV RX5 70 RX5 yX5_get wsX5_get) := goodIn_app (goodIn_of _ (by decide +kernel)) ggX5_letterAt_X5_get
theorem dX5_letterAt_0 : decode cX5_letterAt 0 = .ok (.aload_n 0, 1) := by decide +kernel
theorem dX5_letterAt_1 : decode cX5_letterAt 1 = .ok (.iload_n 1, 1) := by decide +kernel
theorem dX5_letterAt_2 : decode cX5_letterAt 2 = .ok (.bipush 10, 2) := by decide +kernel
theorem dX5_letterAt_4 : decode cX5_letterAt 4 = .ok (.iload_n 2, 1) := by decide +kernel
theorem dX5_letterAt_5 : decode cX5_letterAt 5 = .ok (.bipush 8, 2) := by decide +kernel
theorem dX5_letterAt_7 : decode cX5_letterAt 7 = .ok (.imul, 1) := by decide +kernel
theorem dX5_letterAt_8 : decode cX5_letterAt 8 = .ok (.iadd, 1) := by decide +kernel
theorem dX5_letterAt_9 : decode cX5_letterAt 9 = .ok (.iload_n 3, 1) := by decide +kernel
theorem dX5_letterAt_10 : decode cX5_letterAt 10 = .ok (.iadd, 1) := by decide +kernel
theorem dX5_letterAt_11 : decode cX5_letterAt 11 = .ok (.invokevirtual 70, 3) := by decide +kernel
theorem dX5_letterAt_14 : decode cX5_letterAt 14 = .ok (.ireturn, 1) := by decide +kernel
set_option maxRecDepth 20000 in
theorem ggX5_putLetter_X1_isWell : GoodIn wsX5_putLetter wsX1_isWell := goodIn_r _ [4, 5, 6, 7, 8, 9, 10, 11] (by decide +kernel) (by decide +kernel)
set_option maxRecDepth 20000 in
theorem gX5_putLetter_X1_isWell : GoodIn wsX5_putLetter (va_wsS RX5 78 yX1_isWell wsX1_isWell) := goodIn_app (goodIn_of _ (by decide +kernel)) ggX5_putLetter_X1_isWell
set_option maxRecDepth 20000 in
theorem ggX5_putLetter_X5_set : GoodIn wsX5_putLetter wsX5_set := goodIn_r _ [16, 17, 28, 29, 30, 31, 32, 33, 34, 35] (by decide +kernel) (by decide +kernel)
set_option maxRecDepth 20000 in
theorem gX5_putLetter_X5_set : GoodIn wsX5_putLetter (wsV RX5 74 RX5 yX5_set wsX5_set) := goodIn_app (goodIn_of _ (by decide +kernel)) ggX5_putLetter_X5_set
set_option maxRecDepth 20000 in
theorem ggX5_putLetter_X5_get : GoodIn wsX5_putLetter wsX5_get := goodIn_r _ [21, 17, 28, 29, 30, 31, 32, 33, 34, 35] (by decide +kernel) (by decide +kernel)
set_option maxRecDepth 20000 in
theorem gX5_putLetter_X5_get : GoodIn wsX5_putLetter (wsV RX5 70 RX5 yX5_get wsX5_get) := goodIn_app (goodIn_of _ (by decide +kernel)) ggX5_putLetter_X5_get
set_option maxRecDepth 20000 in
theorem ggX5_putLetter_X5_isSure : GoodIn wsX5_putLetter wsX5_isSure := goodIn_r _ [24, 25, 26, 27] (by decide +kernel) (by decide +kernel)
set_option maxRecDepth 20000 in
theorem gX5_putLetter_X5_isSure : GoodIn wsX5_putLetter (va_wsS RX5 82 yX5_isSure wsX5_isSure) := goodIn_app (goodIn_of _ (by decide +kernel)) ggX5_putLetter_X5_isSure
theorem dX5_putLetter_0 : decode cX5_putLetter 0 = .ok (.bipush 10, 2) := by decide +kernel
theorem dX5_putLetter_2 : decode cX5_putLetter 2 = .ok (.iload_n 2, 1) := by decide +kernel
theorem dX5_putLetter_3 : decode cX5_putLetter 3 = .ok (.bipush 8, 2) := by decide +kernel
theorem dX5_putLetter_5 : decode cX5_putLetter 5 = .ok (.imul, 1) := by decide +kernel
theorem dX5_putLetter_6 : decode cX5_putLetter 6 = .ok (.iadd, 1) := by decide +kernel
theorem dX5_putLetter_7 : decode cX5_putLetter 7 = .ok (.iload_n 3, 1) := by decide +kernel
theorem dX5_putLetter_8 : decode cX5_putLetter 8 = .ok (.iadd, 1) := by decide +kernel
theorem dX5_putLetter_9 : decode cX5_putLetter 9 = .ok (.istore 5, 2) := by decide +kernel
theorem dX5_putLetter_11 : decode cX5_putLetter 11 = .ok (.iload 4, 2) := by decide +kernel
theorem dX5_putLetter_13 : decode cX5_putLetter 13 = .ok (.bipush 127, 2) := by decide +kernel
theorem dX5_putLetter_15 : decode cX5_putLetter 15 = .ok (.iand, 1) := by decide +kernel
theorem dX5_putLetter_16 : decode cX5_putLetter 16 = .ok (.istore 6, 2) := by decide +kernel
theorem dX5_putLetter_18 : decode cX5_putLetter 18 = .ok (.iload 4, 2) := by decide +kernel
theorem dX5_putLetter_20 : decode cX5_putLetter 20 = .ok (.invokestatic 78, 3) := by decide +kernel
theorem dX5_putLetter_23 : decode cX5_putLetter 23 = .ok (.ifCond .eq 15, 3) := by decide +kernel
theorem dX5_putLetter_26 : decode cX5_putLetter 26 = .ok (.aload_n 0, 1) := by decide +kernel
theorem dX5_putLetter_27 : decode cX5_putLetter 27 = .ok (.iload_n 1, 1) := by decide +kernel
theorem dX5_putLetter_28 : decode cX5_putLetter 28 = .ok (.iload 5, 2) := by decide +kernel
theorem dX5_putLetter_30 : decode cX5_putLetter 30 = .ok (.iload 6, 2) := by decide +kernel
theorem dX5_putLetter_32 : decode cX5_putLetter 32 = .ok (.invokevirtual 74, 3) := by decide +kernel
theorem dX5_putLetter_35 : decode cX5_putLetter 35 = .ok (.goto 29, 3) := by decide +kernel
theorem dX5_putLetter_38 : decode cX5_putLetter 38 = .ok (.aload_n 0, 1) := by decide +kernel
theorem dX5_putLetter_39 : decode cX5_putLetter 39 = .ok (.iload_n 1, 1) := by decide +kernel
theorem dX5_putLetter_40 : decode cX5_putLetter 40 = .ok (.iload 5, 2) := by decide +kernel
theorem dX5_putLetter_42 : decode cX5_putLetter 42 = .ok (.invokevirtual 70, 3) := by decide +kernel
theorem dX5_putLetter_45 : decode cX5_putLetter 45 = .ok (.invokestatic 82, 3) := by decide +kernel
theorem dX5_putLetter_48 : decode cX5_putLetter 48 = .ok (.ifCond .ne 16, 3) := by decide +kernel
theorem dX5_putLetter_51 : decode cX5_putLetter 51 = .ok (.aload_n 0, 1) := by decide +kernel
theorem dX5_putLetter_52 : decode cX5_putLetter 52 = .ok (.iload_n 1, 1) := by decide +kernel
theorem dX5_putLetter_53 : decode cX5_putLetter 53 = .ok (.iload 5, 2) := by decide +kernel
theorem dX5_putLetter_55 : decode cX5_putLetter 55 = .ok (.iload 6, 2) := by decide +kernel
theorem dX5_putLetter_57 : decode cX5_putLetter 57 = .ok (.sipush 128, 3) := by decide +kernel
theorem dX5_putLetter_60 : decode cX5_putLetter 60 = .ok (.iadd, 1) := by decide +kernel
theorem dX5_putLetter_61 : decode cX5_putLetter 61 = .ok (.invokevirtual 74, 3) := by decide +kernel
theorem dX5_putLetter_64 : decode cX5_putLetter 64 = .ok (.return_, 1) := by decide +kernel
set_option maxRecDepth 20000 in
theorem ggX5_isSure_X7_isWithin : GoodIn wsX5_isSure wsX7_isWithin := goodIn_r _ [3] (by decide +kernel) (by decide +kernel)
set_option maxRecDepth 20000 in
theorem gX5_isSure_X7_isWithin_n66 : GoodIn wsX5_isSure (wsX7_isWithin) := ggX5_isSure_X7_isWithin
theorem dX5_isSure_0 : decode cX5_isSure 0 = .ok (.iload_n 0, 1) := by decide +kernel
theorem dX5_isSure_1 : decode cX5_isSure 1 = .ok (.iconst 0, 1) := by decide +kernel
theorem dX5_isSure_2 : decode cX5_isSure 2 = .ok (.bipush 127, 2) := by decide +kernel
theorem dX5_isSure_4 : decode cX5_isSure 4 = .ok (.invokestatic 66, 3) := by decide +kernel
theorem dX5_isSure_7 : decode cX5_isSure 7 = .ok (.ireturn, 1) := by decide +kernel
set_option maxRecDepth 20000 in
theorem ggX5_clear_J7_fill_fda19 : GoodIn wsX5_clear wsJ7_fill_fda19 := goodIn_r _ [5, 6, 7, 4, 8] (by decide +kernel) (by decide +kernel)
set_option maxRecDepth 20000 in
theorem gX5_clear_J7_fill_fda19 : GoodIn wsX5_clear (va_wsS RX5 85 yJ7_fill_fda19 wsJ7_fill_fda19) := goodIn_app (goodIn_of _ (by decide +kernel)) ggX5_clear_J7_fill_fda19
theorem dX5_clear_0 : decode cX5_clear 0 = .ok (.aload_n 0, 1) := by decide +kernel
theorem dX5_clear_1 : decode cX5_clear 1 = .ok (.getfield 11, 3) := by decide +kernel
theorem dX5_clear_4 : decode cX5_clear 4 = .ok (.iload_n 1, 1) := by decide +kernel
theorem dX5_clear_5 : decode cX5_clear 5 = .ok (.bipush 50, 2) := by decide +kernel
theorem dX5_clear_7 : decode cX5_clear 7 = .ok (.imul, 1) := by decide +kernel
theorem dX5_clear_8 : decode cX5_clear 8 = .ok (.bipush 6, 2) := by decide +kernel
theorem dX5_clear_10 : decode cX5_clear 10 = .ok (.iadd, 1) := by decide +kernel
theorem dX5_clear_11 : decode cX5_clear 11 = .ok (.iload_n 1, 1) := by decide +kernel
theorem dX5_clear_12 : decode cX5_clear 12 = .ok (.iconst 1, 1) := by decide +kernel
theorem dX5_clear_13 : decode cX5_clear 13 = .ok (.iadd, 1) := by decide +kernel
theorem dX5_clear_14 : decode cX5_clear 14 = .ok (.bipush 50, 2) := by decide +kernel
theorem dX5_clear_16 : decode cX5_clear 16 = .ok (.imul, 1) := by decide +kernel
theorem dX5_clear_17 : decode cX5_clear 17 = .ok (.iconst (-1), 1) := by decide +kernel
theorem dX5_clear_18 : decode cX5_clear 18 = .ok (.invokestatic 85, 3) := by decide +kernel
theorem dX5_clear_21 : decode cX5_clear 21 = .ok (.return_, 1) := by decide +kernel
set_option maxRecDepth 20000 in
theorem ggX5_search_X5_get : GoodIn wsX5_search wsX5_get := goodIn_r _ [6, 7, 8, 9, 10, 11, 12, 13, 14, 15] (by decide +kernel) (by decide +kernel)
set_option maxRecDepth 20000 in
theorem gX5_search_X5_get : GoodIn wsX5_search (wsV RX5 70 RX5 yX5_get wsX5_get) := goodIn_app (goodIn_of _ (by decide +kernel)) ggX5_search_X5_get
theorem dX5_search_0 : decode cX5_search 0 = .ok (.iconst 0, 1) := by decide +kernel
theorem dX5_search_1 : decode cX5_search 1 = .ok (.istore 4, 2) := by decide +kernel
theorem dX5_search_3 : decode cX5_search 3 = .ok (.iload 4, 2) := by decide +kernel
theorem dX5_search_5 : decode cX5_search 5 = .ok (.aload_n 0, 1) := by decide +kernel
theorem dX5_search_6 : decode cX5_search 6 = .ok (.getfield 24, 3) := by decide +kernel
theorem dX5_search_9 : decode cX5_search 9 = .ok (.if_icmp .ge 45, 3) := by decide +kernel
theorem dX5_search_12 : decode cX5_search 12 = .ok (.aload_n 0, 1) := by decide +kernel
theorem dX5_search_13 : decode cX5_search 13 = .ok (.iload 4, 2) := by decide +kernel
theorem dX5_search_15 : decode cX5_search 15 = .ok (.iconst 0, 1) := by decide +kernel
theorem dX5_search_16 : decode cX5_search 16 = .ok (.invokevirtual 70, 3) := by decide +kernel
theorem dX5_search_19 : decode cX5_search 19 = .ok (.iload_n 1, 1) := by decide +kernel
theorem dX5_search_20 : decode cX5_search 20 = .ok (.if_icmp .ne 28, 3) := by decide +kernel
theorem dX5_search_23 : decode cX5_search 23 = .ok (.aload_n 0, 1) := by decide +kernel
theorem dX5_search_24 : decode cX5_search 24 = .ok (.iload 4, 2) := by decide +kernel
theorem dX5_search_26 : decode cX5_search 26 = .ok (.iconst 1, 1) := by decide +kernel
theorem dX5_search_27 : decode cX5_search 27 = .ok (.invokevirtual 70, 3) := by decide +kernel
theorem dX5_search_30 : decode cX5_search 30 = .ok (.iload_n 2, 1) := by decide +kernel
theorem dX5_search_31 : decode cX5_search 31 = .ok (.if_icmp .ne 17, 3) := by decide +kernel
theorem dX5_search_34 : decode cX5_search 34 = .ok (.aload_n 0, 1) := by decide +kernel
theorem dX5_search_35 : decode cX5_search 35 = .ok (.iload 4, 2) := by decide +kernel
theorem dX5_search_37 : decode cX5_search 37 = .ok (.iconst 2, 1) := by decide +kernel
theorem dX5_search_38 : decode cX5_search 38 = .ok (.invokevirtual 70, 3) := by decide +kernel
theorem dX5_search_41 : decode cX5_search 41 = .ok (.iload_n 3, 1) := by decide +kernel
theorem dX5_search_42 : decode cX5_search 42 = .ok (.if_icmp .ne 6, 3) := by decide +kernel
theorem dX5_search_45 : decode cX5_search 45 = .ok (.iload 4, 2) := by decide +kernel
theorem dX5_search_47 : decode cX5_search 47 = .ok (.ireturn, 1) := by decide +kernel
theorem dX5_search_48 : decode cX5_search 48 = .ok (.iinc 4 1, 3) := by decide +kernel
theorem dX5_search_51 : decode cX5_search 51 = .ok (.goto (-48), 3) := by decide +kernel
theorem dX5_search_54 : decode cX5_search 54 = .ok (.iconst (-1), 1) := by decide +kernel
theorem dX5_search_55 : decode cX5_search 55 = .ok (.ireturn, 1) := by decide +kernel
set_option maxRecDepth 20000 in
theorem ggX5_openPage_X5_search : GoodIn wsX5_openPage wsX5_search := goodIn_r _ [12, 1, 13, 14, 15, 11, 16, 17, 49, 50, 51, 52, 53, 54, 55, 56] (by decide +kernel) (by decide +kernel)
set_option maxRecDepth 20000 in
theorem gX5_openPage_X5_search : GoodIn wsX5_openPage (wsV RX5 88 RX5 yX5_search wsX5_search) := goodIn_app (goodIn_of _ (by decide +kernel)) ggX5_openPage_X5_search
set_option maxRecDepth 20000 in
theorem ggX5_openPage_X5_longestAgo : GoodIn wsX5_openPage wsX5_longestAgo := goodIn_r _ [21, 1, 13, 14, 15, 11, 16, 17, 49, 50, 51, 52, 53, 54, 55, 56] (by decide +kernel) (by decide +kernel)
set_option maxRecDepth 20000 in
theorem gX5_openPage_X5_longestAgo : GoodIn wsX5_openPage (wsV RX5 92 RX5 yX5_longestAgo wsX5_longestAgo) := goodIn_app (goodIn_of _ (by decide +kernel)) ggX5_openPage_X5_longestAgo
set_option maxRecDepth 20000 in
theorem ggX5_openPage_X5_remove : GoodIn wsX5_openPage wsX5_remove := goodIn_r _ [25, 17, 1, 26, 27, 28, 29, 7, 49, 50, 51, 52, 53, 54, 55, 56] (by decide +kernel) (by decide +kernel)
set_option maxRecDepth 20000 in
theorem gX5_openPage_X5_remove : GoodIn wsX5_openPage (wsV RX5 96 RX5 yX5_remove wsX5_remove) := goodIn_app (goodIn_of _ (by decide +kernel)) ggX5_openPage_X5_remove
set_option maxRecDepth 20000 in
theorem ggX5_openPage_X5_append : GoodIn wsX5_openPage wsX5_append := goodIn_r _ [33, 1, 34, 35, 36, 11, 37, 17, 38, 39, 40, 41, 42, 43, 44, 45, 46, 47, 48, 49, 50, 51, 52, 53, 54, 55, 56] (by decide +kernel) (by decide +kernel)
set_option maxRecDepth 20000 in
theorem gX5_openPage_X5_append : GoodIn wsX5_openPage (wsV RX5 100 RX5 yX5_append wsX5_append) := goodIn_app (goodIn_of _ (by decide +kernel)) ggX5_openPage_X5_append
set_option maxRecDepth 20000 in
theorem ggX5_openPage_X5_set : GoodIn wsX5_openPage wsX5_set := goodIn_r _ [37, 17, 49, 50, 51, 52, 53, 54, 55, 56] (by decide +kernel) (by decide +kernel)
set_option maxRecDepth 20000 in
theorem gX5_openPage_X5_set : GoodIn wsX5_openPage (wsV RX5 74 RX5 yX5_set wsX5_set) := goodIn_app (goodIn_of _ (by decide +kernel)) ggX5_openPage_X5_set
set_option maxRecDepth 20000 in
theorem ggX5_openPage_X5_get : GoodIn wsX5_openPage wsX5_get := goodIn_r _ [16, 17, 49, 50, 51, 52, 53, 54, 55, 56] (by decide +kernel) (by decide +kernel)
set_option maxRecDepth 20000 in
theorem gX5_openPage_X5_get : GoodIn wsX5_openPage (wsV RX5 70 RX5 yX5_get wsX5_get) := goodIn_app (goodIn_of _ (by decide +kernel)) ggX5_openPage_X5_get
theorem dX5_openPage_0 : decode cX5_openPage 0 = .ok (.aload_n 0, 1) := by decide +kernel
theorem dX5_openPage_1 : decode cX5_openPage 1 = .ok (.iload_n 1, 1) := by decide +kernel
theorem dX5_openPage_2 : decode cX5_openPage 2 = .ok (.iload_n 2, 1) := by decide +kernel
theorem dX5_openPage_3 : decode cX5_openPage 3 = .ok (.iload_n 3, 1) := by decide +kernel
theorem dX5_openPage_4 : decode cX5_openPage 4 = .ok (.invokevirtual 88, 3) := by decide +kernel
theorem dX5_openPage_7 : decode cX5_openPage 7 = .ok (.istore 4, 2) := by decide +kernel
theorem dX5_openPage_9 : decode cX5_openPage 9 = .ok (.iload 4, 2) := by decide +kernel
theorem dX5_openPage_11 : decode cX5_openPage 11 = .ok (.iconst (-1), 1) := by decide +kernel
theorem dX5_openPage_12 : decode cX5_openPage 12 = .ok (.if_icmp .ne 29, 3) := by decide +kernel
theorem dX5_openPage_15 : decode cX5_openPage 15 = .ok (.aload_n 0, 1) := by decide +kernel
theorem dX5_openPage_16 : decode cX5_openPage 16 = .ok (.getfield 24, 3) := by decide +kernel
theorem dX5_openPage_19 : decode cX5_openPage 19 = .ok (.bipush 10, 2) := by decide +kernel
theorem dX5_openPage_21 : decode cX5_openPage 21 = .ok (.if_icmp .lt 11, 3) := by decide +kernel
theorem dX5_openPage_24 : decode cX5_openPage 24 = .ok (.aload_n 0, 1) := by decide +kernel
theorem dX5_openPage_25 : decode cX5_openPage 25 = .ok (.aload_n 0, 1) := by decide +kernel
theorem dX5_openPage_26 : decode cX5_openPage 26 = .ok (.invokevirtual 92, 3) := by decide +kernel
theorem dX5_openPage_29 : decode cX5_openPage 29 = .ok (.invokevirtual 96, 3) := by decide +kernel
theorem dX5_openPage_32 : decode cX5_openPage 32 = .ok (.aload_n 0, 1) := by decide +kernel
theorem dX5_openPage_33 : decode cX5_openPage 33 = .ok (.iload_n 1, 1) := by decide +kernel
theorem dX5_openPage_34 : decode cX5_openPage 34 = .ok (.iload_n 2, 1) := by decide +kernel
theorem dX5_openPage_35 : decode cX5_openPage 35 = .ok (.iload_n 3, 1) := by decide +kernel
theorem dX5_openPage_36 : decode cX5_openPage 36 = .ok (.invokevirtual 100, 3) := by decide +kernel
theorem dX5_openPage_39 : decode cX5_openPage 39 = .ok (.istore 4, 2) := by decide +kernel
theorem dX5_openPage_41 : decode cX5_openPage 41 = .ok (.aload_n 0, 1) := by decide +kernel
theorem dX5_openPage_42 : decode cX5_openPage 42 = .ok (.dup, 1) := by decide +kernel
theorem dX5_openPage_43 : decode cX5_openPage 43 = .ok (.getfield 43, 3) := by decide +kernel
theorem dX5_openPage_46 : decode cX5_openPage 46 = .ok (.iconst 1, 1) := by decide +kernel
theorem dX5_openPage_47 : decode cX5_openPage 47 = .ok (.iadd, 1) := by decide +kernel
theorem dX5_openPage_48 : decode cX5_openPage 48 = .ok (.putfield 43, 3) := by decide +kernel
theorem dX5_openPage_51 : decode cX5_openPage 51 = .ok (.aload_n 0, 1) := by decide +kernel
theorem dX5_openPage_52 : decode cX5_openPage 52 = .ok (.iload 4, 2) := by decide +kernel
theorem dX5_openPage_54 : decode cX5_openPage 54 = .ok (.iconst 5, 1) := by decide +kernel
theorem dX5_openPage_55 : decode cX5_openPage 55 = .ok (.aload_n 0, 1) := by decide +kernel
theorem dX5_openPage_56 : decode cX5_openPage 56 = .ok (.getfield 43, 3) := by decide +kernel
theorem dX5_openPage_59 : decode cX5_openPage 59 = .ok (.invokevirtual 74, 3) := by decide +kernel
theorem dX5_openPage_62 : decode cX5_openPage 62 = .ok (.aload_n 0, 1) := by decide +kernel
theorem dX5_openPage_63 : decode cX5_openPage 63 = .ok (.iload 4, 2) := by decide +kernel
theorem dX5_openPage_65 : decode cX5_openPage 65 = .ok (.iconst 3, 1) := by decide +kernel
theorem dX5_openPage_66 : decode cX5_openPage 66 = .ok (.aload_n 0, 1) := by decide +kernel
theorem dX5_openPage_67 : decode cX5_openPage 67 = .ok (.iload 4, 2) := by decide +kernel
theorem dX5_openPage_69 : decode cX5_openPage 69 = .ok (.iconst 3, 1) := by decide +kernel
theorem dX5_openPage_70 : decode cX5_openPage 70 = .ok (.invokevirtual 70, 3) := by decide +kernel
theorem dX5_openPage_73 : decode cX5_openPage 73 = .ok (.iconst 1, 1) := by decide +kernel
theorem dX5_openPage_74 : decode cX5_openPage 74 = .ok (.iadd, 1) := by decide +kernel
theorem dX5_openPage_75 : decode cX5_openPage 75 = .ok (.sipush 9999, 3) := by decide +kernel
theorem dX5_openPage_78 : decode cX5_openPage 78 = .ok (.invokestatic 103, 3) := by decide +kernel
theorem dX5_openPage_81 : decode cX5_openPage 81 = .ok (.invokevirtual 74, 3) := by decide +kernel
theorem dX5_openPage_84 : decode cX5_openPage 84 = .ok (.aload_n 0, 1) := by decide +kernel
theorem dX5_openPage_85 : decode cX5_openPage 85 = .ok (.getfield 15, 3) := by decide +kernel
theorem dX5_openPage_88 : decode cX5_openPage 88 = .ok (.iload_n 1, 1) := by decide +kernel
theorem dX5_openPage_89 : decode cX5_openPage 89 = .ok (.iload 4, 2) := by decide +kernel
theorem dX5_openPage_91 : decode cX5_openPage 91 = .ok (.iastore, 1) := by decide +kernel
theorem dX5_openPage_92 : decode cX5_openPage 92 = .ok (.iload 4, 2) := by decide +kernel
theorem dX5_openPage_94 : decode cX5_openPage 94 = .ok (.ireturn, 1) := by decide +kernel
set_option maxRecDepth 20000 in
theorem ggX5_append_X5_set : GoodIn wsX5_append wsX5_set := goodIn_r _ [6, 7, 19, 20, 21, 22, 23, 24, 25, 26] (by decide +kernel) (by decide +kernel)
set_option maxRecDepth 20000 in
theorem gX5_append_X5_set : GoodIn wsX5_append (wsV RX5 74 RX5 yX5_set wsX5_set) := goodIn_app (goodIn_of _ (by decide +kernel)) ggX5_append_X5_set
set_option maxRecDepth 20000 in
theorem ggX5_append_X5_clear : GoodIn wsX5_append wsX5_clear := goodIn_r _ [11, 7, 12, 13, 14, 15, 16, 17, 18, 19, 20, 21, 22, 23, 24, 25, 26] (by decide +kernel) (by decide +kernel)
set_option maxRecDepth 20000 in
theorem gX5_append_X5_clear : GoodIn wsX5_append (wsV RX5 108 RX5 yX5_clear wsX5_clear) := goodIn_app (goodIn_of _ (by decide +kernel)) ggX5_append_X5_clear
theorem dX5_append_0 : decode cX5_append 0 = .ok (.aload_n 0, 1) := by decide +kernel
theorem dX5_append_1 : decode cX5_append 1 = .ok (.getfield 24, 3) := by decide +kernel
theorem dX5_append_4 : decode cX5_append 4 = .ok (.istore 4, 2) := by decide +kernel
theorem dX5_append_6 : decode cX5_append 6 = .ok (.aload_n 0, 1) := by decide +kernel
theorem dX5_append_7 : decode cX5_append 7 = .ok (.dup, 1) := by decide +kernel
theorem dX5_append_8 : decode cX5_append 8 = .ok (.getfield 24, 3) := by decide +kernel
theorem dX5_append_11 : decode cX5_append 11 = .ok (.iconst 1, 1) := by decide +kernel
theorem dX5_append_12 : decode cX5_append 12 = .ok (.iadd, 1) := by decide +kernel
theorem dX5_append_13 : decode cX5_append 13 = .ok (.putfield 24, 3) := by decide +kernel
theorem dX5_append_16 : decode cX5_append 16 = .ok (.aload_n 0, 1) := by decide +kernel
theorem dX5_append_17 : decode cX5_append 17 = .ok (.iload 4, 2) := by decide +kernel
theorem dX5_append_19 : decode cX5_append 19 = .ok (.iconst 0, 1) := by decide +kernel
theorem dX5_append_20 : decode cX5_append 20 = .ok (.iload_n 1, 1) := by decide +kernel
theorem dX5_append_21 : decode cX5_append 21 = .ok (.invokevirtual 74, 3) := by decide +kernel
theorem dX5_append_24 : decode cX5_append 24 = .ok (.aload_n 0, 1) := by decide +kernel
theorem dX5_append_25 : decode cX5_append 25 = .ok (.iload 4, 2) := by decide +kernel
theorem dX5_append_27 : decode cX5_append 27 = .ok (.iconst 1, 1) := by decide +kernel
theorem dX5_append_28 : decode cX5_append 28 = .ok (.iload_n 2, 1) := by decide +kernel
theorem dX5_append_29 : decode cX5_append 29 = .ok (.invokevirtual 74, 3) := by decide +kernel
theorem dX5_append_32 : decode cX5_append 32 = .ok (.aload_n 0, 1) := by decide +kernel
theorem dX5_append_33 : decode cX5_append 33 = .ok (.iload 4, 2) := by decide +kernel
theorem dX5_append_35 : decode cX5_append 35 = .ok (.iconst 2, 1) := by decide +kernel
theorem dX5_append_36 : decode cX5_append 36 = .ok (.iload_n 3, 1) := by decide +kernel
theorem dX5_append_37 : decode cX5_append 37 = .ok (.invokevirtual 74, 3) := by decide +kernel
theorem dX5_append_40 : decode cX5_append 40 = .ok (.aload_n 0, 1) := by decide +kernel
theorem dX5_append_41 : decode cX5_append 41 = .ok (.iload 4, 2) := by decide +kernel
theorem dX5_append_43 : decode cX5_append 43 = .ok (.iconst 3, 1) := by decide +kernel
theorem dX5_append_44 : decode cX5_append 44 = .ok (.iconst 0, 1) := by decide +kernel
theorem dX5_append_45 : decode cX5_append 45 = .ok (.invokevirtual 74, 3) := by decide +kernel
theorem dX5_append_48 : decode cX5_append 48 = .ok (.aload_n 0, 1) := by decide +kernel
theorem dX5_append_49 : decode cX5_append 49 = .ok (.iload 4, 2) := by decide +kernel
theorem dX5_append_51 : decode cX5_append 51 = .ok (.iconst 4, 1) := by decide +kernel
theorem dX5_append_52 : decode cX5_append 52 = .ok (.iconst 1, 1) := by decide +kernel
theorem dX5_append_53 : decode cX5_append 53 = .ok (.invokevirtual 74, 3) := by decide +kernel
theorem dX5_append_56 : decode cX5_append 56 = .ok (.aload_n 0, 1) := by decide +kernel
theorem dX5_append_57 : decode cX5_append 57 = .ok (.iload 4, 2) := by decide +kernel
theorem dX5_append_59 : decode cX5_append 59 = .ok (.invokevirtual 108, 3) := by decide +kernel
theorem dX5_append_62 : decode cX5_append 62 = .ok (.iload 4, 2) := by decide +kernel
theorem dX5_append_64 : decode cX5_append 64 = .ok (.ireturn, 1) := by decide +kernel
theorem dX5_remove_0 : decode cX5_remove 0 = .ok (.aload_n 0, 1) := by decide +kernel
theorem dX5_remove_1 : decode cX5_remove 1 = .ok (.getfield 11, 3) := by decide +kernel
theorem dX5_remove_4 : decode cX5_remove 4 = .ok (.iload_n 1, 1) := by decide +kernel
theorem dX5_remove_5 : decode cX5_remove 5 = .ok (.iconst 1, 1) := by decide +kernel
theorem dX5_remove_6 : decode cX5_remove 6 = .ok (.iadd, 1) := by decide +kernel
theorem dX5_remove_7 : decode cX5_remove 7 = .ok (.bipush 50, 2) := by decide +kernel
theorem dX5_remove_9 : decode cX5_remove 9 = .ok (.imul, 1) := by decide +kernel
theorem dX5_remove_10 : decode cX5_remove 10 = .ok (.aload_n 0, 1) := by decide +kernel
theorem dX5_remove_11 : decode cX5_remove 11 = .ok (.getfield 11, 3) := by decide +kernel
theorem dX5_remove_14 : decode cX5_remove 14 = .ok (.iload_n 1, 1) := by decide +kernel
theorem dX5_remove_15 : decode cX5_remove 15 = .ok (.bipush 50, 2) := by decide +kernel
theorem dX5_remove_17 : decode cX5_remove 17 = .ok (.imul, 1) := by decide +kernel
theorem dX5_remove_18 : decode cX5_remove 18 = .ok (.aload_n 0, 1) := by decide +kernel
theorem dX5_remove_19 : decode cX5_remove 19 = .ok (.getfield 24, 3) := by decide +kernel
theorem dX5_remove_22 : decode cX5_remove 22 = .ok (.iconst 1, 1) := by decide +kernel
theorem dX5_remove_23 : decode cX5_remove 23 = .ok (.isub, 1) := by decide +kernel
theorem dX5_remove_24 : decode cX5_remove 24 = .ok (.iload_n 1, 1) := by decide +kernel
theorem dX5_remove_25 : decode cX5_remove 25 = .ok (.isub, 1) := by decide +kernel
theorem dX5_remove_26 : decode cX5_remove 26 = .ok (.bipush 50, 2) := by decide +kernel
theorem dX5_remove_28 : decode cX5_remove 28 = .ok (.imul, 1) := by decide +kernel
theorem dX5_remove_29 : decode cX5_remove 29 = .ok (.invokestatic 28, 3) := by decide +kernel
theorem dX5_remove_32 : decode cX5_remove 32 = .ok (.aload_n 0, 1) := by decide +kernel
theorem dX5_remove_33 : decode cX5_remove 33 = .ok (.dup, 1) := by decide +kernel
theorem dX5_remove_34 : decode cX5_remove 34 = .ok (.getfield 24, 3) := by decide +kernel
theorem dX5_remove_37 : decode cX5_remove 37 = .ok (.iconst 1, 1) := by decide +kernel
theorem dX5_remove_38 : decode cX5_remove 38 = .ok (.isub, 1) := by decide +kernel
theorem dX5_remove_39 : decode cX5_remove 39 = .ok (.putfield 24, 3) := by decide +kernel
theorem dX5_remove_42 : decode cX5_remove 42 = .ok (.iconst 0, 1) := by decide +kernel
theorem dX5_remove_43 : decode cX5_remove 43 = .ok (.istore_n 2, 1) := by decide +kernel
theorem dX5_remove_44 : decode cX5_remove 44 = .ok (.iload_n 2, 1) := by decide +kernel
theorem dX5_remove_45 : decode cX5_remove 45 = .ok (.iconst 4, 1) := by decide +kernel
theorem dX5_remove_46 : decode cX5_remove 46 = .ok (.if_icmp .ge 49, 3) := by decide +kernel
theorem dX5_remove_49 : decode cX5_remove 49 = .ok (.aload_n 0, 1) := by decide +kernel
theorem dX5_remove_50 : decode cX5_remove 50 = .ok (.getfield 15, 3) := by decide +kernel
theorem dX5_remove_53 : decode cX5_remove 53 = .ok (.iload_n 2, 1) := by decide +kernel
theorem dX5_remove_54 : decode cX5_remove 54 = .ok (.iaload, 1) := by decide +kernel
theorem dX5_remove_55 : decode cX5_remove 55 = .ok (.iload_n 1, 1) := by decide +kernel
theorem dX5_remove_56 : decode cX5_remove 56 = .ok (.if_icmp .ne 13, 3) := by decide +kernel
theorem dX5_remove_59 : decode cX5_remove 59 = .ok (.aload_n 0, 1) := by decide +kernel
theorem dX5_remove_60 : decode cX5_remove 60 = .ok (.getfield 15, 3) := by decide +kernel
theorem dX5_remove_63 : decode cX5_remove 63 = .ok (.iload_n 2, 1) := by decide +kernel
theorem dX5_remove_64 : decode cX5_remove 64 = .ok (.iconst (-1), 1) := by decide +kernel
theorem dX5_remove_65 : decode cX5_remove 65 = .ok (.iastore, 1) := by decide +kernel
theorem dX5_remove_66 : decode cX5_remove 66 = .ok (.goto 23, 3) := by decide +kernel
theorem dX5_remove_69 : decode cX5_remove 69 = .ok (.aload_n 0, 1) := by decide +kernel
theorem dX5_remove_70 : decode cX5_remove 70 = .ok (.getfield 15, 3) := by decide +kernel
theorem dX5_remove_73 : decode cX5_remove 73 = .ok (.iload_n 2, 1) := by decide +kernel
theorem dX5_remove_74 : decode cX5_remove 74 = .ok (.iaload, 1) := by decide +kernel
theorem dX5_remove_75 : decode cX5_remove 75 = .ok (.iload_n 1, 1) := by decide +kernel
theorem dX5_remove_76 : decode cX5_remove 76 = .ok (.if_icmp .le 13, 3) := by decide +kernel
theorem dX5_remove_79 : decode cX5_remove 79 = .ok (.aload_n 0, 1) := by decide +kernel
theorem dX5_remove_80 : decode cX5_remove 80 = .ok (.getfield 15, 3) := by decide +kernel
theorem dX5_remove_83 : decode cX5_remove 83 = .ok (.iload_n 2, 1) := by decide +kernel
theorem dX5_remove_84 : decode cX5_remove 84 = .ok (.dup2, 1) := by decide +kernel
theorem dX5_remove_85 : decode cX5_remove 85 = .ok (.iaload, 1) := by decide +kernel
theorem dX5_remove_86 : decode cX5_remove 86 = .ok (.iconst 1, 1) := by decide +kernel
theorem dX5_remove_87 : decode cX5_remove 87 = .ok (.isub, 1) := by decide +kernel
theorem dX5_remove_88 : decode cX5_remove 88 = .ok (.iastore, 1) := by decide +kernel
theorem dX5_remove_89 : decode cX5_remove 89 = .ok (.iinc 2 1, 3) := by decide +kernel
theorem dX5_remove_92 : decode cX5_remove 92 = .ok (.goto (-48), 3) := by decide +kernel
theorem dX5_remove_95 : decode cX5_remove 95 = .ok (.return_, 1) := by decide +kernel
set_option maxRecDepth 20000 in
theorem ggX5_longestAgo_X5_get : GoodIn wsX5_longestAgo wsX5_get := goodIn_r _ [6, 7, 8, 9, 10, 11, 12, 13, 14, 15] (by decide +kernel) (by decide +kernel)
set_option maxRecDepth 20000 in
theorem gX5_longestAgo_X5_get : GoodIn wsX5_longestAgo (wsV RX5 70 RX5 yX5_get wsX5_get) := goodIn_app (goodIn_of _ (by decide +kernel)) ggX5_longestAgo_X5_get
theorem dX5_longestAgo_0 : decode cX5_longestAgo 0 = .ok (.iconst 0, 1) := by decide +kernel
theorem dX5_longestAgo_1 : decode cX5_longestAgo 1 = .ok (.istore_n 1, 1) := by decide +kernel
theorem dX5_longestAgo_2 : decode cX5_longestAgo 2 = .ok (.iconst 1, 1) := by decide +kernel
theorem dX5_longestAgo_3 : decode cX5_longestAgo 3 = .ok (.istore_n 2, 1) := by decide +kernel
theorem dX5_longestAgo_4 : decode cX5_longestAgo 4 = .ok (.iload_n 2, 1) := by decide +kernel
theorem dX5_longestAgo_5 : decode cX5_longestAgo 5 = .ok (.aload_n 0, 1) := by decide +kernel
theorem dX5_longestAgo_6 : decode cX5_longestAgo 6 = .ok (.getfield 24, 3) := by decide +kernel
theorem dX5_longestAgo_9 : decode cX5_longestAgo 9 = .ok (.if_icmp .ge 26, 3) := by decide +kernel
theorem dX5_longestAgo_12 : decode cX5_longestAgo 12 = .ok (.aload_n 0, 1) := by decide +kernel
theorem dX5_longestAgo_13 : decode cX5_longestAgo 13 = .ok (.iload_n 2, 1) := by decide +kernel
theorem dX5_longestAgo_14 : decode cX5_longestAgo 14 = .ok (.iconst 5, 1) := by decide +kernel
theorem dX5_longestAgo_15 : decode cX5_longestAgo 15 = .ok (.invokevirtual 70, 3) := by decide +kernel
theorem dX5_longestAgo_18 : decode cX5_longestAgo 18 = .ok (.aload_n 0, 1) := by decide +kernel
theorem dX5_longestAgo_19 : decode cX5_longestAgo 19 = .ok (.iload_n 1, 1) := by decide +kernel
theorem dX5_longestAgo_20 : decode cX5_longestAgo 20 = .ok (.iconst 5, 1) := by decide +kernel
theorem dX5_longestAgo_21 : decode cX5_longestAgo 21 = .ok (.invokevirtual 70, 3) := by decide +kernel
theorem dX5_longestAgo_24 : decode cX5_longestAgo 24 = .ok (.if_icmp .ge 5, 3) := by decide +kernel
theorem dX5_longestAgo_27 : decode cX5_longestAgo 27 = .ok (.iload_n 2, 1) := by decide +kernel
theorem dX5_longestAgo_28 : decode cX5_longestAgo 28 = .ok (.istore_n 1, 1) := by decide +kernel
theorem dX5_longestAgo_29 : decode cX5_longestAgo 29 = .ok (.iinc 2 1, 3) := by decide +kernel
theorem dX5_longestAgo_32 : decode cX5_longestAgo 32 = .ok (.goto (-28), 3) := by decide +kernel
theorem dX5_longestAgo_35 : decode cX5_longestAgo 35 = .ok (.iload_n 1, 1) := by decide +kernel
theorem dX5_longestAgo_36 : decode cX5_longestAgo 36 = .ok (.ireturn, 1) := by decide +kernel
set_option maxRecDepth 20000 in
theorem ggX6_init_X5_init : GoodIn wsX6_init wsX5_init := goodIn_r _ [10, 11, 2, 3, 12, 13, 14, 15, 16, 17, 18, 22, 23, 24, 25, 26, 27, 28, 29] (by decide +kernel) (by decide +kernel)
set_option maxRecDepth 20000 in
theorem gX6_init_X5_init : GoodIn wsX6_init (wsX5_init) := ggX6_init_X5_init
theorem dX6_init_0 : decode cX6_init 0 = .ok (.aload_n 0, 1) := by decide +kernel
theorem dX6_init_1 : decode cX6_init 1 = .ok (.invokespecial 3, 3) := by decide +kernel
theorem dX6_init_4 : decode cX6_init 4 = .ok (.aload_n 0, 1) := by decide +kernel
theorem dX6_init_5 : decode cX6_init 5 = .ok (.bipush 16, 2) := by decide +kernel
theorem dX6_init_7 : decode cX6_init 7 = .ok (.anewarray 9, 3) := by decide +kernel
theorem dX6_init_10 : decode cX6_init 10 = .ok (.putfield 11, 3) := by decide +kernel
theorem dX6_init_13 : decode cX6_init 13 = .ok (.iconst 0, 1) := by decide +kernel
theorem dX6_init_14 : decode cX6_init 14 = .ok (.istore_n 1, 1) := by decide +kernel
theorem dX6_init_15 : decode cX6_init 15 = .ok (.iload_n 1, 1) := by decide +kernel
theorem dX6_init_16 : decode cX6_init 16 = .ok (.bipush 16, 2) := by decide +kernel
theorem dX6_init_18 : decode cX6_init 18 = .ok (.if_icmp .ge 22, 3) := by decide +kernel
theorem dX6_init_21 : decode cX6_init 21 = .ok (.aload_n 0, 1) := by decide +kernel
theorem dX6_init_22 : decode cX6_init 22 = .ok (.getfield 11, 3) := by decide +kernel
theorem dX6_init_25 : decode cX6_init 25 = .ok (.iload_n 1, 1) := by decide +kernel
theorem dX6_init_26 : decode cX6_init 26 = .ok (.new 9, 3) := by decide +kernel
theorem dX6_init_29 : decode cX6_init 29 = .ok (.dup, 1) := by decide +kernel
theorem dX6_init_30 : decode cX6_init 30 = .ok (.invokespecial 17, 3) := by decide +kernel
theorem dX6_init_33 : decode cX6_init 33 = .ok (.aastore, 1) := by decide +kernel
theorem dX6_init_34 : decode cX6_init 34 = .ok (.iinc 1 1, 3) := by decide +kernel
theorem dX6_init_37 : decode cX6_init 37 = .ok (.goto (-22), 3) := by decide +kernel
theorem dX6_init_40 : decode cX6_init 40 = .ok (.return_, 1) := by decide +kernel
set_option maxRecDepth 20000 in
theorem ggX6_remember_X5_become : GoodIn wsX6_remember wsX5_become := goodIn_r _ [12, 13, 14, 15, 16, 17, 18, 19, 20, 21, 22, 23, 27, 28, 29, 30, 31, 32, 33, 34] (by decide +kernel) (by decide +kernel)
set_option maxRecDepth 20000 in
theorem gX6_remember_X5_become : GoodIn wsX6_remember (wsV RX6 22 RX5 yX5_become wsX5_become) := goodIn_app (goodIn_of _ (by decide +kernel)) ggX6_remember_X5_become
theorem dX6_remember_0 : decode cX6_remember 0 = .ok (.aload_n 0, 1) := by decide +kernel
theorem dX6_remember_1 : decode cX6_remember 1 = .ok (.getfield 11, 3) := by decide +kernel
theorem dX6_remember_4 : decode cX6_remember 4 = .ok (.aload_n 0, 1) := by decide +kernel
theorem dX6_remember_5 : decode cX6_remember 5 = .ok (.getfield 18, 3) := by decide +kernel
theorem dX6_remember_8 : decode cX6_remember 8 = .ok (.aaload, 1) := by decide +kernel
theorem dX6_remember_9 : decode cX6_remember 9 = .ok (.aload_n 1, 1) := by decide +kernel
theorem dX6_remember_10 : decode cX6_remember 10 = .ok (.invokevirtual 22, 3) := by decide +kernel
theorem dX6_remember_13 : decode cX6_remember 13 = .ok (.aload_n 0, 1) := by decide +kernel
theorem dX6_remember_14 : decode cX6_remember 14 = .ok (.aload_n 0, 1) := by decide +kernel
theorem dX6_remember_15 : decode cX6_remember 15 = .ok (.getfield 18, 3) := by decide +kernel
theorem dX6_remember_18 : decode cX6_remember 18 = .ok (.iconst 1, 1) := by decide +kernel
theorem dX6_remember_19 : decode cX6_remember 19 = .ok (.iadd, 1) := by decide +kernel
theorem dX6_remember_20 : decode cX6_remember 20 = .ok (.bipush 16, 2) := by decide +kernel
theorem dX6_remember_22 : decode cX6_remember 22 = .ok (.irem, 1) := by decide +kernel
theorem dX6_remember_23 : decode cX6_remember 23 = .ok (.putfield 18, 3) := by decide +kernel
theorem dX6_remember_26 : decode cX6_remember 26 = .ok (.aload_n 0, 1) := by decide +kernel
theorem dX6_remember_27 : decode cX6_remember 27 = .ok (.aload_n 0, 1) := by decide +kernel
theorem dX6_remember_28 : decode cX6_remember 28 = .ok (.getfield 26, 3) := by decide +kernel
theorem dX6_remember_31 : decode cX6_remember 31 = .ok (.iconst 1, 1) := by decide +kernel
theorem dX6_remember_32 : decode cX6_remember 32 = .ok (.iadd, 1) := by decide +kernel
theorem dX6_remember_33 : decode cX6_remember 33 = .ok (.bipush 16, 2) := by decide +kernel
theorem dX6_remember_35 : decode cX6_remember 35 = .ok (.invokestatic 29, 3) := by decide +kernel
theorem dX6_remember_38 : decode cX6_remember 38 = .ok (.putfield 26, 3) := by decide +kernel
theorem dX6_remember_41 : decode cX6_remember 41 = .ok (.return_, 1) := by decide +kernel
set_option maxRecDepth 20000 in
theorem ggX6_takeBack_J9_floorMod_7cf53 : GoodIn wsX6_takeBack wsJ9_floorMod_7cf53 := goodIn_r _ [7] (by decide +kernel) (by decide +kernel)
set_option maxRecDepth 20000 in
theorem gX6_takeBack_J9_floorMod_7cf53 : GoodIn wsX6_takeBack (va_wsS RX6 35 yJ9_floorMod_7cf53 wsJ9_floorMod_7cf53) := goodIn_app (goodIn_of _ (by decide +kernel)) ggX6_takeBack_J9_floorMod_7cf53
set_option maxRecDepth 20000 in
theorem ggX6_takeBack_X5_become : GoodIn wsX6_takeBack wsX5_become := goodIn_r _ [12, 13, 14, 15, 16, 17, 18, 19, 20, 21, 22, 23, 27, 28, 29, 30, 31, 32, 33, 34] (by decide +kernel) (by decide +kernel)
set_option maxRecDepth 20000 in
theorem gX6_takeBack_X5_become : GoodIn wsX6_takeBack (wsV RX6 22 RX5 yX5_become wsX5_become) := goodIn_app (goodIn_of _ (by decide +kernel)) ggX6_takeBack_X5_become
theorem dX6_takeBack_0 : decode cX6_takeBack 0 = .ok (.aload_n 0, 1) := by decide +kernel
theorem dX6_takeBack_1 : decode cX6_takeBack 1 = .ok (.aload_n 0, 1) := by decide +kernel
theorem dX6_takeBack_2 : decode cX6_takeBack 2 = .ok (.getfield 18, 3) := by decide +kernel
theorem dX6_takeBack_5 : decode cX6_takeBack 5 = .ok (.iload_n 2, 1) := by decide +kernel
theorem dX6_takeBack_6 : decode cX6_takeBack 6 = .ok (.isub, 1) := by decide +kernel
theorem dX6_takeBack_7 : decode cX6_takeBack 7 = .ok (.bipush 16, 2) := by decide +kernel
theorem dX6_takeBack_9 : decode cX6_takeBack 9 = .ok (.invokestatic 35, 3) := by decide +kernel
theorem dX6_takeBack_12 : decode cX6_takeBack 12 = .ok (.putfield 18, 3) := by decide +kernel
theorem dX6_takeBack_15 : decode cX6_takeBack 15 = .ok (.aload_n 0, 1) := by decide +kernel
theorem dX6_takeBack_16 : decode cX6_takeBack 16 = .ok (.dup, 1) := by decide +kernel
theorem dX6_takeBack_17 : decode cX6_takeBack 17 = .ok (.getfield 26, 3) := by decide +kernel
theorem dX6_takeBack_20 : decode cX6_takeBack 20 = .ok (.iload_n 2, 1) := by decide +kernel
theorem dX6_takeBack_21 : decode cX6_takeBack 21 = .ok (.isub, 1) := by decide +kernel
theorem dX6_takeBack_22 : decode cX6_takeBack 22 = .ok (.putfield 26, 3) := by decide +kernel
theorem dX6_takeBack_25 : decode cX6_takeBack 25 = .ok (.aload_n 1, 1) := by decide +kernel
theorem dX6_takeBack_26 : decode cX6_takeBack 26 = .ok (.aload_n 0, 1) := by decide +kernel
theorem dX6_takeBack_27 : decode cX6_takeBack 27 = .ok (.getfield 11, 3) := by decide +kernel
theorem dX6_takeBack_30 : decode cX6_takeBack 30 = .ok (.aload_n 0, 1) := by decide +kernel
theorem dX6_takeBack_31 : decode cX6_takeBack 31 = .ok (.getfield 18, 3) := by decide +kernel
theorem dX6_takeBack_34 : decode cX6_takeBack 34 = .ok (.aaload, 1) := by decide +kernel
theorem dX6_takeBack_35 : decode cX6_takeBack 35 = .ok (.invokevirtual 22, 3) := by decide +kernel
theorem dX6_takeBack_38 : decode cX6_takeBack 38 = .ok (.return_, 1) := by decide +kernel
theorem dX6_forget_0 : decode cX6_forget 0 = .ok (.aload_n 0, 1) := by decide +kernel
theorem dX6_forget_1 : decode cX6_forget 1 = .ok (.iconst 0, 1) := by decide +kernel
theorem dX6_forget_2 : decode cX6_forget 2 = .ok (.putfield 26, 3) := by decide +kernel
theorem dX6_forget_5 : decode cX6_forget 5 = .ok (.return_, 1) := by decide +kernel
end
section
set_option maxRecDepth 20000 in
theorem ggX7_init_X5_init : GoodIn wsX7_init wsX5_init := goodIn_r _ [28, 29, 2, 3, 23, 30, 31, 32, 33, 34, 35, 58, 59, 60, 61, 62, 63, 64, 65] (by decide +kernel) (by decide +kernel)
set_option maxRecDepth 20000 in
theorem gX7_init_X5_init : GoodIn wsX7_init (wsX5_init) := ggX7_init_X5_init
set_option maxRecDepth 20000 in
theorem ggX7_init_X6_init : GoodIn wsX7_init wsX6_init := goodIn_r _ [38, 39, 2, 3, 40, 41, 5, 6, 42, 27, 28, 29, 23, 30, 31, 32, 33, 34, 35, 75, 76, 77, 58, 59, 60, 61, 62, 63, 64, 65] (by decide +kernel) (by decide +kernel)
set_option maxRecDepth 20000 in
theorem gX7_init_X6_init : GoodIn wsX7_init (wsX6_init) := ggX7_init_X6_init
set_option maxRecDepth 20000 in
theorem ggX7_init_X2_init : GoodIn wsX7_init wsX2_init := goodIn_r _ [44, 45, 2, 3, 23, 46, 47, 48, 49, 78, 79, 80, 81, 82] (by decide +kernel) (by decide +kernel)
set_option maxRecDepth 20000 in
theorem gX7_init_X2_init_n33 : GoodIn wsX7_init (wsX2_init) := ggX7_init_X2_init
set_option maxRecDepth 20000 in
theorem ggX7_init_X4_init : GoodIn wsX7_init wsX4_init := goodIn_r _ [51, 52, 2, 3, 23, 53, 54, 55, 56, 57, 83, 84, 85, 86, 87, 88, 89] (by decide +kernel) (by decide +kernel)
set_option maxRecDepth 20000 in
theorem gX7_init_X4_init_n40 : GoodIn wsX7_init (wsX4_init) := ggX7_init_X4_init
theorem dX7_init_0 : decode cX7_init 0 = .ok (.aload_n 0, 1) := by decide +kernel
theorem dX7_init_1 : decode cX7_init 1 = .ok (.invokespecial 1, 3) := by decide +kernel
theorem dX7_init_4 : decode cX7_init 4 = .ok (.aload_n 0, 1) := by decide +kernel
theorem dX7_init_5 : decode cX7_init 5 = .ok (.new 7, 3) := by decide +kernel
theorem dX7_init_8 : decode cX7_init 8 = .ok (.dup, 1) := by decide +kernel
theorem dX7_init_9 : decode cX7_init 9 = .ok (.invokespecial 9, 3) := by decide +kernel
theorem dX7_init_12 : decode cX7_init 12 = .ok (.putfield 10, 3) := by decide +kernel
theorem dX7_init_15 : decode cX7_init 15 = .ok (.aload_n 0, 1) := by decide +kernel
theorem dX7_init_16 : decode cX7_init 16 = .ok (.new 16, 3) := by decide +kernel
theorem dX7_init_19 : decode cX7_init 19 = .ok (.dup, 1) := by decide +kernel
theorem dX7_init_20 : decode cX7_init 20 = .ok (.invokespecial 18, 3) := by decide +kernel
theorem dX7_init_23 : decode cX7_init 23 = .ok (.putfield 19, 3) := by decide +kernel
theorem dX7_init_26 : decode cX7_init 26 = .ok (.aload_n 0, 1) := by decide +kernel
theorem dX7_init_27 : decode cX7_init 27 = .ok (.iconst 2, 1) := by decide +kernel
theorem dX7_init_28 : decode cX7_init 28 = .ok (.anewarray 7, 3) := by decide +kernel
theorem dX7_init_31 : decode cX7_init 31 = .ok (.dup, 1) := by decide +kernel
theorem dX7_init_32 : decode cX7_init 32 = .ok (.iconst 0, 1) := by decide +kernel
theorem dX7_init_33 : decode cX7_init 33 = .ok (.new 7, 3) := by decide +kernel
theorem dX7_init_36 : decode cX7_init 36 = .ok (.dup, 1) := by decide +kernel
theorem dX7_init_37 : decode cX7_init 37 = .ok (.invokespecial 9, 3) := by decide +kernel
theorem dX7_init_40 : decode cX7_init 40 = .ok (.aastore, 1) := by decide +kernel
theorem dX7_init_41 : decode cX7_init 41 = .ok (.dup, 1) := by decide +kernel
theorem dX7_init_42 : decode cX7_init 42 = .ok (.iconst 1, 1) := by decide +kernel
theorem dX7_init_43 : decode cX7_init 43 = .ok (.new 7, 3) := by decide +kernel
theorem dX7_init_46 : decode cX7_init 46 = .ok (.dup, 1) := by decide +kernel
theorem dX7_init_47 : decode cX7_init 47 = .ok (.invokespecial 9, 3) := by decide +kernel
theorem dX7_init_50 : decode cX7_init 50 = .ok (.aastore, 1) := by decide +kernel
theorem dX7_init_51 : decode cX7_init 51 = .ok (.putfield 23, 3) := by decide +kernel
theorem dX7_init_54 : decode cX7_init 54 = .ok (.aload_n 0, 1) := by decide +kernel
theorem dX7_init_55 : decode cX7_init 55 = .ok (.iconst 2, 1) := by decide +kernel
theorem dX7_init_56 : decode cX7_init 56 = .ok (.newarray .boolean, 2) := by decide +kernel
theorem dX7_init_58 : decode cX7_init 58 = .ok (.putfield 27, 3) := by decide +kernel
theorem dX7_init_61 : decode cX7_init 61 = .ok (.aload_n 0, 1) := by decide +kernel
theorem dX7_init_62 : decode cX7_init 62 = .ok (.new 31, 3) := by decide +kernel
theorem dX7_init_65 : decode cX7_init 65 = .ok (.dup, 1) := by decide +kernel
theorem dX7_init_66 : decode cX7_init 66 = .ok (.invokespecial 33, 3) := by decide +kernel
theorem dX7_init_69 : decode cX7_init 69 = .ok (.putfield 34, 3) := by decide +kernel
theorem dX7_init_72 : decode cX7_init 72 = .ok (.aload_n 0, 1) := by decide +kernel
theorem dX7_init_73 : decode cX7_init 73 = .ok (.new 38, 3) := by decide +kernel
theorem dX7_init_76 : decode cX7_init 76 = .ok (.dup, 1) := by decide +kernel
theorem dX7_init_77 : decode cX7_init 77 = .ok (.invokespecial 40, 3) := by decide +kernel
theorem dX7_init_80 : decode cX7_init 80 = .ok (.putfield 41, 3) := by decide +kernel
theorem dX7_init_83 : decode cX7_init 83 = .ok (.aload_n 0, 1) := by decide +kernel
theorem dX7_init_84 : decode cX7_init 84 = .ok (.bipush 10, 2) := by decide +kernel
theorem dX7_init_86 : decode cX7_init 86 = .ok (.newarray .int, 2) := by decide +kernel
theorem dX7_init_88 : decode cX7_init 88 = .ok (.putfield 45, 3) := by decide +kernel
theorem dX7_init_91 : decode cX7_init 91 = .ok (.aload_n 0, 1) := by decide +kernel
theorem dX7_init_92 : decode cX7_init 92 = .ok (.bipush 10, 2) := by decide +kernel
theorem dX7_init_94 : decode cX7_init 94 = .ok (.newarray .int, 2) := by decide +kernel
theorem dX7_init_96 : decode cX7_init 96 = .ok (.putfield 49, 3) := by decide +kernel
theorem dX7_init_99 : decode cX7_init 99 = .ok (.return_, 1) := by decide +kernel
set_option maxRecDepth 20000 in
theorem ggX7_coded_X7_isWithin : GoodIn wsX7_coded wsX7_isWithin := goodIn_r _ [5] (by decide +kernel) (by decide +kernel)
set_option maxRecDepth 20000 in
theorem gX7_coded_X7_isWithin : GoodIn wsX7_coded (va_wsS RX7 52 yX7_isWithin wsX7_isWithin) := goodIn_app (goodIn_of _ (by decide +kernel)) ggX7_coded_X7_isWithin
set_option maxRecDepth 20000 in
theorem ggX7_coded_X1_encode : GoodIn wsX7_coded wsX1_encode := goodIn_r _ [9, 10] (by decide +kernel) (by decide +kernel)
set_option maxRecDepth 20000 in
theorem gX7_coded_X1_encode : GoodIn wsX7_coded (va_wsS RX7 56 yX1_encode wsX1_encode) := goodIn_app (goodIn_of _ (by decide +kernel)) ggX7_coded_X1_encode
theorem dX7_coded_0 : decode cX7_coded 0 = .ok (.iload_n 1, 1) := by decide +kernel
theorem dX7_coded_1 : decode cX7_coded 1 = .ok (.iconst 0, 1) := by decide +kernel
theorem dX7_coded_2 : decode cX7_coded 2 = .ok (.bipush 15, 2) := by decide +kernel
theorem dX7_coded_4 : decode cX7_coded 4 = .ok (.invokestatic 52, 3) := by decide +kernel
theorem dX7_coded_7 : decode cX7_coded 7 = .ok (.ifCond .eq 10, 3) := by decide +kernel
theorem dX7_coded_10 : decode cX7_coded 10 = .ok (.iload_n 1, 1) := by decide +kernel
theorem dX7_coded_11 : decode cX7_coded 11 = .ok (.invokestatic 56, 3) := by decide +kernel
theorem dX7_coded_14 : decode cX7_coded 14 = .ok (.goto 5, 3) := by decide +kernel
theorem dX7_coded_17 : decode cX7_coded 17 = .ok (.ldc 62, 2) := by decide +kernel
theorem dX7_coded_19 : decode cX7_coded 19 = .ok (.ireturn, 1) := by decide +kernel
set_option maxRecDepth 20000 in
theorem ggX7_read_X7_isWithin : GoodIn wsX7_read wsX7_isWithin := goodIn_r _ [5] (by decide +kernel) (by decide +kernel)
set_option maxRecDepth 20000 in
theorem gX7_read_X7_isWithin : GoodIn wsX7_read (va_wsS RX7 52 yX7_isWithin wsX7_isWithin) := goodIn_app (goodIn_of _ (by decide +kernel)) ggX7_read_X7_isWithin
set_option maxRecDepth 20000 in
theorem ggX7_read_X1_decode : GoodIn wsX7_read wsX1_decode := goodIn_r _ [9, 10, 11, 12, 13, 14, 15, 16, 17] (by decide +kernel) (by decide +kernel)
set_option maxRecDepth 20000 in
theorem gX7_read_X1_decode : GoodIn wsX7_read (va_wsS RX7 63 yX1_decode wsX1_decode) := goodIn_app (goodIn_of _ (by decide +kernel)) ggX7_read_X1_decode
theorem dX7_read_0 : decode cX7_read 0 = .ok (.iload_n 1, 1) := by decide +kernel
theorem dX7_read_1 : decode cX7_read 1 = .ok (.iconst 0, 1) := by decide +kernel
theorem dX7_read_2 : decode cX7_read 2 = .ok (.sipush 255, 3) := by decide +kernel
theorem dX7_read_5 : decode cX7_read 5 = .ok (.invokestatic 52, 3) := by decide +kernel
theorem dX7_read_8 : decode cX7_read 8 = .ok (.ifCond .eq 10, 3) := by decide +kernel
theorem dX7_read_11 : decode cX7_read 11 = .ok (.iload_n 1, 1) := by decide +kernel
theorem dX7_read_12 : decode cX7_read 12 = .ok (.invokestatic 63, 3) := by decide +kernel
theorem dX7_read_15 : decode cX7_read 15 = .ok (.goto 5, 3) := by decide +kernel
theorem dX7_read_18 : decode cX7_read 18 = .ok (.ldc 62, 2) := by decide +kernel
theorem dX7_read_20 : decode cX7_read 20 = .ok (.ireturn, 1) := by decide +kernel
set_option maxRecDepth 20000 in
theorem ggX7_octet_X7_isWithin : GoodIn wsX7_octet wsX7_isWithin := goodIn_r _ [7] (by decide +kernel) (by decide +kernel)
set_option maxRecDepth 20000 in
theorem gX7_octet_X7_isWithin : GoodIn wsX7_octet (va_wsS RX7 52 yX7_isWithin wsX7_isWithin) := goodIn_app (goodIn_of _ (by decide +kernel)) ggX7_octet_X7_isWithin
set_option maxRecDepth 20000 in
theorem ggX7_octet_X7_comes : GoodIn wsX7_octet wsX7_comes := goodIn_r _ [11, 12, 13, 14, 15, 16, 17, 18, 19, 20, 21, 22, 23, 24, 25, 26, 27, 28, 29, 30, 31, 32, 33, 34, 35, 36, 37, 38, 39, 40, 41, 42, 43, 44, 45, 46, 47, 48, 49, 50, 51, 52, 53, 54, 55, 56, 57, 58, 59, 60, 61, 62, 63, 64, 65, 66, 67, 68, 69, 5, 6, 7, 70, 71, 72, 73, 74, 75, 76, 77, 78, 79, 80, 81, 82, 83, 84, 85, 86, 87, 88, 89, 90, 91, 92, 93, 94, 95, 96, 97, 98, 99, 100, 101, 102, 103, 104, 105, 106, 107, 108, 109, 110, 111, 112, 113, 114, 115, 116, 117, 118, 119, 120, 121, 122, 123, 124, 125, 126, 127, 128, 129, 130, 131, 132, 133, 134, 135, 136, 137, 138, 139, 140, 141, 142, 143, 144, 145, 146, 147, 148, 149, 150, 151, 152, 153, 154, 155, 156, 157, 158, 159, 160] (by decide +kernel) (by decide +kernel)
set_option maxRecDepth 20000 in
theorem gX7_octet_X7_comes : GoodIn wsX7_octet (wsV RX7 70 RX7 yX7_comes wsX7_comes) := goodIn_app (goodIn_of _ (by decide +kernel)) ggX7_octet_X7_comes
theorem dX7_octet_0 : decode cX7_octet 0 = .ok (.iload_n 1, 1) := by decide +kernel
theorem dX7_octet_1 : decode cX7_octet 1 = .ok (.iconst 0, 1) := by decide +kernel
theorem dX7_octet_2 : decode cX7_octet 2 = .ok (.sipush 255, 3) := by decide +kernel
theorem dX7_octet_5 : decode cX7_octet 5 = .ok (.invokestatic 52, 3) := by decide +kernel
theorem dX7_octet_8 : decode cX7_octet 8 = .ok (.ifCond .eq 16, 3) := by decide +kernel
theorem dX7_octet_11 : decode cX7_octet 11 = .ok (.aload_n 0, 1) := by decide +kernel
theorem dX7_octet_12 : decode cX7_octet 12 = .ok (.getfield 66, 3) := by decide +kernel
theorem dX7_octet_15 : decode cX7_octet 15 = .ok (.iconst 0, 1) := by decide +kernel
theorem dX7_octet_16 : decode cX7_octet 16 = .ok (.bipush 9, 2) := by decide +kernel
theorem dX7_octet_18 : decode cX7_octet 18 = .ok (.invokestatic 52, 3) := by decide +kernel
theorem dX7_octet_21 : decode cX7_octet 21 = .ok (.ifCond .ne 6, 3) := by decide +kernel
theorem dX7_octet_24 : decode cX7_octet 24 = .ok (.ldc 62, 2) := by decide +kernel
theorem dX7_octet_26 : decode cX7_octet 26 = .ok (.ireturn, 1) := by decide +kernel
theorem dX7_octet_27 : decode cX7_octet 27 = .ok (.aload_n 0, 1) := by decide +kernel
theorem dX7_octet_28 : decode cX7_octet 28 = .ok (.getfield 45, 3) := by decide +kernel
theorem dX7_octet_31 : decode cX7_octet 31 = .ok (.aload_n 0, 1) := by decide +kernel
theorem dX7_octet_32 : decode cX7_octet 32 = .ok (.getfield 66, 3) := by decide +kernel
theorem dX7_octet_35 : decode cX7_octet 35 = .ok (.iload_n 1, 1) := by decide +kernel
theorem dX7_octet_36 : decode cX7_octet 36 = .ok (.iastore, 1) := by decide +kernel
theorem dX7_octet_37 : decode cX7_octet 37 = .ok (.aload_n 0, 1) := by decide +kernel
theorem dX7_octet_38 : decode cX7_octet 38 = .ok (.dup, 1) := by decide +kernel
theorem dX7_octet_39 : decode cX7_octet 39 = .ok (.getfield 66, 3) := by decide +kernel
theorem dX7_octet_42 : decode cX7_octet 42 = .ok (.iconst 1, 1) := by decide +kernel
theorem dX7_octet_43 : decode cX7_octet 43 = .ok (.iadd, 1) := by decide +kernel
theorem dX7_octet_44 : decode cX7_octet 44 = .ok (.putfield 66, 3) := by decide +kernel
theorem dX7_octet_47 : decode cX7_octet 47 = .ok (.aload_n 0, 1) := by decide +kernel
theorem dX7_octet_48 : decode cX7_octet 48 = .ok (.getfield 66, 3) := by decide +kernel
theorem dX7_octet_51 : decode cX7_octet 51 = .ok (.bipush 10, 2) := by decide +kernel
theorem dX7_octet_53 : decode cX7_octet 53 = .ok (.if_icmp .ne 17, 3) := by decide +kernel
theorem dX7_octet_56 : decode cX7_octet 56 = .ok (.aload_n 0, 1) := by decide +kernel
theorem dX7_octet_57 : decode cX7_octet 57 = .ok (.iconst 0, 1) := by decide +kernel
theorem dX7_octet_58 : decode cX7_octet 58 = .ok (.putfield 66, 3) := by decide +kernel
theorem dX7_octet_61 : decode cX7_octet 61 = .ok (.aload_n 0, 1) := by decide +kernel
theorem dX7_octet_62 : decode cX7_octet 62 = .ok (.aload_n 0, 1) := by decide +kernel
theorem dX7_octet_63 : decode cX7_octet 63 = .ok (.getfield 45, 3) := by decide +kernel
theorem dX7_octet_66 : decode cX7_octet 66 = .ok (.invokevirtual 70, 3) := by decide +kernel
theorem dX7_octet_69 : decode cX7_octet 69 = .ok (.pop, 1) := by decide +kernel
theorem dX7_octet_70 : decode cX7_octet 70 = .ok (.aload_n 0, 1) := by decide +kernel
theorem dX7_octet_71 : decode cX7_octet 71 = .ok (.getfield 66, 3) := by decide +kernel
theorem dX7_octet_74 : decode cX7_octet 74 = .ok (.ireturn, 1) := by decide +kernel
set_option maxRecDepth 20000 in
theorem ggX7_packet_X7_isWithin : GoodIn wsX7_packet wsX7_isWithin := goodIn_r _ [6] (by decide +kernel) (by decide +kernel)
set_option maxRecDepth 20000 in
theorem gX7_packet_X7_isWithin : GoodIn wsX7_packet (va_wsS RX7 52 yX7_isWithin wsX7_isWithin) := goodIn_app (goodIn_of _ (by decide +kernel)) ggX7_packet_X7_isWithin
set_option maxRecDepth 20000 in
theorem ggX7_packet_X1_encode : GoodIn wsX7_packet wsX1_encode := goodIn_r _ [10, 11] (by decide +kernel) (by decide +kernel)
set_option maxRecDepth 20000 in
theorem gX7_packet_X1_encode : GoodIn wsX7_packet (va_wsS RX7 56 yX1_encode wsX1_encode) := goodIn_app (goodIn_of _ (by decide +kernel)) ggX7_packet_X1_encode
set_option maxRecDepth 20000 in
theorem ggX7_packet_X7_bodyOctet : GoodIn wsX7_packet wsX7_bodyOctet := goodIn_r _ [14, 7, 8, 9, 10, 11, 15, 16, 17, 18, 19, 20, 21, 22, 23, 24, 25, 26, 27] (by decide +kernel) (by decide +kernel)
set_option maxRecDepth 20000 in
theorem gX7_packet_X7_bodyOctet : GoodIn wsX7_packet (va_wsS RX7 74 yX7_bodyOctet wsX7_bodyOctet) := goodIn_app (goodIn_of _ (by decide +kernel)) ggX7_packet_X7_bodyOctet
set_option maxRecDepth 20000 in
theorem ggX7_packet_X7_comes : GoodIn wsX7_packet wsX7_comes := goodIn_r _ [31, 32, 33, 34, 35, 36, 37, 38, 39, 40, 41, 42, 43, 44, 45, 46, 47, 48, 49, 50, 51, 52, 53, 54, 55, 56, 57, 58, 59, 60, 61, 62, 63, 64, 65, 66, 67, 68, 69, 70, 71, 72, 73, 74, 75, 9, 76, 11, 21, 22, 23, 24, 25, 26, 27, 77, 8, 10, 78, 4, 5, 6, 79, 80, 81, 82, 83, 84, 85, 86, 87, 88, 89, 90, 91, 92, 93, 94, 95, 96, 97, 98, 99, 100, 101, 102, 103, 104, 105, 106, 107, 108, 109, 110, 111, 112, 113, 114, 115, 116, 117, 118, 119, 120, 121, 122, 123, 124, 125, 126, 127, 128, 129, 130, 131, 132, 133, 134, 135, 136, 137, 138, 139, 140, 141, 142, 143, 144, 19, 20, 145, 146, 147, 148, 149, 150, 151, 152, 153, 154, 155, 156, 157, 158, 159, 160, 161, 162, 163, 164, 165, 166, 167] (by decide +kernel) (by decide +kernel)
set_option maxRecDepth 20000 in
theorem gX7_packet_X7_comes : GoodIn wsX7_packet (wsV RX7 70 RX7 yX7_comes wsX7_comes) := goodIn_app (goodIn_of _ (by decide +kernel)) ggX7_packet_X7_comes
theorem dX7_packet_0 : decode cX7_packet 0 = .ok (.iload_n 1, 1) := by decide +kernel
theorem dX7_packet_1 : decode cX7_packet 1 = .ok (.iconst 0, 1) := by decide +kernel
theorem dX7_packet_2 : decode cX7_packet 2 = .ok (.iconst 3, 1) := by decide +kernel
theorem dX7_packet_3 : decode cX7_packet 3 = .ok (.invokestatic 52, 3) := by decide +kernel
theorem dX7_packet_6 : decode cX7_packet 6 = .ok (.ifCond .eq 19, 3) := by decide +kernel
theorem dX7_packet_9 : decode cX7_packet 9 = .ok (.iload_n 2, 1) := by decide +kernel
theorem dX7_packet_10 : decode cX7_packet 10 = .ok (.iconst 0, 1) := by decide +kernel
theorem dX7_packet_11 : decode cX7_packet 11 = .ok (.bipush 7, 2) := by decide +kernel
theorem dX7_packet_13 : decode cX7_packet 13 = .ok (.invokestatic 52, 3) := by decide +kernel
theorem dX7_packet_16 : decode cX7_packet 16 = .ok (.ifCond .eq 9, 3) := by decide +kernel
theorem dX7_packet_19 : decode cX7_packet 19 = .ok (.lload_n 3, 1) := by decide +kernel
theorem dX7_packet_20 : decode cX7_packet 20 = .ok (.lconst 0, 1) := by decide +kernel
theorem dX7_packet_21 : decode cX7_packet 21 = .ok (.lcmp, 1) := by decide +kernel
theorem dX7_packet_22 : decode cX7_packet 22 = .ok (.ifCond .ge 6, 3) := by decide +kernel
theorem dX7_packet_25 : decode cX7_packet 25 = .ok (.ldc 62, 2) := by decide +kernel
theorem dX7_packet_27 : decode cX7_packet 27 = .ok (.ireturn, 1) := by decide +kernel
theorem dX7_packet_28 : decode cX7_packet 28 = .ok (.aload_n 0, 1) := by decide +kernel
theorem dX7_packet_29 : decode cX7_packet 29 = .ok (.getfield 49, 3) := by decide +kernel
theorem dX7_packet_32 : decode cX7_packet 32 = .ok (.iconst 0, 1) := by decide +kernel
theorem dX7_packet_33 : decode cX7_packet 33 = .ok (.iload_n 1, 1) := by decide +kernel
theorem dX7_packet_34 : decode cX7_packet 34 = .ok (.invokestatic 56, 3) := by decide +kernel
theorem dX7_packet_37 : decode cX7_packet 37 = .ok (.iastore, 1) := by decide +kernel
theorem dX7_packet_38 : decode cX7_packet 38 = .ok (.aload_n 0, 1) := by decide +kernel
theorem dX7_packet_39 : decode cX7_packet 39 = .ok (.getfield 49, 3) := by decide +kernel
theorem dX7_packet_42 : decode cX7_packet 42 = .ok (.iconst 1, 1) := by decide +kernel
theorem dX7_packet_43 : decode cX7_packet 43 = .ok (.iload_n 2, 1) := by decide +kernel
theorem dX7_packet_44 : decode cX7_packet 44 = .ok (.invokestatic 56, 3) := by decide +kernel
theorem dX7_packet_47 : decode cX7_packet 47 = .ok (.iastore, 1) := by decide +kernel
theorem dX7_packet_48 : decode cX7_packet 48 = .ok (.iconst 2, 1) := by decide +kernel
theorem dX7_packet_49 : decode cX7_packet 49 = .ok (.istore 5, 2) := by decide +kernel
theorem dX7_packet_51 : decode cX7_packet 51 = .ok (.iload 5, 2) := by decide +kernel
theorem dX7_packet_53 : decode cX7_packet 53 = .ok (.bipush 10, 2) := by decide +kernel
theorem dX7_packet_55 : decode cX7_packet 55 = .ok (.if_icmp .ge 37, 3) := by decide +kernel
theorem dX7_packet_58 : decode cX7_packet 58 = .ok (.lload_n 3, 1) := by decide +kernel
theorem dX7_packet_59 : decode cX7_packet 59 = .ok (.iconst 4, 1) := by decide +kernel
theorem dX7_packet_60 : decode cX7_packet 60 = .ok (.bipush 9, 2) := by decide +kernel
theorem dX7_packet_62 : decode cX7_packet 62 = .ok (.iload 5, 2) := by decide +kernel
theorem dX7_packet_64 : decode cX7_packet 64 = .ok (.isub, 1) := by decide +kernel
theorem dX7_packet_65 : decode cX7_packet 65 = .ok (.imul, 1) := by decide +kernel
theorem dX7_packet_66 : decode cX7_packet 66 = .ok (.lushr, 1) := by decide +kernel
theorem dX7_packet_67 : decode cX7_packet 67 = .ok (.l2i, 1) := by decide +kernel
theorem dX7_packet_68 : decode cX7_packet 68 = .ok (.bipush 15, 2) := by decide +kernel
theorem dX7_packet_70 : decode cX7_packet 70 = .ok (.iand, 1) := by decide +kernel
theorem dX7_packet_71 : decode cX7_packet 71 = .ok (.istore 6, 2) := by decide +kernel
theorem dX7_packet_73 : decode cX7_packet 73 = .ok (.aload_n 0, 1) := by decide +kernel
theorem dX7_packet_74 : decode cX7_packet 74 = .ok (.getfield 49, 3) := by decide +kernel
theorem dX7_packet_77 : decode cX7_packet 77 = .ok (.iload 5, 2) := by decide +kernel
theorem dX7_packet_79 : decode cX7_packet 79 = .ok (.iload_n 2, 1) := by decide +kernel
theorem dX7_packet_80 : decode cX7_packet 80 = .ok (.iload 6, 2) := by decide +kernel
theorem dX7_packet_82 : decode cX7_packet 82 = .ok (.invokestatic 74, 3) := by decide +kernel
theorem dX7_packet_85 : decode cX7_packet 85 = .ok (.iastore, 1) := by decide +kernel
theorem dX7_packet_86 : decode cX7_packet 86 = .ok (.iinc 5 1, 3) := by decide +kernel
theorem dX7_packet_89 : decode cX7_packet 89 = .ok (.goto (-38), 3) := by decide +kernel
theorem dX7_packet_92 : decode cX7_packet 92 = .ok (.aload_n 0, 1) := by decide +kernel
theorem dX7_packet_93 : decode cX7_packet 93 = .ok (.aload_n 0, 1) := by decide +kernel
theorem dX7_packet_94 : decode cX7_packet 94 = .ok (.getfield 49, 3) := by decide +kernel
theorem dX7_packet_97 : decode cX7_packet 97 = .ok (.invokevirtual 70, 3) := by decide +kernel
theorem dX7_packet_100 : decode cX7_packet 100 = .ok (.ifCond .eq 7, 3) := by decide +kernel
theorem dX7_packet_103 : decode cX7_packet 103 = .ok (.iconst 1, 1) := by decide +kernel
theorem dX7_packet_104 : decode cX7_packet 104 = .ok (.goto 4, 3) := by decide +kernel
theorem dX7_packet_107 : decode cX7_packet 107 = .ok (.iconst 0, 1) := by decide +kernel
theorem dX7_packet_108 : decode cX7_packet 108 = .ok (.ireturn, 1) := by decide +kernel
set_option maxRecDepth 20000 in
theorem ggX7_told_X2_firstWrong : GoodIn wsX7_told wsX2_firstWrong := goodIn_r _ [16, 17, 18, 19, 20, 15, 21, 22, 23, 24, 25, 26, 27, 28, 29, 30, 31, 32, 33, 34, 35, 36, 37, 38, 39, 40, 41, 42, 43, 61, 62, 63, 64, 65, 53, 54, 55, 56, 57, 58, 59, 60] (by decide +kernel) (by decide +kernel)
set_option maxRecDepth 20000 in
theorem gX7_told_X2_firstWrong : GoodIn wsX7_told (wsV RX7 93 RX2 yX2_firstWrong wsX2_firstWrong) := goodIn_app (goodIn_of _ (by decide +kernel)) ggX7_told_X2_firstWrong
theorem dX7_told_0 : decode cX7_told 0 = .ok (.iload_n 1, 1) := by decide +kernel
theorem dX7_told_1 : decode cX7_told 1 = .ok (.tableswitch 112 0 7 #[47, 55, 63, 71, 79, 84, 92, 104], 47) := by decide +kernel
theorem dX7_told_48 : decode cX7_told 48 = .ok (.aload_n 0, 1) := by decide +kernel
theorem dX7_told_49 : decode cX7_told 49 = .ok (.getfield 10, 3) := by decide +kernel
theorem dX7_told_52 : decode cX7_told 52 = .ok (.getfield 78, 3) := by decide +kernel
theorem dX7_told_55 : decode cX7_told 55 = .ok (.ireturn, 1) := by decide +kernel
theorem dX7_told_56 : decode cX7_told 56 = .ok (.aload_n 0, 1) := by decide +kernel
theorem dX7_told_57 : decode cX7_told 57 = .ok (.getfield 10, 3) := by decide +kernel
theorem dX7_told_60 : decode cX7_told 60 = .ok (.getfield 81, 3) := by decide +kernel
theorem dX7_told_63 : decode cX7_told 63 = .ok (.ireturn, 1) := by decide +kernel
theorem dX7_told_64 : decode cX7_told 64 = .ok (.aload_n 0, 1) := by decide +kernel
theorem dX7_told_65 : decode cX7_told 65 = .ok (.getfield 10, 3) := by decide +kernel
theorem dX7_told_68 : decode cX7_told 68 = .ok (.getfield 84, 3) := by decide +kernel
theorem dX7_told_71 : decode cX7_told 71 = .ok (.ireturn, 1) := by decide +kernel
theorem dX7_told_72 : decode cX7_told 72 = .ok (.aload_n 0, 1) := by decide +kernel
theorem dX7_told_73 : decode cX7_told 73 = .ok (.getfield 10, 3) := by decide +kernel
theorem dX7_told_76 : decode cX7_told 76 = .ok (.getfield 87, 3) := by decide +kernel
theorem dX7_told_79 : decode cX7_told 79 = .ok (.ireturn, 1) := by decide +kernel
theorem dX7_told_80 : decode cX7_told 80 = .ok (.aload_n 0, 1) := by decide +kernel
theorem dX7_told_81 : decode cX7_told 81 = .ok (.getfield 66, 3) := by decide +kernel
theorem dX7_told_84 : decode cX7_told 84 = .ok (.ireturn, 1) := by decide +kernel
theorem dX7_told_85 : decode cX7_told 85 = .ok (.aload_n 0, 1) := by decide +kernel
theorem dX7_told_86 : decode cX7_told 86 = .ok (.getfield 34, 3) := by decide +kernel
theorem dX7_told_89 : decode cX7_told 89 = .ok (.getfield 90, 3) := by decide +kernel
theorem dX7_told_92 : decode cX7_told 92 = .ok (.ireturn, 1) := by decide +kernel
theorem dX7_told_93 : decode cX7_told 93 = .ok (.aload_n 0, 1) := by decide +kernel
theorem dX7_told_94 : decode cX7_told 94 = .ok (.getfield 34, 3) := by decide +kernel
theorem dX7_told_97 : decode cX7_told 97 = .ok (.aload_n 0, 1) := by decide +kernel
theorem dX7_told_98 : decode cX7_told 98 = .ok (.getfield 10, 3) := by decide +kernel
theorem dX7_told_101 : decode cX7_told 101 = .ok (.invokevirtual 93, 3) := by decide +kernel
theorem dX7_told_104 : decode cX7_told 104 = .ok (.ireturn, 1) := by decide +kernel
theorem dX7_told_105 : decode cX7_told 105 = .ok (.aload_n 0, 1) := by decide +kernel
theorem dX7_told_106 : decode cX7_told 106 = .ok (.getfield 19, 3) := by decide +kernel
theorem dX7_told_109 : decode cX7_told 109 = .ok (.getfield 97, 3) := by decide +kernel
theorem dX7_told_112 : decode cX7_told 112 = .ok (.ireturn, 1) := by decide +kernel
theorem dX7_told_113 : decode cX7_told 113 = .ok (.ldc 62, 2) := by decide +kernel
theorem dX7_told_115 : decode cX7_told 115 = .ok (.ireturn, 1) := by decide +kernel
set_option maxRecDepth 20000 in
theorem ggX7_open_X7_isWithin : GoodIn wsX7_open wsX7_isWithin := goodIn_r _ [7] (by decide +kernel) (by decide +kernel)
set_option maxRecDepth 20000 in
theorem gX7_open_X7_isWithin : GoodIn wsX7_open (va_wsS RX7 52 yX7_isWithin wsX7_isWithin) := goodIn_app (goodIn_of _ (by decide +kernel)) ggX7_open_X7_isWithin
theorem dX7_open_0 : decode cX7_open 0 = .ok (.iload_n 1, 1) := by decide +kernel
theorem dX7_open_1 : decode cX7_open 1 = .ok (.iconst 0, 1) := by decide +kernel
theorem dX7_open_2 : decode cX7_open 2 = .ok (.iconst 3, 1) := by decide +kernel
theorem dX7_open_3 : decode cX7_open 3 = .ok (.invokestatic 52, 3) := by decide +kernel
theorem dX7_open_6 : decode cX7_open 6 = .ok (.ifCond .eq 15, 3) := by decide +kernel
theorem dX7_open_9 : decode cX7_open 9 = .ok (.aload_n 0, 1) := by decide +kernel
theorem dX7_open_10 : decode cX7_open 10 = .ok (.getfield 10, 3) := by decide +kernel
theorem dX7_open_13 : decode cX7_open 13 = .ok (.getfield 100, 3) := by decide +kernel
theorem dX7_open_16 : decode cX7_open 16 = .ok (.iload_n 1, 1) := by decide +kernel
theorem dX7_open_17 : decode cX7_open 17 = .ok (.iaload, 1) := by decide +kernel
theorem dX7_open_18 : decode cX7_open 18 = .ok (.goto 5, 3) := by decide +kernel
theorem dX7_open_21 : decode cX7_open 21 = .ok (.ldc 103, 2) := by decide +kernel
theorem dX7_open_23 : decode cX7_open 23 = .ok (.ireturn, 1) := by decide +kernel
set_option maxRecDepth 20000 in
theorem ggX7_page_X5_has : GoodIn wsX7_page wsX5_has := goodIn_r _ [8, 9, 10, 11, 12, 71, 72, 73, 74, 75, 76, 77, 78] (by decide +kernel) (by decide +kernel)
set_option maxRecDepth 20000 in
theorem gX7_page_X5_has : GoodIn wsX7_page (wsV RX7 104 RX5 yX5_has wsX5_has) := goodIn_app (goodIn_of _ (by decide +kernel)) ggX7_page_X5_has
set_option maxRecDepth 20000 in
theorem ggX7_page_X5_get : GoodIn wsX7_page wsX5_get := goodIn_r _ [16, 17, 71, 72, 73, 74, 75, 76, 77, 78] (by decide +kernel) (by decide +kernel)
set_option maxRecDepth 20000 in
theorem gX7_page_X5_get : GoodIn wsX7_page (wsV RX7 108 RX5 yX5_get wsX5_get) := goodIn_app (goodIn_of _ (by decide +kernel)) ggX7_page_X5_get
set_option maxRecDepth 20000 in
theorem ggX7_page_X0_length : GoodIn wsX7_page wsX0_length := goodIn_r _ [21, 22, 23, 20, 24, 25, 26, 27, 28, 29, 30, 7, 31, 32, 14, 15, 16, 17, 33, 34, 35, 36, 37, 38, 39, 40, 41, 42, 43, 44, 45, 46, 71, 72, 73, 74, 75, 76, 77, 78] (by decide +kernel) (by decide +kernel)
set_option maxRecDepth 20000 in
theorem gX7_page_X0_length : GoodIn wsX7_page (va_wsS RX7 111 yX0_length wsX0_length) := goodIn_app (goodIn_of _ (by decide +kernel)) ggX7_page_X0_length
set_option maxRecDepth 20000 in
theorem ggX7_page_X0_lacks : GoodIn wsX7_page wsX0_lacks := goodIn_r _ [24, 25, 26, 20, 27, 28, 29, 30, 7, 31, 32, 14, 15, 16, 17, 71, 72, 73, 74, 75, 76, 77, 78] (by decide +kernel) (by decide +kernel)
set_option maxRecDepth 20000 in
theorem gX7_page_X0_lacks : GoodIn wsX7_page (va_wsS RX7 117 yX0_lacks wsX0_lacks) := goodIn_app (goodIn_of _ (by decide +kernel)) ggX7_page_X0_lacks
set_option maxRecDepth 20000 in
theorem ggX7_page_X0_sureOnes : GoodIn wsX7_page wsX0_sureOnes := goodIn_r _ [50, 28, 29, 30, 7, 31, 32, 14, 15, 16, 17, 51, 52, 53, 10, 11, 12, 71, 72, 73, 74, 75, 76, 77, 78] (by decide +kernel) (by decide +kernel)
set_option maxRecDepth 20000 in
theorem gX7_page_X0_sureOnes : GoodIn wsX7_page (va_wsS RX7 120 yX0_sureOnes wsX0_sureOnes) := goodIn_app (goodIn_of _ (by decide +kernel)) ggX7_page_X0_sureOnes
set_option maxRecDepth 20000 in
theorem ggX7_page_X0_linked : GoodIn wsX7_page wsX0_linked := goodIn_r _ [56, 57, 58, 59, 20, 60, 61, 14, 15, 7, 16, 17, 43, 44, 45, 46, 32, 71, 72, 73, 74, 75, 76, 77, 78] (by decide +kernel) (by decide +kernel)
set_option maxRecDepth 20000 in
theorem gX7_page_X0_linked : GoodIn wsX7_page (va_wsS RX7 123 yX0_linked wsX0_linked) := goodIn_app (goodIn_of _ (by decide +kernel)) ggX7_page_X0_linked
theorem dX7_page_0 : decode cX7_page 0 = .ok (.aload_n 0, 1) := by decide +kernel
theorem dX7_page_1 : decode cX7_page 1 = .ok (.getfield 10, 3) := by decide +kernel
theorem dX7_page_4 : decode cX7_page 4 = .ok (.iload_n 1, 1) := by decide +kernel
theorem dX7_page_5 : decode cX7_page 5 = .ok (.invokevirtual 104, 3) := by decide +kernel
theorem dX7_page_8 : decode cX7_page 8 = .ok (.ifCond .ne 6, 3) := by decide +kernel
theorem dX7_page_11 : decode cX7_page 11 = .ok (.ldc 103, 2) := by decide +kernel
theorem dX7_page_13 : decode cX7_page 13 = .ok (.ireturn, 1) := by decide +kernel
theorem dX7_page_14 : decode cX7_page 14 = .ok (.iload_n 2, 1) := by decide +kernel
theorem dX7_page_15 : decode cX7_page 15 = .ok (.tableswitch 135 0 8 #[49, 59, 69, 79, 89, 99, 108, 117, 126], 49) := by decide +kernel
theorem dX7_page_64 : decode cX7_page 64 = .ok (.aload_n 0, 1) := by decide +kernel
theorem dX7_page_65 : decode cX7_page 65 = .ok (.getfield 10, 3) := by decide +kernel
theorem dX7_page_68 : decode cX7_page 68 = .ok (.iload_n 1, 1) := by decide +kernel
theorem dX7_page_69 : decode cX7_page 69 = .ok (.iconst 0, 1) := by decide +kernel
theorem dX7_page_70 : decode cX7_page 70 = .ok (.invokevirtual 108, 3) := by decide +kernel
theorem dX7_page_73 : decode cX7_page 73 = .ok (.ireturn, 1) := by decide +kernel
theorem dX7_page_74 : decode cX7_page 74 = .ok (.aload_n 0, 1) := by decide +kernel
theorem dX7_page_75 : decode cX7_page 75 = .ok (.getfield 10, 3) := by decide +kernel
theorem dX7_page_78 : decode cX7_page 78 = .ok (.iload_n 1, 1) := by decide +kernel
theorem dX7_page_79 : decode cX7_page 79 = .ok (.iconst 1, 1) := by decide +kernel
theorem dX7_page_80 : decode cX7_page 80 = .ok (.invokevirtual 108, 3) := by decide +kernel
theorem dX7_page_83 : decode cX7_page 83 = .ok (.ireturn, 1) := by decide +kernel
theorem dX7_page_84 : decode cX7_page 84 = .ok (.aload_n 0, 1) := by decide +kernel
theorem dX7_page_85 : decode cX7_page 85 = .ok (.getfield 10, 3) := by decide +kernel
theorem dX7_page_88 : decode cX7_page 88 = .ok (.iload_n 1, 1) := by decide +kernel
theorem dX7_page_89 : decode cX7_page 89 = .ok (.iconst 2, 1) := by decide +kernel
theorem dX7_page_90 : decode cX7_page 90 = .ok (.invokevirtual 108, 3) := by decide +kernel
theorem dX7_page_93 : decode cX7_page 93 = .ok (.ireturn, 1) := by decide +kernel
theorem dX7_page_94 : decode cX7_page 94 = .ok (.aload_n 0, 1) := by decide +kernel
theorem dX7_page_95 : decode cX7_page 95 = .ok (.getfield 10, 3) := by decide +kernel
theorem dX7_page_98 : decode cX7_page 98 = .ok (.iload_n 1, 1) := by decide +kernel
theorem dX7_page_99 : decode cX7_page 99 = .ok (.iconst 3, 1) := by decide +kernel
theorem dX7_page_100 : decode cX7_page 100 = .ok (.invokevirtual 108, 3) := by decide +kernel
theorem dX7_page_103 : decode cX7_page 103 = .ok (.ireturn, 1) := by decide +kernel
theorem dX7_page_104 : decode cX7_page 104 = .ok (.aload_n 0, 1) := by decide +kernel
theorem dX7_page_105 : decode cX7_page 105 = .ok (.getfield 10, 3) := by decide +kernel
theorem dX7_page_108 : decode cX7_page 108 = .ok (.iload_n 1, 1) := by decide +kernel
theorem dX7_page_109 : decode cX7_page 109 = .ok (.iconst 4, 1) := by decide +kernel
theorem dX7_page_110 : decode cX7_page 110 = .ok (.invokevirtual 108, 3) := by decide +kernel
theorem dX7_page_113 : decode cX7_page 113 = .ok (.ireturn, 1) := by decide +kernel
theorem dX7_page_114 : decode cX7_page 114 = .ok (.aload_n 0, 1) := by decide +kernel
theorem dX7_page_115 : decode cX7_page 115 = .ok (.getfield 10, 3) := by decide +kernel
theorem dX7_page_118 : decode cX7_page 118 = .ok (.iload_n 1, 1) := by decide +kernel
theorem dX7_page_119 : decode cX7_page 119 = .ok (.invokestatic 111, 3) := by decide +kernel
theorem dX7_page_122 : decode cX7_page 122 = .ok (.ireturn, 1) := by decide +kernel
theorem dX7_page_123 : decode cX7_page 123 = .ok (.aload_n 0, 1) := by decide +kernel
theorem dX7_page_124 : decode cX7_page 124 = .ok (.getfield 10, 3) := by decide +kernel
theorem dX7_page_127 : decode cX7_page 127 = .ok (.iload_n 1, 1) := by decide +kernel
theorem dX7_page_128 : decode cX7_page 128 = .ok (.invokestatic 117, 3) := by decide +kernel
theorem dX7_page_131 : decode cX7_page 131 = .ok (.ireturn, 1) := by decide +kernel
theorem dX7_page_132 : decode cX7_page 132 = .ok (.aload_n 0, 1) := by decide +kernel
theorem dX7_page_133 : decode cX7_page 133 = .ok (.getfield 10, 3) := by decide +kernel
theorem dX7_page_136 : decode cX7_page 136 = .ok (.iload_n 1, 1) := by decide +kernel
theorem dX7_page_137 : decode cX7_page 137 = .ok (.invokestatic 120, 3) := by decide +kernel
theorem dX7_page_140 : decode cX7_page 140 = .ok (.ireturn, 1) := by decide +kernel
theorem dX7_page_141 : decode cX7_page 141 = .ok (.aload_n 0, 1) := by decide +kernel
theorem dX7_page_142 : decode cX7_page 142 = .ok (.getfield 10, 3) := by decide +kernel
theorem dX7_page_145 : decode cX7_page 145 = .ok (.iload_n 1, 1) := by decide +kernel
theorem dX7_page_146 : decode cX7_page 146 = .ok (.invokestatic 123, 3) := by decide +kernel
theorem dX7_page_149 : decode cX7_page 149 = .ok (.ireturn, 1) := by decide +kernel
theorem dX7_page_150 : decode cX7_page 150 = .ok (.ldc 62, 2) := by decide +kernel
theorem dX7_page_152 : decode cX7_page 152 = .ok (.ireturn, 1) := by decide +kernel
set_option maxRecDepth 20000 in
theorem ggX7_letter_X5_has : GoodIn wsX7_letter wsX5_has := goodIn_r _ [8, 9, 10, 11, 12, 35, 36, 37, 38, 39, 40, 41, 42] (by decide +kernel) (by decide +kernel)
set_option maxRecDepth 20000 in
theorem gX7_letter_X5_has : GoodIn wsX7_letter (wsV RX7 104 RX5 yX5_has wsX5_has) := goodIn_app (goodIn_of _ (by decide +kernel)) ggX7_letter_X5_has
set_option maxRecDepth 20000 in
theorem ggX7_letter_X7_isPlace : GoodIn wsX7_letter wsX7_isPlace := goodIn_r _ [15, 16, 10, 11, 12] (by decide +kernel) (by decide +kernel)
set_option maxRecDepth 20000 in
theorem gX7_letter_X7_isPlace : GoodIn wsX7_letter (va_wsS RX7 126 yX7_isPlace wsX7_isPlace) := goodIn_app (goodIn_of _ (by decide +kernel)) ggX7_letter_X7_isPlace
set_option maxRecDepth 20000 in
theorem ggX7_letter_X5_letterAt : GoodIn wsX7_letter wsX5_letterAt := goodIn_r _ [20, 21, 22, 23, 7, 24, 25, 35, 36, 37, 38, 39, 40, 41, 42] (by decide +kernel) (by decide +kernel)
set_option maxRecDepth 20000 in
theorem gX7_letter_X5_letterAt : GoodIn wsX7_letter (wsV RX7 130 RX5 yX5_letterAt wsX5_letterAt) := goodIn_app (goodIn_of _ (by decide +kernel)) ggX7_letter_X5_letterAt
theorem dX7_letter_0 : decode cX7_letter 0 = .ok (.aload_n 0, 1) := by decide +kernel
theorem dX7_letter_1 : decode cX7_letter 1 = .ok (.getfield 10, 3) := by decide +kernel
theorem dX7_letter_4 : decode cX7_letter 4 = .ok (.iload_n 1, 1) := by decide +kernel
theorem dX7_letter_5 : decode cX7_letter 5 = .ok (.invokevirtual 104, 3) := by decide +kernel
theorem dX7_letter_8 : decode cX7_letter 8 = .ok (.ifCond .ne 6, 3) := by decide +kernel
theorem dX7_letter_11 : decode cX7_letter 11 = .ok (.ldc 103, 2) := by decide +kernel
theorem dX7_letter_13 : decode cX7_letter 13 = .ok (.ireturn, 1) := by decide +kernel
theorem dX7_letter_14 : decode cX7_letter 14 = .ok (.iload_n 2, 1) := by decide +kernel
theorem dX7_letter_15 : decode cX7_letter 15 = .ok (.iload_n 3, 1) := by decide +kernel
theorem dX7_letter_16 : decode cX7_letter 16 = .ok (.invokestatic 126, 3) := by decide +kernel
theorem dX7_letter_19 : decode cX7_letter 19 = .ok (.ifCond .eq 16, 3) := by decide +kernel
theorem dX7_letter_22 : decode cX7_letter 22 = .ok (.aload_n 0, 1) := by decide +kernel
theorem dX7_letter_23 : decode cX7_letter 23 = .ok (.getfield 10, 3) := by decide +kernel
theorem dX7_letter_26 : decode cX7_letter 26 = .ok (.iload_n 1, 1) := by decide +kernel
theorem dX7_letter_27 : decode cX7_letter 27 = .ok (.iload_n 2, 1) := by decide +kernel
theorem dX7_letter_28 : decode cX7_letter 28 = .ok (.iload_n 3, 1) := by decide +kernel
theorem dX7_letter_29 : decode cX7_letter 29 = .ok (.invokevirtual 130, 3) := by decide +kernel
theorem dX7_letter_32 : decode cX7_letter 32 = .ok (.goto 5, 3) := by decide +kernel
theorem dX7_letter_35 : decode cX7_letter 35 = .ok (.ldc 62, 2) := by decide +kernel
theorem dX7_letter_37 : decode cX7_letter 37 = .ok (.ireturn, 1) := by decide +kernel
set_option maxRecDepth 20000 in
theorem ggX7_link_X5_has : GoodIn wsX7_link wsX5_has := goodIn_r _ [8, 9, 10, 11, 12, 32, 33, 34, 35, 36, 37, 38, 39] (by decide +kernel) (by decide +kernel)
set_option maxRecDepth 20000 in
theorem gX7_link_X5_has : GoodIn wsX7_link (wsV RX7 104 RX5 yX5_has wsX5_has) := goodIn_app (goodIn_of _ (by decide +kernel)) ggX7_link_X5_has
set_option maxRecDepth 20000 in
theorem ggX7_link_X7_isWithin : GoodIn wsX7_link wsX7_isWithin := goodIn_r _ [12] (by decide +kernel) (by decide +kernel)
set_option maxRecDepth 20000 in
theorem gX7_link_X7_isWithin : GoodIn wsX7_link (va_wsS RX7 52 yX7_isWithin wsX7_isWithin) := goodIn_app (goodIn_of _ (by decide +kernel)) ggX7_link_X7_isWithin
set_option maxRecDepth 20000 in
theorem ggX7_link_X5_linkAt : GoodIn wsX7_link wsX5_linkAt := goodIn_r _ [17, 18, 19, 20, 7, 21, 22, 32, 33, 34, 35, 36, 37, 38, 39] (by decide +kernel) (by decide +kernel)
set_option maxRecDepth 20000 in
theorem gX7_link_X5_linkAt : GoodIn wsX7_link (wsV RX7 134 RX5 yX5_linkAt wsX5_linkAt) := goodIn_app (goodIn_of _ (by decide +kernel)) ggX7_link_X5_linkAt
theorem dX7_link_0 : decode cX7_link 0 = .ok (.aload_n 0, 1) := by decide +kernel
theorem dX7_link_1 : decode cX7_link 1 = .ok (.getfield 10, 3) := by decide +kernel
theorem dX7_link_4 : decode cX7_link 4 = .ok (.iload_n 1, 1) := by decide +kernel
theorem dX7_link_5 : decode cX7_link 5 = .ok (.invokevirtual 104, 3) := by decide +kernel
theorem dX7_link_8 : decode cX7_link 8 = .ok (.ifCond .ne 6, 3) := by decide +kernel
theorem dX7_link_11 : decode cX7_link 11 = .ok (.ldc 103, 2) := by decide +kernel
theorem dX7_link_13 : decode cX7_link 13 = .ok (.ireturn, 1) := by decide +kernel
theorem dX7_link_14 : decode cX7_link 14 = .ok (.iload_n 2, 1) := by decide +kernel
theorem dX7_link_15 : decode cX7_link 15 = .ok (.iconst 0, 1) := by decide +kernel
theorem dX7_link_16 : decode cX7_link 16 = .ok (.iconst 3, 1) := by decide +kernel
theorem dX7_link_17 : decode cX7_link 17 = .ok (.invokestatic 52, 3) := by decide +kernel
theorem dX7_link_20 : decode cX7_link 20 = .ok (.ifCond .eq 15, 3) := by decide +kernel
theorem dX7_link_23 : decode cX7_link 23 = .ok (.aload_n 0, 1) := by decide +kernel
theorem dX7_link_24 : decode cX7_link 24 = .ok (.getfield 10, 3) := by decide +kernel
theorem dX7_link_27 : decode cX7_link 27 = .ok (.iload_n 1, 1) := by decide +kernel
theorem dX7_link_28 : decode cX7_link 28 = .ok (.iload_n 2, 1) := by decide +kernel
theorem dX7_link_29 : decode cX7_link 29 = .ok (.invokevirtual 134, 3) := by decide +kernel
theorem dX7_link_32 : decode cX7_link 32 = .ok (.goto 5, 3) := by decide +kernel
theorem dX7_link_35 : decode cX7_link 35 = .ok (.ldc 62, 2) := by decide +kernel
theorem dX7_link_37 : decode cX7_link 37 = .ok (.ireturn, 1) := by decide +kernel
set_option maxRecDepth 20000 in
theorem ggX7_far_X5_has : GoodIn wsX7_far wsX5_has := goodIn_r _ [7, 8, 9, 10, 11, 45, 46, 47, 48, 49, 50, 51, 52] (by decide +kernel) (by decide +kernel)
set_option maxRecDepth 20000 in
theorem gX7_far_X5_has : GoodIn wsX7_far (wsV RX7 104 RX5 yX5_has wsX5_has) := goodIn_app (goodIn_of _ (by decide +kernel)) ggX7_far_X5_has
set_option maxRecDepth 20000 in
theorem ggX7_far_X0_steps : GoodIn wsX7_far wsX0_steps := goodIn_r _ [15, 16, 17, 14, 18, 19, 20, 21, 22, 23, 24, 25, 26, 27, 28, 6, 29, 30, 31, 32, 33, 34, 35, 45, 46, 47, 48, 49, 50, 51, 52] (by decide +kernel) (by decide +kernel)
set_option maxRecDepth 20000 in
theorem gX7_far_X0_steps : GoodIn wsX7_far (va_wsS RX7 137 yX0_steps wsX0_steps) := goodIn_app (goodIn_of _ (by decide +kernel)) ggX7_far_X0_steps
theorem dX7_far_0 : decode cX7_far 0 = .ok (.aload_n 0, 1) := by decide +kernel
theorem dX7_far_1 : decode cX7_far 1 = .ok (.getfield 10, 3) := by decide +kernel
theorem dX7_far_4 : decode cX7_far 4 = .ok (.iload_n 1, 1) := by decide +kernel
theorem dX7_far_5 : decode cX7_far 5 = .ok (.invokevirtual 104, 3) := by decide +kernel
theorem dX7_far_8 : decode cX7_far 8 = .ok (.ifCond .eq 26, 3) := by decide +kernel
theorem dX7_far_11 : decode cX7_far 11 = .ok (.aload_n 0, 1) := by decide +kernel
theorem dX7_far_12 : decode cX7_far 12 = .ok (.getfield 10, 3) := by decide +kernel
theorem dX7_far_15 : decode cX7_far 15 = .ok (.iload_n 2, 1) := by decide +kernel
theorem dX7_far_16 : decode cX7_far 16 = .ok (.invokevirtual 104, 3) := by decide +kernel
theorem dX7_far_19 : decode cX7_far 19 = .ok (.ifCond .eq 15, 3) := by decide +kernel
theorem dX7_far_22 : decode cX7_far 22 = .ok (.aload_n 0, 1) := by decide +kernel
theorem dX7_far_23 : decode cX7_far 23 = .ok (.getfield 10, 3) := by decide +kernel
theorem dX7_far_26 : decode cX7_far 26 = .ok (.iload_n 1, 1) := by decide +kernel
theorem dX7_far_27 : decode cX7_far 27 = .ok (.iload_n 2, 1) := by decide +kernel
theorem dX7_far_28 : decode cX7_far 28 = .ok (.invokestatic 137, 3) := by decide +kernel
theorem dX7_far_31 : decode cX7_far 31 = .ok (.goto 5, 3) := by decide +kernel
theorem dX7_far_34 : decode cX7_far 34 = .ok (.ldc 103, 2) := by decide +kernel
theorem dX7_far_36 : decode cX7_far 36 = .ok (.ireturn, 1) := by decide +kernel
set_option maxRecDepth 20000 in
theorem ggX7_find_X5_search : GoodIn wsX7_find wsX5_search := goodIn_r _ [6, 7, 8, 9, 10, 5, 11, 12, 22, 23, 24, 25, 26, 27, 28, 29] (by decide +kernel) (by decide +kernel)
set_option maxRecDepth 20000 in
theorem gX7_find_X5_search : GoodIn wsX7_find (wsV RX7 141 RX5 yX5_search wsX5_search) := goodIn_app (goodIn_of _ (by decide +kernel)) ggX7_find_X5_search
theorem dX7_find_0 : decode cX7_find 0 = .ok (.aload_n 0, 1) := by decide +kernel
theorem dX7_find_1 : decode cX7_find 1 = .ok (.getfield 10, 3) := by decide +kernel
theorem dX7_find_4 : decode cX7_find 4 = .ok (.iload_n 1, 1) := by decide +kernel
theorem dX7_find_5 : decode cX7_find 5 = .ok (.iload_n 2, 1) := by decide +kernel
theorem dX7_find_6 : decode cX7_find 6 = .ok (.iload_n 3, 1) := by decide +kernel
theorem dX7_find_7 : decode cX7_find 7 = .ok (.invokevirtual 141, 3) := by decide +kernel
theorem dX7_find_10 : decode cX7_find 10 = .ok (.ireturn, 1) := by decide +kernel
set_option maxRecDepth 20000 in
theorem ggX7_weight_X5_has : GoodIn wsX7_weight wsX5_has := goodIn_r _ [9, 10, 11, 12, 13, 58, 59, 60, 61, 62, 63, 64, 65] (by decide +kernel) (by decide +kernel)
set_option maxRecDepth 20000 in
theorem gX7_weight_X5_has : GoodIn wsX7_weight (wsV RX7 104 RX5 yX5_has wsX5_has) := goodIn_app (goodIn_of _ (by decide +kernel)) ggX7_weight_X5_has
set_option maxRecDepth 20000 in
theorem ggX7_weight_X7_isWithin : GoodIn wsX7_weight wsX7_isWithin := goodIn_r _ [13] (by decide +kernel) (by decide +kernel)
set_option maxRecDepth 20000 in
theorem gX7_weight_X7_isWithin : GoodIn wsX7_weight (va_wsS RX7 52 yX7_isWithin wsX7_isWithin) := goodIn_app (goodIn_of _ (by decide +kernel)) ggX7_weight_X7_isWithin
set_option maxRecDepth 20000 in
theorem ggX7_weight_X6_remember : GoodIn wsX7_weight wsX6_remember := goodIn_r _ [19, 20, 21, 22, 23, 24, 25, 26, 27, 28, 29, 8, 30, 31, 10, 32, 33, 34, 35, 36, 37, 38, 39, 40, 66, 67, 68, 58, 59, 60, 61, 62, 63, 64, 65] (by decide +kernel) (by decide +kernel)
set_option maxRecDepth 20000 in
theorem gX7_weight_X6_remember : GoodIn wsX7_weight (wsV RX7 144 RX6 yX6_remember wsX6_remember) := goodIn_app (goodIn_of _ (by decide +kernel)) ggX7_weight_X6_remember
set_option maxRecDepth 20000 in
theorem ggX7_weight_X5_get : GoodIn wsX7_weight wsX5_get := goodIn_r _ [44, 31, 58, 59, 60, 61, 62, 63, 64, 65] (by decide +kernel) (by decide +kernel)
set_option maxRecDepth 20000 in
theorem gX7_weight_X5_get : GoodIn wsX7_weight (wsV RX7 108 RX5 yX5_get wsX5_get) := goodIn_app (goodIn_of _ (by decide +kernel)) ggX7_weight_X5_get
set_option maxRecDepth 20000 in
theorem ggX7_weight_X5_set : GoodIn wsX7_weight wsX5_set := goodIn_r _ [48, 31, 58, 59, 60, 61, 62, 63, 64, 65] (by decide +kernel) (by decide +kernel)
set_option maxRecDepth 20000 in
theorem gX7_weight_X5_set : GoodIn wsX7_weight (wsV RX7 148 RX5 yX5_set wsX5_set) := goodIn_app (goodIn_of _ (by decide +kernel)) ggX7_weight_X5_set
theorem dX7_weight_0 : decode cX7_weight 0 = .ok (.aload_n 0, 1) := by decide +kernel
theorem dX7_weight_1 : decode cX7_weight 1 = .ok (.getfield 10, 3) := by decide +kernel
theorem dX7_weight_4 : decode cX7_weight 4 = .ok (.iload_n 1, 1) := by decide +kernel
theorem dX7_weight_5 : decode cX7_weight 5 = .ok (.invokevirtual 104, 3) := by decide +kernel
theorem dX7_weight_8 : decode cX7_weight 8 = .ok (.ifCond .ne 6, 3) := by decide +kernel
theorem dX7_weight_11 : decode cX7_weight 11 = .ok (.ldc 103, 2) := by decide +kernel
theorem dX7_weight_13 : decode cX7_weight 13 = .ok (.ireturn, 1) := by decide +kernel
theorem dX7_weight_14 : decode cX7_weight 14 = .ok (.iload_n 2, 1) := by decide +kernel
theorem dX7_weight_15 : decode cX7_weight 15 = .ok (.iconst 1, 1) := by decide +kernel
theorem dX7_weight_16 : decode cX7_weight 16 = .ok (.bipush 9, 2) := by decide +kernel
theorem dX7_weight_18 : decode cX7_weight 18 = .ok (.invokestatic 52, 3) := by decide +kernel
theorem dX7_weight_21 : decode cX7_weight 21 = .ok (.ifCond .ne 6, 3) := by decide +kernel
theorem dX7_weight_24 : decode cX7_weight 24 = .ok (.ldc 62, 2) := by decide +kernel
theorem dX7_weight_26 : decode cX7_weight 26 = .ok (.ireturn, 1) := by decide +kernel
theorem dX7_weight_27 : decode cX7_weight 27 = .ok (.aload_n 0, 1) := by decide +kernel
theorem dX7_weight_28 : decode cX7_weight 28 = .ok (.getfield 19, 3) := by decide +kernel
theorem dX7_weight_31 : decode cX7_weight 31 = .ok (.aload_n 0, 1) := by decide +kernel
theorem dX7_weight_32 : decode cX7_weight 32 = .ok (.getfield 10, 3) := by decide +kernel
theorem dX7_weight_35 : decode cX7_weight 35 = .ok (.invokevirtual 144, 3) := by decide +kernel
theorem dX7_weight_38 : decode cX7_weight 38 = .ok (.aload_n 0, 1) := by decide +kernel
theorem dX7_weight_39 : decode cX7_weight 39 = .ok (.getfield 10, 3) := by decide +kernel
theorem dX7_weight_42 : decode cX7_weight 42 = .ok (.iload_n 1, 1) := by decide +kernel
theorem dX7_weight_43 : decode cX7_weight 43 = .ok (.iconst 4, 1) := by decide +kernel
theorem dX7_weight_44 : decode cX7_weight 44 = .ok (.invokevirtual 108, 3) := by decide +kernel
theorem dX7_weight_47 : decode cX7_weight 47 = .ok (.istore_n 3, 1) := by decide +kernel
theorem dX7_weight_48 : decode cX7_weight 48 = .ok (.aload_n 0, 1) := by decide +kernel
theorem dX7_weight_49 : decode cX7_weight 49 = .ok (.getfield 10, 3) := by decide +kernel
theorem dX7_weight_52 : decode cX7_weight 52 = .ok (.iload_n 1, 1) := by decide +kernel
theorem dX7_weight_53 : decode cX7_weight 53 = .ok (.iconst 4, 1) := by decide +kernel
theorem dX7_weight_54 : decode cX7_weight 54 = .ok (.iload_n 2, 1) := by decide +kernel
theorem dX7_weight_55 : decode cX7_weight 55 = .ok (.invokevirtual 148, 3) := by decide +kernel
theorem dX7_weight_58 : decode cX7_weight 58 = .ok (.iload_n 3, 1) := by decide +kernel
theorem dX7_weight_59 : decode cX7_weight 59 = .ok (.ireturn, 1) := by decide +kernel
set_option maxRecDepth 20000 in
theorem ggX7_drop_X5_has : GoodIn wsX7_drop wsX5_has := goodIn_r _ [9, 10, 11, 12, 13, 53, 54, 55, 56, 57, 58, 59, 60] (by decide +kernel) (by decide +kernel)
set_option maxRecDepth 20000 in
theorem gX7_drop_X5_has : GoodIn wsX7_drop (wsV RX7 104 RX5 yX5_has wsX5_has) := goodIn_app (goodIn_of _ (by decide +kernel)) ggX7_drop_X5_has
set_option maxRecDepth 20000 in
theorem ggX7_drop_X6_remember : GoodIn wsX7_drop wsX6_remember := goodIn_r _ [18, 19, 20, 21, 22, 23, 24, 25, 26, 27, 28, 8, 29, 30, 10, 31, 32, 33, 34, 35, 36, 37, 38, 39, 61, 62, 63, 53, 54, 55, 56, 57, 58, 59, 60] (by decide +kernel) (by decide +kernel)
set_option maxRecDepth 20000 in
theorem gX7_drop_X6_remember : GoodIn wsX7_drop (wsV RX7 144 RX6 yX6_remember wsX6_remember) := goodIn_app (goodIn_of _ (by decide +kernel)) ggX7_drop_X6_remember
set_option maxRecDepth 20000 in
theorem ggX7_drop_X5_remove : GoodIn wsX7_drop wsX5_remove := goodIn_r _ [43, 30, 10, 31, 32, 33, 34, 35, 53, 54, 55, 56, 57, 58, 59, 60] (by decide +kernel) (by decide +kernel)
set_option maxRecDepth 20000 in
theorem gX7_drop_X5_remove : GoodIn wsX7_drop (wsV RX7 152 RX5 yX5_remove wsX5_remove) := goodIn_app (goodIn_of _ (by decide +kernel)) ggX7_drop_X5_remove
theorem dX7_drop_0 : decode cX7_drop 0 = .ok (.aload_n 0, 1) := by decide +kernel
theorem dX7_drop_1 : decode cX7_drop 1 = .ok (.getfield 10, 3) := by decide +kernel
theorem dX7_drop_4 : decode cX7_drop 4 = .ok (.iload_n 1, 1) := by decide +kernel
theorem dX7_drop_5 : decode cX7_drop 5 = .ok (.invokevirtual 104, 3) := by decide +kernel
theorem dX7_drop_8 : decode cX7_drop 8 = .ok (.ifCond .ne 6, 3) := by decide +kernel
theorem dX7_drop_11 : decode cX7_drop 11 = .ok (.ldc 103, 2) := by decide +kernel
theorem dX7_drop_13 : decode cX7_drop 13 = .ok (.ireturn, 1) := by decide +kernel
theorem dX7_drop_14 : decode cX7_drop 14 = .ok (.aload_n 0, 1) := by decide +kernel
theorem dX7_drop_15 : decode cX7_drop 15 = .ok (.getfield 19, 3) := by decide +kernel
theorem dX7_drop_18 : decode cX7_drop 18 = .ok (.aload_n 0, 1) := by decide +kernel
theorem dX7_drop_19 : decode cX7_drop 19 = .ok (.getfield 10, 3) := by decide +kernel
theorem dX7_drop_22 : decode cX7_drop 22 = .ok (.invokevirtual 144, 3) := by decide +kernel
theorem dX7_drop_25 : decode cX7_drop 25 = .ok (.aload_n 0, 1) := by decide +kernel
theorem dX7_drop_26 : decode cX7_drop 26 = .ok (.getfield 10, 3) := by decide +kernel
theorem dX7_drop_29 : decode cX7_drop 29 = .ok (.iload_n 1, 1) := by decide +kernel
theorem dX7_drop_30 : decode cX7_drop 30 = .ok (.invokevirtual 152, 3) := by decide +kernel
theorem dX7_drop_33 : decode cX7_drop 33 = .ok (.aload_n 0, 1) := by decide +kernel
theorem dX7_drop_34 : decode cX7_drop 34 = .ok (.getfield 10, 3) := by decide +kernel
theorem dX7_drop_37 : decode cX7_drop 37 = .ok (.getfield 78, 3) := by decide +kernel
theorem dX7_drop_40 : decode cX7_drop 40 = .ok (.ireturn, 1) := by decide +kernel
set_option maxRecDepth 20000 in
theorem ggX7_drift_X7_isWithin : GoodIn wsX7_drift wsX7_isWithin := goodIn_r _ [8] (by decide +kernel) (by decide +kernel)
set_option maxRecDepth 20000 in
theorem gX7_drift_X7_isWithin : GoodIn wsX7_drift (va_wsS RX7 52 yX7_isWithin wsX7_isWithin) := goodIn_app (goodIn_of _ (by decide +kernel)) ggX7_drift_X7_isWithin
set_option maxRecDepth 20000 in
theorem ggX7_drift_X7_drawPacket : GoodIn wsX7_drift wsX7_drawPacket := goodIn_r _ [12, 3, 2, 13, 14, 15, 16, 17, 18, 19, 20, 21, 22, 23, 24, 25, 26, 27, 28, 29, 7, 30, 31, 32, 33, 34, 35, 36, 37, 38, 39, 40, 41, 42, 43, 162, 163, 164, 165, 166, 167, 168, 169, 170, 171, 172, 173, 174, 175, 176, 177, 178] (by decide +kernel) (by decide +kernel)
set_option maxRecDepth 20000 in
theorem gX7_drift_X7_drawPacket : GoodIn wsX7_drift (wsV RX7 156 RX7 yX7_drawPacket wsX7_drawPacket) := goodIn_app (goodIn_of _ (by decide +kernel)) ggX7_drift_X7_drawPacket
set_option maxRecDepth 20000 in
theorem ggX7_drift_X7_comes : GoodIn wsX7_drift wsX7_comes := goodIn_r _ [47, 48, 3, 49, 50, 51, 52, 53, 54, 55, 56, 57, 58, 59, 60, 61, 62, 63, 64, 65, 16, 66, 67, 68, 69, 70, 71, 72, 73, 74, 75, 76, 77, 78, 79, 80, 81, 82, 83, 84, 85, 86, 87, 88, 89, 25, 90, 27, 37, 38, 39, 40, 41, 42, 43, 91, 24, 26, 92, 6, 7, 8, 93, 94, 95, 96, 97, 98, 99, 100, 101, 102, 103, 104, 105, 106, 107, 108, 109, 110, 111, 112, 113, 114, 115, 116, 117, 118, 119, 120, 121, 122, 123, 124, 125, 126, 127, 128, 129, 130, 131, 132, 133, 134, 135, 136, 137, 138, 139, 140, 141, 142, 143, 144, 145, 146, 147, 148, 149, 150, 151, 152, 153, 154, 155, 156, 157, 158, 35, 36, 159, 160, 161, 162, 163, 164, 165, 166, 167, 168, 169, 170, 171, 172, 173, 174, 175, 176, 177, 178, 179, 180, 181] (by decide +kernel) (by decide +kernel)
set_option maxRecDepth 20000 in
theorem gX7_drift_X7_comes : GoodIn wsX7_drift (wsV RX7 70 RX7 yX7_comes wsX7_comes) := goodIn_app (goodIn_of _ (by decide +kernel)) ggX7_drift_X7_comes
theorem dX7_drift_0 : decode cX7_drift 0 = .ok (.iload_n 1, 1) := by decide +kernel
theorem dX7_drift_1 : decode cX7_drift 1 = .ok (.iconst 1, 1) := by decide +kernel
theorem dX7_drift_2 : decode cX7_drift 2 = .ok (.bipush 16, 2) := by decide +kernel
theorem dX7_drift_4 : decode cX7_drift 4 = .ok (.invokestatic 52, 3) := by decide +kernel
theorem dX7_drift_7 : decode cX7_drift 7 = .ok (.ifCond .ne 6, 3) := by decide +kernel
theorem dX7_drift_10 : decode cX7_drift 10 = .ok (.ldc 62, 2) := by decide +kernel
theorem dX7_drift_12 : decode cX7_drift 12 = .ok (.ireturn, 1) := by decide +kernel
theorem dX7_drift_13 : decode cX7_drift 13 = .ok (.iconst 0, 1) := by decide +kernel
theorem dX7_drift_14 : decode cX7_drift 14 = .ok (.istore_n 2, 1) := by decide +kernel
theorem dX7_drift_15 : decode cX7_drift 15 = .ok (.iload_n 2, 1) := by decide +kernel
theorem dX7_drift_16 : decode cX7_drift 16 = .ok (.iload_n 1, 1) := by decide +kernel
theorem dX7_drift_17 : decode cX7_drift 17 = .ok (.if_icmp .ge 22, 3) := by decide +kernel
theorem dX7_drift_20 : decode cX7_drift 20 = .ok (.aload_n 0, 1) := by decide +kernel
theorem dX7_drift_21 : decode cX7_drift 21 = .ok (.invokevirtual 156, 3) := by decide +kernel
theorem dX7_drift_24 : decode cX7_drift 24 = .ok (.aload_n 0, 1) := by decide +kernel
theorem dX7_drift_25 : decode cX7_drift 25 = .ok (.aload_n 0, 1) := by decide +kernel
theorem dX7_drift_26 : decode cX7_drift 26 = .ok (.getfield 49, 3) := by decide +kernel
theorem dX7_drift_29 : decode cX7_drift 29 = .ok (.invokevirtual 70, 3) := by decide +kernel
theorem dX7_drift_32 : decode cX7_drift 32 = .ok (.pop, 1) := by decide +kernel
theorem dX7_drift_33 : decode cX7_drift 33 = .ok (.iinc 2 1, 3) := by decide +kernel
theorem dX7_drift_36 : decode cX7_drift 36 = .ok (.goto (-21), 3) := by decide +kernel
theorem dX7_drift_39 : decode cX7_drift 39 = .ok (.aload_n 0, 1) := by decide +kernel
theorem dX7_drift_40 : decode cX7_drift 40 = .ok (.getfield 10, 3) := by decide +kernel
theorem dX7_drift_43 : decode cX7_drift 43 = .ok (.getfield 78, 3) := by decide +kernel
theorem dX7_drift_46 : decode cX7_drift 46 = .ok (.ireturn, 1) := by decide +kernel
set_option maxRecDepth 20000 in
theorem ggX7_undo_X7_isWithin : GoodIn wsX7_undo wsX7_isWithin := goodIn_r _ [10] (by decide +kernel) (by decide +kernel)
set_option maxRecDepth 20000 in
theorem gX7_undo_X7_isWithin : GoodIn wsX7_undo (va_wsS RX7 52 yX7_isWithin wsX7_isWithin) := goodIn_app (goodIn_of _ (by decide +kernel)) ggX7_undo_X7_isWithin
set_option maxRecDepth 20000 in
theorem ggX7_undo_X6_takeBack : GoodIn wsX7_undo wsX6_takeBack := goodIn_r _ [15, 16, 17, 18, 19, 20, 21, 22, 23, 24, 25, 26, 27, 28, 29, 30, 31, 32, 33, 34, 35, 36, 37, 38, 48, 49, 50, 51, 52, 53, 54, 55, 56, 57, 58] (by decide +kernel) (by decide +kernel)
set_option maxRecDepth 20000 in
theorem gX7_undo_X6_takeBack : GoodIn wsX7_undo (wsV RX7 160 RX6 yX6_takeBack wsX6_takeBack) := goodIn_app (goodIn_of _ (by decide +kernel)) ggX7_undo_X6_takeBack
theorem dX7_undo_0 : decode cX7_undo 0 = .ok (.iload_n 1, 1) := by decide +kernel
theorem dX7_undo_1 : decode cX7_undo 1 = .ok (.iconst 1, 1) := by decide +kernel
theorem dX7_undo_2 : decode cX7_undo 2 = .ok (.bipush 16, 2) := by decide +kernel
theorem dX7_undo_4 : decode cX7_undo 4 = .ok (.invokestatic 52, 3) := by decide +kernel
theorem dX7_undo_7 : decode cX7_undo 7 = .ok (.ifCond .ne 6, 3) := by decide +kernel
theorem dX7_undo_10 : decode cX7_undo 10 = .ok (.ldc 62, 2) := by decide +kernel
theorem dX7_undo_12 : decode cX7_undo 12 = .ok (.ireturn, 1) := by decide +kernel
theorem dX7_undo_13 : decode cX7_undo 13 = .ok (.iload_n 1, 1) := by decide +kernel
theorem dX7_undo_14 : decode cX7_undo 14 = .ok (.aload_n 0, 1) := by decide +kernel
theorem dX7_undo_15 : decode cX7_undo 15 = .ok (.getfield 19, 3) := by decide +kernel
theorem dX7_undo_18 : decode cX7_undo 18 = .ok (.getfield 97, 3) := by decide +kernel
theorem dX7_undo_21 : decode cX7_undo 21 = .ok (.if_icmp .le 6, 3) := by decide +kernel
theorem dX7_undo_24 : decode cX7_undo 24 = .ok (.ldc 159, 2) := by decide +kernel
theorem dX7_undo_26 : decode cX7_undo 26 = .ok (.ireturn, 1) := by decide +kernel
theorem dX7_undo_27 : decode cX7_undo 27 = .ok (.aload_n 0, 1) := by decide +kernel
theorem dX7_undo_28 : decode cX7_undo 28 = .ok (.getfield 19, 3) := by decide +kernel
theorem dX7_undo_31 : decode cX7_undo 31 = .ok (.aload_n 0, 1) := by decide +kernel
theorem dX7_undo_32 : decode cX7_undo 32 = .ok (.getfield 10, 3) := by decide +kernel
theorem dX7_undo_35 : decode cX7_undo 35 = .ok (.iload_n 1, 1) := by decide +kernel
theorem dX7_undo_36 : decode cX7_undo 36 = .ok (.invokevirtual 160, 3) := by decide +kernel
theorem dX7_undo_39 : decode cX7_undo 39 = .ok (.aload_n 0, 1) := by decide +kernel
theorem dX7_undo_40 : decode cX7_undo 40 = .ok (.getfield 10, 3) := by decide +kernel
theorem dX7_undo_43 : decode cX7_undo 43 = .ok (.getfield 81, 3) := by decide +kernel
theorem dX7_undo_46 : decode cX7_undo 46 = .ok (.ireturn, 1) := by decide +kernel
set_option maxRecDepth 20000 in
theorem ggX7_sent_X7_isWithin : GoodIn wsX7_sent wsX7_isWithin := goodIn_r _ [7] (by decide +kernel) (by decide +kernel)
set_option maxRecDepth 20000 in
theorem gX7_sent_X7_isWithin : GoodIn wsX7_sent (va_wsS RX7 52 yX7_isWithin wsX7_isWithin) := goodIn_app (goodIn_of _ (by decide +kernel)) ggX7_sent_X7_isWithin
set_option maxRecDepth 20000 in
theorem ggX7_sent_X4_prepare : GoodIn wsX7_sent wsX4_prepare := goodIn_r _ [12, 13, 14, 15, 16, 17, 18, 19, 20, 21, 22, 23, 24, 25, 26, 27, 28, 29, 30, 31, 32, 33, 34, 35, 36, 37, 38, 39, 40, 41, 42, 43, 44, 45, 46, 47, 48, 49, 50, 51, 97, 98, 99, 100, 101, 102, 103, 104, 105, 106, 107, 108, 109, 110, 111] (by decide +kernel) (by decide +kernel)
set_option maxRecDepth 20000 in
theorem gX7_sent_X4_prepare : GoodIn wsX7_sent (wsV RX7 164 RX4 yX4_prepare wsX4_prepare) := goodIn_app (goodIn_of _ (by decide +kernel)) ggX7_sent_X4_prepare
set_option maxRecDepth 20000 in
theorem ggX7_sent_X4_run : GoodIn wsX7_sent wsX4_run := goodIn_r _ [55, 56, 57, 58, 59, 14, 15, 60, 61, 62, 63, 64, 65, 66, 11, 67, 68, 69, 70, 71, 16, 72, 73, 74, 75, 76, 77, 78, 79, 80, 81, 82, 83, 84, 85, 86, 87, 105, 106, 107, 108, 109, 110, 111] (by decide +kernel) (by decide +kernel)
set_option maxRecDepth 20000 in
theorem gX7_sent_X4_run : GoodIn wsX7_sent (wsV RX7 167 RX4 yX4_run wsX4_run) := goodIn_app (goodIn_of _ (by decide +kernel)) ggX7_sent_X4_run
theorem dX7_sent_0 : decode cX7_sent 0 = .ok (.iload_n 1, 1) := by decide +kernel
theorem dX7_sent_1 : decode cX7_sent 1 = .ok (.iconst 0, 1) := by decide +kernel
theorem dX7_sent_2 : decode cX7_sent 2 = .ok (.iconst 3, 1) := by decide +kernel
theorem dX7_sent_3 : decode cX7_sent 3 = .ok (.invokestatic 52, 3) := by decide +kernel
theorem dX7_sent_6 : decode cX7_sent 6 = .ok (.ifCond .eq 13, 3) := by decide +kernel
theorem dX7_sent_9 : decode cX7_sent 9 = .ok (.iload_n 2, 1) := by decide +kernel
theorem dX7_sent_10 : decode cX7_sent 10 = .ok (.iconst 0, 1) := by decide +kernel
theorem dX7_sent_11 : decode cX7_sent 11 = .ok (.bipush 59, 2) := by decide +kernel
theorem dX7_sent_13 : decode cX7_sent 13 = .ok (.invokestatic 52, 3) := by decide +kernel
theorem dX7_sent_16 : decode cX7_sent 16 = .ok (.ifCond .ne 6, 3) := by decide +kernel
theorem dX7_sent_19 : decode cX7_sent 19 = .ok (.ldc 62, 2) := by decide +kernel
theorem dX7_sent_21 : decode cX7_sent 21 = .ok (.ireturn, 1) := by decide +kernel
theorem dX7_sent_22 : decode cX7_sent 22 = .ok (.aload_n 0, 1) := by decide +kernel
theorem dX7_sent_23 : decode cX7_sent 23 = .ok (.getfield 41, 3) := by decide +kernel
theorem dX7_sent_26 : decode cX7_sent 26 = .ok (.aload_n 0, 1) := by decide +kernel
theorem dX7_sent_27 : decode cX7_sent 27 = .ok (.getfield 10, 3) := by decide +kernel
theorem dX7_sent_30 : decode cX7_sent 30 = .ok (.invokevirtual 164, 3) := by decide +kernel
theorem dX7_sent_33 : decode cX7_sent 33 = .ok (.aload_n 0, 1) := by decide +kernel
theorem dX7_sent_34 : decode cX7_sent 34 = .ok (.getfield 41, 3) := by decide +kernel
theorem dX7_sent_37 : decode cX7_sent 37 = .ok (.iload_n 1, 1) := by decide +kernel
theorem dX7_sent_38 : decode cX7_sent 38 = .ok (.iload_n 2, 1) := by decide +kernel
theorem dX7_sent_39 : decode cX7_sent 39 = .ok (.iconst 1, 1) := by decide +kernel
theorem dX7_sent_40 : decode cX7_sent 40 = .ok (.iadd, 1) := by decide +kernel
theorem dX7_sent_41 : decode cX7_sent 41 = .ok (.invokevirtual 167, 3) := by decide +kernel
theorem dX7_sent_44 : decode cX7_sent 44 = .ok (.ireturn, 1) := by decide +kernel
set_option maxRecDepth 20000 in
theorem ggX7_waits_X5_has : GoodIn wsX7_waits wsX5_has := goodIn_r _ [10, 11, 12, 13, 14, 111, 112, 113, 114, 115, 116, 117, 118] (by decide +kernel) (by decide +kernel)
set_option maxRecDepth 20000 in
theorem gX7_waits_X5_has : GoodIn wsX7_waits (wsV RX7 104 RX5 yX5_has wsX5_has) := goodIn_app (goodIn_of _ (by decide +kernel)) ggX7_waits_X5_has
set_option maxRecDepth 20000 in
theorem ggX7_waits_X7_isWithin : GoodIn wsX7_waits wsX7_isWithin := goodIn_r _ [14] (by decide +kernel) (by decide +kernel)
set_option maxRecDepth 20000 in
theorem gX7_waits_X7_isWithin : GoodIn wsX7_waits (va_wsS RX7 52 yX7_isWithin wsX7_isWithin) := goodIn_app (goodIn_of _ (by decide +kernel)) ggX7_waits_X7_isWithin
set_option maxRecDepth 20000 in
theorem ggX7_waits_X4_prepare : GoodIn wsX7_waits wsX4_prepare := goodIn_r _ [20, 21, 22, 23, 24, 25, 26, 27, 28, 29, 30, 31, 32, 33, 34, 35, 36, 37, 9, 38, 39, 40, 41, 42, 43, 44, 45, 46, 47, 48, 49, 50, 51, 52, 53, 54, 55, 56, 57, 58, 111, 112, 113, 114, 115, 116, 117, 118, 104, 105, 106, 107, 108, 109, 110] (by decide +kernel) (by decide +kernel)
set_option maxRecDepth 20000 in
theorem gX7_waits_X4_prepare : GoodIn wsX7_waits (wsV RX7 164 RX4 yX4_prepare wsX4_prepare) := goodIn_app (goodIn_of _ (by decide +kernel)) ggX7_waits_X4_prepare
set_option maxRecDepth 20000 in
theorem ggX7_waits_X4_run : GoodIn wsX7_waits wsX4_run := goodIn_r _ [62, 63, 64, 65, 66, 22, 23, 67, 68, 69, 70, 71, 72, 73, 19, 74, 75, 76, 77, 78, 24, 79, 80, 81, 82, 83, 84, 85, 86, 87, 88, 89, 90, 91, 92, 93, 94, 104, 105, 106, 107, 108, 109, 110] (by decide +kernel) (by decide +kernel)
set_option maxRecDepth 20000 in
theorem gX7_waits_X4_run : GoodIn wsX7_waits (wsV RX7 167 RX4 yX4_run wsX4_run) := goodIn_app (goodIn_of _ (by decide +kernel)) ggX7_waits_X4_run
theorem dX7_waits_0 : decode cX7_waits 0 = .ok (.aload_n 0, 1) := by decide +kernel
theorem dX7_waits_1 : decode cX7_waits 1 = .ok (.getfield 10, 3) := by decide +kernel
theorem dX7_waits_4 : decode cX7_waits 4 = .ok (.iload_n 1, 1) := by decide +kernel
theorem dX7_waits_5 : decode cX7_waits 5 = .ok (.invokevirtual 104, 3) := by decide +kernel
theorem dX7_waits_8 : decode cX7_waits 8 = .ok (.ifCond .ne 6, 3) := by decide +kernel
theorem dX7_waits_11 : decode cX7_waits 11 = .ok (.ldc 103, 2) := by decide +kernel
theorem dX7_waits_13 : decode cX7_waits 13 = .ok (.ireturn, 1) := by decide +kernel
theorem dX7_waits_14 : decode cX7_waits 14 = .ok (.iload_n 2, 1) := by decide +kernel
theorem dX7_waits_15 : decode cX7_waits 15 = .ok (.iconst 0, 1) := by decide +kernel
theorem dX7_waits_16 : decode cX7_waits 16 = .ok (.iconst 3, 1) := by decide +kernel
theorem dX7_waits_17 : decode cX7_waits 17 = .ok (.invokestatic 52, 3) := by decide +kernel
theorem dX7_waits_20 : decode cX7_waits 20 = .ok (.ifCond .eq 13, 3) := by decide +kernel
theorem dX7_waits_23 : decode cX7_waits 23 = .ok (.iload_n 3, 1) := by decide +kernel
theorem dX7_waits_24 : decode cX7_waits 24 = .ok (.iconst 1, 1) := by decide +kernel
theorem dX7_waits_25 : decode cX7_waits 25 = .ok (.bipush 60, 2) := by decide +kernel
theorem dX7_waits_27 : decode cX7_waits 27 = .ok (.invokestatic 52, 3) := by decide +kernel
theorem dX7_waits_30 : decode cX7_waits 30 = .ok (.ifCond .ne 6, 3) := by decide +kernel
theorem dX7_waits_33 : decode cX7_waits 33 = .ok (.ldc 62, 2) := by decide +kernel
theorem dX7_waits_35 : decode cX7_waits 35 = .ok (.ireturn, 1) := by decide +kernel
theorem dX7_waits_36 : decode cX7_waits 36 = .ok (.aload_n 0, 1) := by decide +kernel
theorem dX7_waits_37 : decode cX7_waits 37 = .ok (.getfield 41, 3) := by decide +kernel
theorem dX7_waits_40 : decode cX7_waits 40 = .ok (.aload_n 0, 1) := by decide +kernel
theorem dX7_waits_41 : decode cX7_waits 41 = .ok (.getfield 10, 3) := by decide +kernel
theorem dX7_waits_44 : decode cX7_waits 44 = .ok (.invokevirtual 164, 3) := by decide +kernel
theorem dX7_waits_47 : decode cX7_waits 47 = .ok (.aload_n 0, 1) := by decide +kernel
theorem dX7_waits_48 : decode cX7_waits 48 = .ok (.getfield 41, 3) := by decide +kernel
theorem dX7_waits_51 : decode cX7_waits 51 = .ok (.iload_n 2, 1) := by decide +kernel
theorem dX7_waits_52 : decode cX7_waits 52 = .ok (.iload_n 3, 1) := by decide +kernel
theorem dX7_waits_53 : decode cX7_waits 53 = .ok (.invokevirtual 167, 3) := by decide +kernel
theorem dX7_waits_56 : decode cX7_waits 56 = .ok (.pop, 1) := by decide +kernel
theorem dX7_waits_57 : decode cX7_waits 57 = .ok (.aload_n 0, 1) := by decide +kernel
theorem dX7_waits_58 : decode cX7_waits 58 = .ok (.getfield 41, 3) := by decide +kernel
theorem dX7_waits_61 : decode cX7_waits 61 = .ok (.getfield 170, 3) := by decide +kernel
theorem dX7_waits_64 : decode cX7_waits 64 = .ok (.iload_n 1, 1) := by decide +kernel
theorem dX7_waits_65 : decode cX7_waits 65 = .ok (.iaload, 1) := by decide +kernel
theorem dX7_waits_66 : decode cX7_waits 66 = .ok (.ireturn, 1) := by decide +kernel
set_option maxRecDepth 20000 in
theorem ggX7_bestRule_X7_isWithin : GoodIn wsX7_bestRule wsX7_isWithin := goodIn_r _ [7] (by decide +kernel) (by decide +kernel)
set_option maxRecDepth 20000 in
theorem gX7_bestRule_X7_isWithin : GoodIn wsX7_bestRule (va_wsS RX7 52 yX7_isWithin wsX7_isWithin) := goodIn_app (goodIn_of _ (by decide +kernel)) ggX7_bestRule_X7_isWithin
set_option maxRecDepth 20000 in
theorem ggX7_bestRule_X4_prepare : GoodIn wsX7_bestRule wsX4_prepare := goodIn_r _ [12, 13, 14, 15, 16, 17, 18, 19, 20, 21, 22, 23, 24, 25, 26, 27, 28, 29, 30, 31, 32, 33, 34, 35, 36, 37, 38, 39, 40, 41, 42, 43, 44, 45, 46, 47, 48, 49, 50, 51, 105, 106, 107, 108, 109, 110, 111, 112, 113, 114, 115, 116, 117, 118, 119] (by decide +kernel) (by decide +kernel)
set_option maxRecDepth 20000 in
theorem gX7_bestRule_X4_prepare : GoodIn wsX7_bestRule (wsV RX7 164 RX4 yX4_prepare wsX4_prepare) := goodIn_app (goodIn_of _ (by decide +kernel)) ggX7_bestRule_X4_prepare
set_option maxRecDepth 20000 in
theorem ggX7_bestRule_X4_best : GoodIn wsX7_bestRule wsX4_best := goodIn_r _ [55, 14, 56, 57, 58, 11, 59, 16, 60, 61, 62, 63, 64, 65, 66, 67, 68, 69, 70, 71, 15, 72, 73, 74, 75, 76, 77, 78, 79, 80, 81, 82, 83, 84, 85, 86, 87, 88, 89, 90, 91, 92, 93, 94, 95, 113, 114, 115, 116, 117, 118, 119] (by decide +kernel) (by decide +kernel)
set_option maxRecDepth 20000 in
theorem gX7_bestRule_X4_best : GoodIn wsX7_bestRule (wsV RX7 173 RX4 yX4_best wsX4_best) := goodIn_app (goodIn_of _ (by decide +kernel)) ggX7_bestRule_X4_best
theorem dX7_bestRule_0 : decode cX7_bestRule 0 = .ok (.iload_n 1, 1) := by decide +kernel
theorem dX7_bestRule_1 : decode cX7_bestRule 1 = .ok (.iconst 1, 1) := by decide +kernel
theorem dX7_bestRule_2 : decode cX7_bestRule 2 = .ok (.bipush 60, 2) := by decide +kernel
theorem dX7_bestRule_4 : decode cX7_bestRule 4 = .ok (.invokestatic 52, 3) := by decide +kernel
theorem dX7_bestRule_7 : decode cX7_bestRule 7 = .ok (.ifCond .ne 6, 3) := by decide +kernel
theorem dX7_bestRule_10 : decode cX7_bestRule 10 = .ok (.ldc 62, 2) := by decide +kernel
theorem dX7_bestRule_12 : decode cX7_bestRule 12 = .ok (.ireturn, 1) := by decide +kernel
theorem dX7_bestRule_13 : decode cX7_bestRule 13 = .ok (.aload_n 0, 1) := by decide +kernel
theorem dX7_bestRule_14 : decode cX7_bestRule 14 = .ok (.getfield 41, 3) := by decide +kernel
theorem dX7_bestRule_17 : decode cX7_bestRule 17 = .ok (.aload_n 0, 1) := by decide +kernel
theorem dX7_bestRule_18 : decode cX7_bestRule 18 = .ok (.getfield 10, 3) := by decide +kernel
theorem dX7_bestRule_21 : decode cX7_bestRule 21 = .ok (.invokevirtual 164, 3) := by decide +kernel
theorem dX7_bestRule_24 : decode cX7_bestRule 24 = .ok (.aload_n 0, 1) := by decide +kernel
theorem dX7_bestRule_25 : decode cX7_bestRule 25 = .ok (.getfield 41, 3) := by decide +kernel
theorem dX7_bestRule_28 : decode cX7_bestRule 28 = .ok (.iload_n 1, 1) := by decide +kernel
theorem dX7_bestRule_29 : decode cX7_bestRule 29 = .ok (.invokevirtual 173, 3) := by decide +kernel
theorem dX7_bestRule_32 : decode cX7_bestRule 32 = .ok (.ireturn, 1) := by decide +kernel
set_option maxRecDepth 20000 in
theorem ggX7_write_X5_has : GoodIn wsX7_write wsX5_has := goodIn_r _ [11, 12, 13, 14, 15, 44, 45, 46, 47, 48, 49, 50, 51] (by decide +kernel) (by decide +kernel)
set_option maxRecDepth 20000 in
theorem gX7_write_X5_has : GoodIn wsX7_write (wsV RX7 104 RX5 yX5_has wsX5_has) := goodIn_app (goodIn_of _ (by decide +kernel)) ggX7_write_X5_has
set_option maxRecDepth 20000 in
theorem ggX7_write_X7_isPlace : GoodIn wsX7_write wsX7_isPlace := goodIn_r _ [18, 19, 13, 14, 15] (by decide +kernel) (by decide +kernel)
set_option maxRecDepth 20000 in
theorem gX7_write_X7_isPlace : GoodIn wsX7_write (va_wsS RX7 126 yX7_isPlace wsX7_isPlace) := goodIn_app (goodIn_of _ (by decide +kernel)) ggX7_write_X7_isPlace
set_option maxRecDepth 20000 in
theorem ggX7_write_X7_isWithin : GoodIn wsX7_write wsX7_isWithin := goodIn_r _ [15] (by decide +kernel) (by decide +kernel)
set_option maxRecDepth 20000 in
theorem gX7_write_X7_isWithin : GoodIn wsX7_write (va_wsS RX7 52 yX7_isWithin wsX7_isWithin) := goodIn_app (goodIn_of _ (by decide +kernel)) ggX7_write_X7_isWithin
set_option maxRecDepth 20000 in
theorem ggX7_write_X2_add : GoodIn wsX7_write wsX2_add := goodIn_r _ [24, 25, 26, 27, 28, 29, 13, 14, 15, 39, 40, 41, 42, 43] (by decide +kernel) (by decide +kernel)
set_option maxRecDepth 20000 in
theorem gX7_write_X2_add : GoodIn wsX7_write (wsV RX7 176 RX2 yX2_add wsX2_add) := goodIn_app (goodIn_of _ (by decide +kernel)) ggX7_write_X2_add
theorem dX7_write_0 : decode cX7_write 0 = .ok (.aload_n 0, 1) := by decide +kernel
theorem dX7_write_1 : decode cX7_write 1 = .ok (.getfield 10, 3) := by decide +kernel
theorem dX7_write_4 : decode cX7_write 4 = .ok (.iload_n 1, 1) := by decide +kernel
theorem dX7_write_5 : decode cX7_write 5 = .ok (.invokevirtual 104, 3) := by decide +kernel
theorem dX7_write_8 : decode cX7_write 8 = .ok (.ifCond .ne 6, 3) := by decide +kernel
theorem dX7_write_11 : decode cX7_write 11 = .ok (.ldc 103, 2) := by decide +kernel
theorem dX7_write_13 : decode cX7_write 13 = .ok (.ireturn, 1) := by decide +kernel
theorem dX7_write_14 : decode cX7_write 14 = .ok (.iload_n 2, 1) := by decide +kernel
theorem dX7_write_15 : decode cX7_write 15 = .ok (.iload_n 3, 1) := by decide +kernel
theorem dX7_write_16 : decode cX7_write 16 = .ok (.invokestatic 126, 3) := by decide +kernel
theorem dX7_write_19 : decode cX7_write 19 = .ok (.ifCond .eq 14, 3) := by decide +kernel
theorem dX7_write_22 : decode cX7_write 22 = .ok (.iload 4, 2) := by decide +kernel
theorem dX7_write_24 : decode cX7_write 24 = .ok (.iconst 0, 1) := by decide +kernel
theorem dX7_write_25 : decode cX7_write 25 = .ok (.bipush 127, 2) := by decide +kernel
theorem dX7_write_27 : decode cX7_write 27 = .ok (.invokestatic 52, 3) := by decide +kernel
theorem dX7_write_30 : decode cX7_write 30 = .ok (.ifCond .ne 6, 3) := by decide +kernel
theorem dX7_write_33 : decode cX7_write 33 = .ok (.ldc 62, 2) := by decide +kernel
theorem dX7_write_35 : decode cX7_write 35 = .ok (.ireturn, 1) := by decide +kernel
theorem dX7_write_36 : decode cX7_write 36 = .ok (.aload_n 0, 1) := by decide +kernel
theorem dX7_write_37 : decode cX7_write 37 = .ok (.getfield 34, 3) := by decide +kernel
theorem dX7_write_40 : decode cX7_write 40 = .ok (.iload_n 1, 1) := by decide +kernel
theorem dX7_write_41 : decode cX7_write 41 = .ok (.iload_n 2, 1) := by decide +kernel
theorem dX7_write_42 : decode cX7_write 42 = .ok (.iload_n 3, 1) := by decide +kernel
theorem dX7_write_43 : decode cX7_write 43 = .ok (.iload 4, 2) := by decide +kernel
theorem dX7_write_45 : decode cX7_write 45 = .ok (.invokevirtual 176, 3) := by decide +kernel
theorem dX7_write_48 : decode cX7_write 48 = .ok (.ifCond .eq 13, 3) := by decide +kernel
theorem dX7_write_51 : decode cX7_write 51 = .ok (.aload_n 0, 1) := by decide +kernel
theorem dX7_write_52 : decode cX7_write 52 = .ok (.getfield 34, 3) := by decide +kernel
theorem dX7_write_55 : decode cX7_write 55 = .ok (.getfield 90, 3) := by decide +kernel
theorem dX7_write_58 : decode cX7_write 58 = .ok (.goto 5, 3) := by decide +kernel
theorem dX7_write_61 : decode cX7_write 61 = .ok (.ldc 180, 2) := by decide +kernel
theorem dX7_write_63 : decode cX7_write 63 = .ok (.ireturn, 1) := by decide +kernel
theorem dX7_tear_0 : decode cX7_tear 0 = .ok (.aload_n 0, 1) := by decide +kernel
theorem dX7_tear_1 : decode cX7_tear 1 = .ok (.getfield 34, 3) := by decide +kernel
theorem dX7_tear_4 : decode cX7_tear 4 = .ok (.getfield 90, 3) := by decide +kernel
theorem dX7_tear_7 : decode cX7_tear 7 = .ok (.istore_n 1, 1) := by decide +kernel
theorem dX7_tear_8 : decode cX7_tear 8 = .ok (.aload_n 0, 1) := by decide +kernel
theorem dX7_tear_9 : decode cX7_tear 9 = .ok (.getfield 34, 3) := by decide +kernel
theorem dX7_tear_12 : decode cX7_tear 12 = .ok (.iconst 0, 1) := by decide +kernel
theorem dX7_tear_13 : decode cX7_tear 13 = .ok (.putfield 90, 3) := by decide +kernel
theorem dX7_tear_16 : decode cX7_tear 16 = .ok (.iload_n 1, 1) := by decide +kernel
theorem dX7_tear_17 : decode cX7_tear 17 = .ok (.ireturn, 1) := by decide +kernel
theorem dX7_seed_0 : decode cX7_seed 0 = .ok (.iload_n 1, 1) := by decide +kernel
theorem dX7_seed_1 : decode cX7_seed 1 = .ok (.ifCond .ge 6, 3) := by decide +kernel
theorem dX7_seed_4 : decode cX7_seed 4 = .ok (.ldc 62, 2) := by decide +kernel
theorem dX7_seed_6 : decode cX7_seed 6 = .ok (.ireturn, 1) := by decide +kernel
theorem dX7_seed_7 : decode cX7_seed 7 = .ok (.aload_n 0, 1) := by decide +kernel
theorem dX7_seed_8 : decode cX7_seed 8 = .ok (.getfield 10, 3) := by decide +kernel
theorem dX7_seed_11 : decode cX7_seed 11 = .ok (.getfield 181, 3) := by decide +kernel
theorem dX7_seed_14 : decode cX7_seed 14 = .ok (.istore_n 2, 1) := by decide +kernel
theorem dX7_seed_15 : decode cX7_seed 15 = .ok (.aload_n 0, 1) := by decide +kernel
theorem dX7_seed_16 : decode cX7_seed 16 = .ok (.getfield 10, 3) := by decide +kernel
theorem dX7_seed_19 : decode cX7_seed 19 = .ok (.iload_n 1, 1) := by decide +kernel
theorem dX7_seed_20 : decode cX7_seed 20 = .ok (.putfield 181, 3) := by decide +kernel
theorem dX7_seed_23 : decode cX7_seed 23 = .ok (.iload_n 2, 1) := by decide +kernel
theorem dX7_seed_24 : decode cX7_seed 24 = .ok (.ireturn, 1) := by decide +kernel
set_option maxRecDepth 20000 in
theorem ggX7_keep_X7_isWithin : GoodIn wsX7_keep wsX7_isWithin := goodIn_r _ [10] (by decide +kernel) (by decide +kernel)
set_option maxRecDepth 20000 in
theorem gX7_keep_X7_isWithin : GoodIn wsX7_keep (va_wsS RX7 52 yX7_isWithin wsX7_isWithin) := goodIn_app (goodIn_of _ (by decide +kernel)) ggX7_keep_X7_isWithin
set_option maxRecDepth 20000 in
theorem ggX7_keep_X5_become : GoodIn wsX7_keep wsX5_become := goodIn_r _ [15, 16, 17, 18, 19, 20, 21, 22, 23, 24, 25, 26, 42, 43, 44, 45, 46, 47, 48, 49] (by decide +kernel) (by decide +kernel)
set_option maxRecDepth 20000 in
theorem gX7_keep_X5_become : GoodIn wsX7_keep (wsV RX7 184 RX5 yX5_become wsX5_become) := goodIn_app (goodIn_of _ (by decide +kernel)) ggX7_keep_X5_become
set_option maxRecDepth 20000 in
theorem ggX7_keep_X6_forget : GoodIn wsX7_keep wsX6_forget := goodIn_r _ [31, 32, 50, 51, 52] (by decide +kernel) (by decide +kernel)
set_option maxRecDepth 20000 in
theorem gX7_keep_X6_forget : GoodIn wsX7_keep (wsV RX7 187 RX6 yX6_forget wsX6_forget) := goodIn_app (goodIn_of _ (by decide +kernel)) ggX7_keep_X6_forget
theorem dX7_keep_0 : decode cX7_keep 0 = .ok (.iload_n 1, 1) := by decide +kernel
theorem dX7_keep_1 : decode cX7_keep 1 = .ok (.iconst 0, 1) := by decide +kernel
theorem dX7_keep_2 : decode cX7_keep 2 = .ok (.iconst 1, 1) := by decide +kernel
theorem dX7_keep_3 : decode cX7_keep 3 = .ok (.invokestatic 52, 3) := by decide +kernel
theorem dX7_keep_6 : decode cX7_keep 6 = .ok (.ifCond .ne 6, 3) := by decide +kernel
theorem dX7_keep_9 : decode cX7_keep 9 = .ok (.ldc 103, 2) := by decide +kernel
theorem dX7_keep_11 : decode cX7_keep 11 = .ok (.ireturn, 1) := by decide +kernel
theorem dX7_keep_12 : decode cX7_keep 12 = .ok (.aload_n 0, 1) := by decide +kernel
theorem dX7_keep_13 : decode cX7_keep 13 = .ok (.getfield 23, 3) := by decide +kernel
theorem dX7_keep_16 : decode cX7_keep 16 = .ok (.iload_n 1, 1) := by decide +kernel
theorem dX7_keep_17 : decode cX7_keep 17 = .ok (.aaload, 1) := by decide +kernel
theorem dX7_keep_18 : decode cX7_keep 18 = .ok (.aload_n 0, 1) := by decide +kernel
theorem dX7_keep_19 : decode cX7_keep 19 = .ok (.getfield 10, 3) := by decide +kernel
theorem dX7_keep_22 : decode cX7_keep 22 = .ok (.invokevirtual 184, 3) := by decide +kernel
theorem dX7_keep_25 : decode cX7_keep 25 = .ok (.aload_n 0, 1) := by decide +kernel
theorem dX7_keep_26 : decode cX7_keep 26 = .ok (.getfield 23, 3) := by decide +kernel
theorem dX7_keep_29 : decode cX7_keep 29 = .ok (.iload_n 1, 1) := by decide +kernel
theorem dX7_keep_30 : decode cX7_keep 30 = .ok (.aaload, 1) := by decide +kernel
theorem dX7_keep_31 : decode cX7_keep 31 = .ok (.aload_n 0, 1) := by decide +kernel
theorem dX7_keep_32 : decode cX7_keep 32 = .ok (.getfield 10, 3) := by decide +kernel
theorem dX7_keep_35 : decode cX7_keep 35 = .ok (.getfield 181, 3) := by decide +kernel
theorem dX7_keep_38 : decode cX7_keep 38 = .ok (.putfield 181, 3) := by decide +kernel
theorem dX7_keep_41 : decode cX7_keep 41 = .ok (.aload_n 0, 1) := by decide +kernel
theorem dX7_keep_42 : decode cX7_keep 42 = .ok (.getfield 27, 3) := by decide +kernel
theorem dX7_keep_45 : decode cX7_keep 45 = .ok (.iload_n 1, 1) := by decide +kernel
theorem dX7_keep_46 : decode cX7_keep 46 = .ok (.iconst 1, 1) := by decide +kernel
theorem dX7_keep_47 : decode cX7_keep 47 = .ok (.bastore, 1) := by decide +kernel
theorem dX7_keep_48 : decode cX7_keep 48 = .ok (.aload_n 0, 1) := by decide +kernel
theorem dX7_keep_49 : decode cX7_keep 49 = .ok (.getfield 19, 3) := by decide +kernel
theorem dX7_keep_52 : decode cX7_keep 52 = .ok (.invokevirtual 187, 3) := by decide +kernel
theorem dX7_keep_55 : decode cX7_keep 55 = .ok (.iconst 1, 1) := by decide +kernel
theorem dX7_keep_56 : decode cX7_keep 56 = .ok (.ireturn, 1) := by decide +kernel
set_option maxRecDepth 20000 in
theorem ggX7_goBack_X7_isWithin : GoodIn wsX7_goBack wsX7_isWithin := goodIn_r _ [11] (by decide +kernel) (by decide +kernel)
set_option maxRecDepth 20000 in
theorem gX7_goBack_X7_isWithin : GoodIn wsX7_goBack (va_wsS RX7 52 yX7_isWithin wsX7_isWithin) := goodIn_app (goodIn_of _ (by decide +kernel)) ggX7_goBack_X7_isWithin
set_option maxRecDepth 20000 in
theorem ggX7_goBack_X5_become : GoodIn wsX7_goBack wsX5_become := goodIn_r _ [16, 17, 18, 19, 20, 21, 22, 23, 24, 25, 26, 27, 43, 44, 45, 46, 47, 48, 49, 50] (by decide +kernel) (by decide +kernel)
set_option maxRecDepth 20000 in
theorem gX7_goBack_X5_become : GoodIn wsX7_goBack (wsV RX7 184 RX5 yX5_become wsX5_become) := goodIn_app (goodIn_of _ (by decide +kernel)) ggX7_goBack_X5_become
set_option maxRecDepth 20000 in
theorem ggX7_goBack_X6_forget : GoodIn wsX7_goBack wsX6_forget := goodIn_r _ [32, 33, 51, 52, 53] (by decide +kernel) (by decide +kernel)
set_option maxRecDepth 20000 in
theorem gX7_goBack_X6_forget : GoodIn wsX7_goBack (wsV RX7 187 RX6 yX6_forget wsX6_forget) := goodIn_app (goodIn_of _ (by decide +kernel)) ggX7_goBack_X6_forget
theorem dX7_goBack_0 : decode cX7_goBack 0 = .ok (.iload_n 1, 1) := by decide +kernel
theorem dX7_goBack_1 : decode cX7_goBack 1 = .ok (.iconst 0, 1) := by decide +kernel
theorem dX7_goBack_2 : decode cX7_goBack 2 = .ok (.iconst 1, 1) := by decide +kernel
theorem dX7_goBack_3 : decode cX7_goBack 3 = .ok (.invokestatic 52, 3) := by decide +kernel
theorem dX7_goBack_6 : decode cX7_goBack 6 = .ok (.ifCond .ne 6, 3) := by decide +kernel
theorem dX7_goBack_9 : decode cX7_goBack 9 = .ok (.ldc 103, 2) := by decide +kernel
theorem dX7_goBack_11 : decode cX7_goBack 11 = .ok (.ireturn, 1) := by decide +kernel
theorem dX7_goBack_12 : decode cX7_goBack 12 = .ok (.aload_n 0, 1) := by decide +kernel
theorem dX7_goBack_13 : decode cX7_goBack 13 = .ok (.getfield 27, 3) := by decide +kernel
theorem dX7_goBack_16 : decode cX7_goBack 16 = .ok (.iload_n 1, 1) := by decide +kernel
theorem dX7_goBack_17 : decode cX7_goBack 17 = .ok (.baload, 1) := by decide +kernel
theorem dX7_goBack_18 : decode cX7_goBack 18 = .ok (.ifCond .ne 6, 3) := by decide +kernel
theorem dX7_goBack_21 : decode cX7_goBack 21 = .ok (.ldc 159, 2) := by decide +kernel
theorem dX7_goBack_23 : decode cX7_goBack 23 = .ok (.ireturn, 1) := by decide +kernel
theorem dX7_goBack_24 : decode cX7_goBack 24 = .ok (.aload_n 0, 1) := by decide +kernel
theorem dX7_goBack_25 : decode cX7_goBack 25 = .ok (.getfield 10, 3) := by decide +kernel
theorem dX7_goBack_28 : decode cX7_goBack 28 = .ok (.aload_n 0, 1) := by decide +kernel
theorem dX7_goBack_29 : decode cX7_goBack 29 = .ok (.getfield 23, 3) := by decide +kernel
theorem dX7_goBack_32 : decode cX7_goBack 32 = .ok (.iload_n 1, 1) := by decide +kernel
theorem dX7_goBack_33 : decode cX7_goBack 33 = .ok (.aaload, 1) := by decide +kernel
theorem dX7_goBack_34 : decode cX7_goBack 34 = .ok (.invokevirtual 184, 3) := by decide +kernel
theorem dX7_goBack_37 : decode cX7_goBack 37 = .ok (.aload_n 0, 1) := by decide +kernel
theorem dX7_goBack_38 : decode cX7_goBack 38 = .ok (.getfield 10, 3) := by decide +kernel
theorem dX7_goBack_41 : decode cX7_goBack 41 = .ok (.aload_n 0, 1) := by decide +kernel
theorem dX7_goBack_42 : decode cX7_goBack 42 = .ok (.getfield 23, 3) := by decide +kernel
theorem dX7_goBack_45 : decode cX7_goBack 45 = .ok (.iload_n 1, 1) := by decide +kernel
theorem dX7_goBack_46 : decode cX7_goBack 46 = .ok (.aaload, 1) := by decide +kernel
theorem dX7_goBack_47 : decode cX7_goBack 47 = .ok (.getfield 181, 3) := by decide +kernel
theorem dX7_goBack_50 : decode cX7_goBack 50 = .ok (.putfield 181, 3) := by decide +kernel
theorem dX7_goBack_53 : decode cX7_goBack 53 = .ok (.aload_n 0, 1) := by decide +kernel
theorem dX7_goBack_54 : decode cX7_goBack 54 = .ok (.getfield 19, 3) := by decide +kernel
theorem dX7_goBack_57 : decode cX7_goBack 57 = .ok (.invokevirtual 187, 3) := by decide +kernel
theorem dX7_goBack_60 : decode cX7_goBack 60 = .ok (.iconst 1, 1) := by decide +kernel
theorem dX7_goBack_61 : decode cX7_goBack 61 = .ok (.ireturn, 1) := by decide +kernel
theorem dX7_isWithin_0 : decode cX7_isWithin 0 = .ok (.iload_n 1, 1) := by decide +kernel
theorem dX7_isWithin_1 : decode cX7_isWithin 1 = .ok (.iload_n 0, 1) := by decide +kernel
theorem dX7_isWithin_2 : decode cX7_isWithin 2 = .ok (.if_icmp .gt 12, 3) := by decide +kernel
theorem dX7_isWithin_5 : decode cX7_isWithin 5 = .ok (.iload_n 0, 1) := by decide +kernel
theorem dX7_isWithin_6 : decode cX7_isWithin 6 = .ok (.iload_n 2, 1) := by decide +kernel
theorem dX7_isWithin_7 : decode cX7_isWithin 7 = .ok (.if_icmp .gt 7, 3) := by decide +kernel
theorem dX7_isWithin_10 : decode cX7_isWithin 10 = .ok (.iconst 1, 1) := by decide +kernel
theorem dX7_isWithin_11 : decode cX7_isWithin 11 = .ok (.goto 4, 3) := by decide +kernel
theorem dX7_isWithin_14 : decode cX7_isWithin 14 = .ok (.iconst 0, 1) := by decide +kernel
theorem dX7_isWithin_15 : decode cX7_isWithin 15 = .ok (.ireturn, 1) := by decide +kernel
set_option maxRecDepth 20000 in
theorem ggX7_isPlace_X7_isWithin : GoodIn wsX7_isPlace wsX7_isWithin := goodIn_r _ [4] (by decide +kernel) (by decide +kernel)
set_option maxRecDepth 20000 in
theorem gX7_isPlace_X7_isWithin : GoodIn wsX7_isPlace (va_wsS RX7 52 yX7_isWithin wsX7_isWithin) := goodIn_app (goodIn_of _ (by decide +kernel)) ggX7_isPlace_X7_isWithin
theorem dX7_isPlace_0 : decode cX7_isPlace 0 = .ok (.iload_n 0, 1) := by decide +kernel
theorem dX7_isPlace_1 : decode cX7_isPlace 1 = .ok (.iconst 0, 1) := by decide +kernel
theorem dX7_isPlace_2 : decode cX7_isPlace 2 = .ok (.iconst 4, 1) := by decide +kernel
theorem dX7_isPlace_3 : decode cX7_isPlace 3 = .ok (.invokestatic 52, 3) := by decide +kernel
theorem dX7_isPlace_6 : decode cX7_isPlace 6 = .ok (.ifCond .eq 17, 3) := by decide +kernel
theorem dX7_isPlace_9 : decode cX7_isPlace 9 = .ok (.iload_n 1, 1) := by decide +kernel
theorem dX7_isPlace_10 : decode cX7_isPlace 10 = .ok (.iconst 0, 1) := by decide +kernel
theorem dX7_isPlace_11 : decode cX7_isPlace 11 = .ok (.bipush 7, 2) := by decide +kernel
theorem dX7_isPlace_13 : decode cX7_isPlace 13 = .ok (.invokestatic 52, 3) := by decide +kernel
theorem dX7_isPlace_16 : decode cX7_isPlace 16 = .ok (.ifCond .eq 7, 3) := by decide +kernel
theorem dX7_isPlace_19 : decode cX7_isPlace 19 = .ok (.iconst 1, 1) := by decide +kernel
theorem dX7_isPlace_20 : decode cX7_isPlace 20 = .ok (.goto 4, 3) := by decide +kernel
theorem dX7_isPlace_23 : decode cX7_isPlace 23 = .ok (.iconst 0, 1) := by decide +kernel
theorem dX7_isPlace_24 : decode cX7_isPlace 24 = .ok (.ireturn, 1) := by decide +kernel
set_option maxRecDepth 20000 in
theorem ggX7_comes_X6_remember : GoodIn wsX7_comes wsX6_remember := goodIn_r _ [9, 10, 11, 12, 13, 14, 15, 16, 17, 18, 19, 20, 21, 22, 23, 24, 25, 26, 27, 28, 29, 30, 31, 32, 150, 151, 152, 142, 143, 144, 145, 146, 147, 148, 149] (by decide +kernel) (by decide +kernel)
set_option maxRecDepth 20000 in
theorem gX7_comes_X6_remember : GoodIn wsX7_comes (wsV RX7 144 RX6 yX6_remember wsX6_remember) := goodIn_app (goodIn_of _ (by decide +kernel)) ggX7_comes_X6_remember
set_option maxRecDepth 20000 in
theorem ggX7_comes_X3_take : GoodIn wsX7_comes wsX3_take := goodIn_r _ [36, 37, 38, 39, 40, 20, 41, 31, 42, 43, 44, 45, 46, 47, 48, 49, 50, 51, 52, 53, 54, 55, 56, 57, 58, 59, 60, 61, 62, 63, 35, 64, 65, 66, 67, 68, 69, 70, 71, 23, 32, 72, 14, 15, 16, 28, 73, 74, 75, 76, 77, 78, 79, 80, 22, 81, 82, 83, 84, 85, 86, 87, 88, 24, 25, 26, 27, 89, 90, 91, 92, 93, 94, 95, 96, 97, 98, 99, 100, 101, 102, 103, 104, 105, 106, 107, 108, 109, 110, 111, 112, 113, 114, 115, 116, 117, 118, 119, 120, 121, 122, 123, 124, 125, 126, 127, 128, 129, 130, 131, 132, 142, 143, 144, 145, 146, 147, 148, 149] (by decide +kernel) (by decide +kernel)
set_option maxRecDepth 20000 in
theorem gX7_comes_X3_take : GoodIn wsX7_comes (va_wsS RX7 190 yX3_take wsX3_take) := goodIn_app (goodIn_of _ (by decide +kernel)) ggX7_comes_X3_take
theorem dX7_comes_0 : decode cX7_comes 0 = .ok (.aload_n 0, 1) := by decide +kernel
theorem dX7_comes_1 : decode cX7_comes 1 = .ok (.getfield 19, 3) := by decide +kernel
theorem dX7_comes_4 : decode cX7_comes 4 = .ok (.aload_n 0, 1) := by decide +kernel
theorem dX7_comes_5 : decode cX7_comes 5 = .ok (.getfield 10, 3) := by decide +kernel
theorem dX7_comes_8 : decode cX7_comes 8 = .ok (.invokevirtual 144, 3) := by decide +kernel
theorem dX7_comes_11 : decode cX7_comes 11 = .ok (.aload_n 0, 1) := by decide +kernel
theorem dX7_comes_12 : decode cX7_comes 12 = .ok (.getfield 10, 3) := by decide +kernel
theorem dX7_comes_15 : decode cX7_comes 15 = .ok (.dup, 1) := by decide +kernel
theorem dX7_comes_16 : decode cX7_comes 16 = .ok (.getfield 81, 3) := by decide +kernel
theorem dX7_comes_19 : decode cX7_comes 19 = .ok (.iconst 1, 1) := by decide +kernel
theorem dX7_comes_20 : decode cX7_comes 20 = .ok (.iadd, 1) := by decide +kernel
theorem dX7_comes_21 : decode cX7_comes 21 = .ok (.putfield 81, 3) := by decide +kernel
theorem dX7_comes_24 : decode cX7_comes 24 = .ok (.aload_n 0, 1) := by decide +kernel
theorem dX7_comes_25 : decode cX7_comes 25 = .ok (.getfield 10, 3) := by decide +kernel
theorem dX7_comes_28 : decode cX7_comes 28 = .ok (.aload_n 1, 1) := by decide +kernel
theorem dX7_comes_29 : decode cX7_comes 29 = .ok (.invokestatic 190, 3) := by decide +kernel
theorem dX7_comes_32 : decode cX7_comes 32 = .ok (.istore_n 2, 1) := by decide +kernel
theorem dX7_comes_33 : decode cX7_comes 33 = .ok (.iload_n 2, 1) := by decide +kernel
theorem dX7_comes_34 : decode cX7_comes 34 = .ok (.ifCond .ne 16, 3) := by decide +kernel
theorem dX7_comes_37 : decode cX7_comes 37 = .ok (.aload_n 0, 1) := by decide +kernel
theorem dX7_comes_38 : decode cX7_comes 38 = .ok (.getfield 10, 3) := by decide +kernel
theorem dX7_comes_41 : decode cX7_comes 41 = .ok (.dup, 1) := by decide +kernel
theorem dX7_comes_42 : decode cX7_comes 42 = .ok (.getfield 84, 3) := by decide +kernel
theorem dX7_comes_45 : decode cX7_comes 45 = .ok (.iconst 1, 1) := by decide +kernel
theorem dX7_comes_46 : decode cX7_comes 46 = .ok (.iadd, 1) := by decide +kernel
theorem dX7_comes_47 : decode cX7_comes 47 = .ok (.putfield 84, 3) := by decide +kernel
theorem dX7_comes_50 : decode cX7_comes 50 = .ok (.iload_n 2, 1) := by decide +kernel
theorem dX7_comes_51 : decode cX7_comes 51 = .ok (.ireturn, 1) := by decide +kernel
set_option maxRecDepth 20000 in
theorem ggX7_bodyOctet_X1_encode : GoodIn wsX7_bodyOctet wsX1_encode := goodIn_r _ [4, 5] (by decide +kernel) (by decide +kernel)
set_option maxRecDepth 20000 in
theorem gX7_bodyOctet_X1_encode : GoodIn wsX7_bodyOctet (va_wsS RX7 56 yX1_encode wsX1_encode) := goodIn_app (goodIn_of _ (by decide +kernel)) ggX7_bodyOctet_X1_encode
set_option maxRecDepth 20000 in
theorem ggX7_bodyOctet_X1_oddOctet : GoodIn wsX7_bodyOctet wsX1_oddOctet := goodIn_r _ [8, 9, 10, 3, 11, 12, 13, 14, 15, 16, 17, 18] (by decide +kernel) (by decide +kernel)
set_option maxRecDepth 20000 in
theorem gX7_bodyOctet_X1_oddOctet : GoodIn wsX7_bodyOctet (va_wsS RX7 196 yX1_oddOctet wsX1_oddOctet) := goodIn_app (goodIn_of _ (by decide +kernel)) ggX7_bodyOctet_X1_oddOctet
theorem dX7_bodyOctet_0 : decode cX7_bodyOctet 0 = .ok (.iload_n 0, 1) := by decide +kernel
theorem dX7_bodyOctet_1 : decode cX7_bodyOctet 1 = .ok (.ifCond .eq 9, 3) := by decide +kernel
theorem dX7_bodyOctet_4 : decode cX7_bodyOctet 4 = .ok (.iload_n 0, 1) := by decide +kernel
theorem dX7_bodyOctet_5 : decode cX7_bodyOctet 5 = .ok (.bipush 6, 2) := by decide +kernel
theorem dX7_bodyOctet_7 : decode cX7_bodyOctet 7 = .ok (.if_icmp .ne 10, 3) := by decide +kernel
theorem dX7_bodyOctet_10 : decode cX7_bodyOctet 10 = .ok (.iload_n 1, 1) := by decide +kernel
theorem dX7_bodyOctet_11 : decode cX7_bodyOctet 11 = .ok (.invokestatic 56, 3) := by decide +kernel
theorem dX7_bodyOctet_14 : decode cX7_bodyOctet 14 = .ok (.goto 10, 3) := by decide +kernel
theorem dX7_bodyOctet_17 : decode cX7_bodyOctet 17 = .ok (.bipush 64, 2) := by decide +kernel
theorem dX7_bodyOctet_19 : decode cX7_bodyOctet 19 = .ok (.iload_n 1, 1) := by decide +kernel
theorem dX7_bodyOctet_20 : decode cX7_bodyOctet 20 = .ok (.iadd, 1) := by decide +kernel
theorem dX7_bodyOctet_21 : decode cX7_bodyOctet 21 = .ok (.invokestatic 196, 3) := by decide +kernel
theorem dX7_bodyOctet_24 : decode cX7_bodyOctet 24 = .ok (.ireturn, 1) := by decide +kernel
set_option maxRecDepth 20000 in
theorem ggX7_drawPacket_X5_draw : GoodIn wsX7_drawPacket wsX5_draw := goodIn_r _ [7, 8, 9, 10, 11, 12, 44, 45, 46, 47, 48, 49, 50, 51] (by decide +kernel) (by decide +kernel)
set_option maxRecDepth 20000 in
theorem gX7_drawPacket_X5_draw : GoodIn wsX7_drawPacket (wsV RX7 199 RX5 yX5_draw wsX5_draw) := goodIn_app (goodIn_of _ (by decide +kernel)) ggX7_drawPacket_X5_draw
set_option maxRecDepth 20000 in
theorem ggX7_drawPacket_X1_encode : GoodIn wsX7_drawPacket wsX1_encode := goodIn_r _ [16, 17] (by decide +kernel) (by decide +kernel)
set_option maxRecDepth 20000 in
theorem gX7_drawPacket_X1_encode : GoodIn wsX7_drawPacket (va_wsS RX7 56 yX1_encode wsX1_encode) := goodIn_app (goodIn_of _ (by decide +kernel)) ggX7_drawPacket_X1_encode
set_option maxRecDepth 20000 in
theorem ggX7_drawPacket_X7_bodyOctet : GoodIn wsX7_drawPacket wsX7_bodyOctet := goodIn_r _ [21, 13, 14, 15, 16, 17, 22, 23, 24, 25, 26, 27, 28, 29, 30, 31, 32, 33, 34] (by decide +kernel) (by decide +kernel)
set_option maxRecDepth 20000 in
theorem gX7_drawPacket_X7_bodyOctet : GoodIn wsX7_drawPacket (va_wsS RX7 74 yX7_bodyOctet wsX7_bodyOctet) := goodIn_app (goodIn_of _ (by decide +kernel)) ggX7_drawPacket_X7_bodyOctet
theorem dX7_drawPacket_0 : decode cX7_drawPacket 0 = .ok (.aload_n 0, 1) := by decide +kernel
theorem dX7_drawPacket_1 : decode cX7_drawPacket 1 = .ok (.getfield 10, 3) := by decide +kernel
theorem dX7_drawPacket_4 : decode cX7_drawPacket 4 = .ok (.iconst 4, 1) := by decide +kernel
theorem dX7_drawPacket_5 : decode cX7_drawPacket 5 = .ok (.invokevirtual 199, 3) := by decide +kernel
theorem dX7_drawPacket_8 : decode cX7_drawPacket 8 = .ok (.istore_n 1, 1) := by decide +kernel
theorem dX7_drawPacket_9 : decode cX7_drawPacket 9 = .ok (.aload_n 0, 1) := by decide +kernel
theorem dX7_drawPacket_10 : decode cX7_drawPacket 10 = .ok (.getfield 10, 3) := by decide +kernel
theorem dX7_drawPacket_13 : decode cX7_drawPacket 13 = .ok (.bipush 8, 2) := by decide +kernel
theorem dX7_drawPacket_15 : decode cX7_drawPacket 15 = .ok (.invokevirtual 199, 3) := by decide +kernel
theorem dX7_drawPacket_18 : decode cX7_drawPacket 18 = .ok (.istore_n 2, 1) := by decide +kernel
theorem dX7_drawPacket_19 : decode cX7_drawPacket 19 = .ok (.aload_n 0, 1) := by decide +kernel
theorem dX7_drawPacket_20 : decode cX7_drawPacket 20 = .ok (.getfield 49, 3) := by decide +kernel
theorem dX7_drawPacket_23 : decode cX7_drawPacket 23 = .ok (.iconst 0, 1) := by decide +kernel
theorem dX7_drawPacket_24 : decode cX7_drawPacket 24 = .ok (.iload_n 1, 1) := by decide +kernel
theorem dX7_drawPacket_25 : decode cX7_drawPacket 25 = .ok (.invokestatic 56, 3) := by decide +kernel
theorem dX7_drawPacket_28 : decode cX7_drawPacket 28 = .ok (.iastore, 1) := by decide +kernel
theorem dX7_drawPacket_29 : decode cX7_drawPacket 29 = .ok (.aload_n 0, 1) := by decide +kernel
theorem dX7_drawPacket_30 : decode cX7_drawPacket 30 = .ok (.getfield 49, 3) := by decide +kernel
theorem dX7_drawPacket_33 : decode cX7_drawPacket 33 = .ok (.iconst 1, 1) := by decide +kernel
theorem dX7_drawPacket_34 : decode cX7_drawPacket 34 = .ok (.iload_n 2, 1) := by decide +kernel
theorem dX7_drawPacket_35 : decode cX7_drawPacket 35 = .ok (.invokestatic 56, 3) := by decide +kernel
theorem dX7_drawPacket_38 : decode cX7_drawPacket 38 = .ok (.iastore, 1) := by decide +kernel
theorem dX7_drawPacket_39 : decode cX7_drawPacket 39 = .ok (.iconst 2, 1) := by decide +kernel
theorem dX7_drawPacket_40 : decode cX7_drawPacket 40 = .ok (.istore_n 3, 1) := by decide +kernel
theorem dX7_drawPacket_41 : decode cX7_drawPacket 41 = .ok (.iload_n 3, 1) := by decide +kernel
theorem dX7_drawPacket_42 : decode cX7_drawPacket 42 = .ok (.bipush 10, 2) := by decide +kernel
theorem dX7_drawPacket_44 : decode cX7_drawPacket 44 = .ok (.if_icmp .ge 28, 3) := by decide +kernel
theorem dX7_drawPacket_47 : decode cX7_drawPacket 47 = .ok (.aload_n 0, 1) := by decide +kernel
theorem dX7_drawPacket_48 : decode cX7_drawPacket 48 = .ok (.getfield 49, 3) := by decide +kernel
theorem dX7_drawPacket_51 : decode cX7_drawPacket 51 = .ok (.iload_n 3, 1) := by decide +kernel
theorem dX7_drawPacket_52 : decode cX7_drawPacket 52 = .ok (.iload_n 2, 1) := by decide +kernel
theorem dX7_drawPacket_53 : decode cX7_drawPacket 53 = .ok (.aload_n 0, 1) := by decide +kernel
theorem dX7_drawPacket_54 : decode cX7_drawPacket 54 = .ok (.getfield 10, 3) := by decide +kernel
theorem dX7_drawPacket_57 : decode cX7_drawPacket 57 = .ok (.bipush 10, 2) := by decide +kernel
theorem dX7_drawPacket_59 : decode cX7_drawPacket 59 = .ok (.invokevirtual 199, 3) := by decide +kernel
theorem dX7_drawPacket_62 : decode cX7_drawPacket 62 = .ok (.invokestatic 74, 3) := by decide +kernel
theorem dX7_drawPacket_65 : decode cX7_drawPacket 65 = .ok (.iastore, 1) := by decide +kernel
theorem dX7_drawPacket_66 : decode cX7_drawPacket 66 = .ok (.iinc 3 1, 3) := by decide +kernel
theorem dX7_drawPacket_69 : decode cX7_drawPacket 69 = .ok (.goto (-28), 3) := by decide +kernel
theorem dX7_drawPacket_72 : decode cX7_drawPacket 72 = .ok (.aload_n 0, 1) := by decide +kernel
theorem dX7_drawPacket_73 : decode cX7_drawPacket 73 = .ok (.getfield 10, 3) := by decide +kernel
theorem dX7_drawPacket_76 : decode cX7_drawPacket 76 = .ok (.bipush 80, 2) := by decide +kernel
theorem dX7_drawPacket_78 : decode cX7_drawPacket 78 = .ok (.invokevirtual 199, 3) := by decide +kernel
theorem dX7_drawPacket_81 : decode cX7_drawPacket 81 = .ok (.istore_n 3, 1) := by decide +kernel
theorem dX7_drawPacket_82 : decode cX7_drawPacket 82 = .ok (.aload_n 0, 1) := by decide +kernel
theorem dX7_drawPacket_83 : decode cX7_drawPacket 83 = .ok (.getfield 49, 3) := by decide +kernel
theorem dX7_drawPacket_86 : decode cX7_drawPacket 86 = .ok (.iload_n 3, 1) := by decide +kernel
theorem dX7_drawPacket_87 : decode cX7_drawPacket 87 = .ok (.bipush 8, 2) := by decide +kernel
theorem dX7_drawPacket_89 : decode cX7_drawPacket 89 = .ok (.idiv, 1) := by decide +kernel
theorem dX7_drawPacket_90 : decode cX7_drawPacket 90 = .ok (.dup2, 1) := by decide +kernel
theorem dX7_drawPacket_91 : decode cX7_drawPacket 91 = .ok (.iaload, 1) := by decide +kernel
theorem dX7_drawPacket_92 : decode cX7_drawPacket 92 = .ok (.iconst 1, 1) := by decide +kernel
theorem dX7_drawPacket_93 : decode cX7_drawPacket 93 = .ok (.iload_n 3, 1) := by decide +kernel
theorem dX7_drawPacket_94 : decode cX7_drawPacket 94 = .ok (.bipush 8, 2) := by decide +kernel
theorem dX7_drawPacket_96 : decode cX7_drawPacket 96 = .ok (.irem, 1) := by decide +kernel
theorem dX7_drawPacket_97 : decode cX7_drawPacket 97 = .ok (.ishl, 1) := by decide +kernel
theorem dX7_drawPacket_98 : decode cX7_drawPacket 98 = .ok (.ixor, 1) := by decide +kernel
theorem dX7_drawPacket_99 : decode cX7_drawPacket 99 = .ok (.iastore, 1) := by decide +kernel
theorem dX7_drawPacket_100 : decode cX7_drawPacket 100 = .ok (.return_, 1) := by decide +kernel
end
section
theorem dX8_init_0 : decode cX8_init 0 = .ok (.aload_n 0, 1) := by decide +kernel
theorem dX8_init_1 : decode cX8_init 1 = .ok (.invokespecial 1, 3) := by decide +kernel
theorem dX8_init_4 : decode cX8_init 4 = .ok (.aload_n 0, 1) := by decide +kernel
theorem dX8_init_5 : decode cX8_init 5 = .ok (.sipush 508, 3) := by decide +kernel
theorem dX8_init_8 : decode cX8_init 8 = .ok (.newarray .int, 2) := by decide +kernel
theorem dX8_init_10 : decode cX8_init 10 = .ok (.putfield 7, 3) := by decide +kernel
theorem dX8_init_13 : decode cX8_init 13 = .ok (.aload_n 0, 1) := by decide +kernel
theorem dX8_init_14 : decode cX8_init 14 = .ok (.bipush 10, 2) := by decide +kernel
theorem dX8_init_16 : decode cX8_init 16 = .ok (.newarray .int, 2) := by decide +kernel
theorem dX8_init_18 : decode cX8_init 18 = .ok (.putfield 13, 3) := by decide +kernel
theorem dX8_init_21 : decode cX8_init 21 = .ok (.aload_n 0, 1) := by decide +kernel
theorem dX8_init_22 : decode cX8_init 22 = .ok (.bipush 10, 2) := by decide +kernel
theorem dX8_init_24 : decode cX8_init 24 = .ok (.newarray .int, 2) := by decide +kernel
theorem dX8_init_26 : decode cX8_init 26 = .ok (.putfield 16, 3) := by decide +kernel
theorem dX8_init_29 : decode cX8_init 29 = .ok (.aload_n 0, 1) := by decide +kernel
theorem dX8_init_30 : decode cX8_init 30 = .ok (.sipush 8128, 3) := by decide +kernel
theorem dX8_init_33 : decode cX8_init 33 = .ok (.newarray .int, 2) := by decide +kernel
theorem dX8_init_35 : decode cX8_init 35 = .ok (.putfield 19, 3) := by decide +kernel
theorem dX8_init_38 : decode cX8_init 38 = .ok (.aload_n 0, 1) := by decide +kernel
theorem dX8_init_39 : decode cX8_init 39 = .ok (.sipush 1016, 3) := by decide +kernel
theorem dX8_init_42 : decode cX8_init 42 = .ok (.newarray .int, 2) := by decide +kernel
theorem dX8_init_44 : decode cX8_init 44 = .ok (.putfield 22, 3) := by decide +kernel
theorem dX8_init_47 : decode cX8_init 47 = .ok (.aload_n 0, 1) := by decide +kernel
theorem dX8_init_48 : decode cX8_init 48 = .ok (.iconst 2, 1) := by decide +kernel
theorem dX8_init_49 : decode cX8_init 49 = .ok (.newarray .long, 2) := by decide +kernel
theorem dX8_init_51 : decode cX8_init 51 = .ok (.putfield 25, 3) := by decide +kernel
theorem dX8_init_54 : decode cX8_init 54 = .ok (.aload_n 0, 1) := by decide +kernel
theorem dX8_init_55 : decode cX8_init 55 = .ok (.iconst 2, 1) := by decide +kernel
theorem dX8_init_56 : decode cX8_init 56 = .ok (.newarray .boolean, 2) := by decide +kernel
theorem dX8_init_58 : decode cX8_init 58 = .ok (.putfield 29, 3) := by decide +kernel
theorem dX8_init_61 : decode cX8_init 61 = .ok (.aload_n 0, 1) := by decide +kernel
theorem dX8_init_62 : decode cX8_init 62 = .ok (.bipush 80, 2) := by decide +kernel
theorem dX8_init_64 : decode cX8_init 64 = .ok (.newarray .int, 2) := by decide +kernel
theorem dX8_init_66 : decode cX8_init 66 = .ok (.putfield 33, 3) := by decide +kernel
theorem dX8_init_69 : decode cX8_init 69 = .ok (.aload_n 0, 1) := by decide +kernel
theorem dX8_init_70 : decode cX8_init 70 = .ok (.bipush 60, 2) := by decide +kernel
theorem dX8_init_72 : decode cX8_init 72 = .ok (.newarray .int, 2) := by decide +kernel
theorem dX8_init_74 : decode cX8_init 74 = .ok (.putfield 36, 3) := by decide +kernel
theorem dX8_init_77 : decode cX8_init 77 = .ok (.aload_n 0, 1) := by decide +kernel
theorem dX8_init_78 : decode cX8_init 78 = .ok (.bipush 10, 2) := by decide +kernel
theorem dX8_init_80 : decode cX8_init 80 = .ok (.newarray .int, 2) := by decide +kernel
theorem dX8_init_82 : decode cX8_init 82 = .ok (.putfield 39, 3) := by decide +kernel
theorem dX8_init_85 : decode cX8_init 85 = .ok (.aload_n 0, 1) := by decide +kernel
theorem dX8_init_86 : decode cX8_init 86 = .ok (.bipush 10, 2) := by decide +kernel
theorem dX8_init_88 : decode cX8_init 88 = .ok (.newarray .int, 2) := by decide +kernel
theorem dX8_init_90 : decode cX8_init 90 = .ok (.putfield 42, 3) := by decide +kernel
theorem dX8_init_93 : decode cX8_init 93 = .ok (.aload_n 0, 1) := by decide +kernel
theorem dX8_init_94 : decode cX8_init 94 = .ok (.bipush 10, 2) := by decide +kernel
theorem dX8_init_96 : decode cX8_init 96 = .ok (.newarray .int, 2) := by decide +kernel
theorem dX8_init_98 : decode cX8_init 98 = .ok (.putfield 45, 3) := by decide +kernel
theorem dX8_init_101 : decode cX8_init 101 = .ok (.iconst 0, 1) := by decide +kernel
theorem dX8_init_102 : decode cX8_init 102 = .ok (.istore_n 1, 1) := by decide +kernel
theorem dX8_init_103 : decode cX8_init 103 = .ok (.iload_n 1, 1) := by decide +kernel
theorem dX8_init_104 : decode cX8_init 104 = .ok (.iconst 4, 1) := by decide +kernel
theorem dX8_init_105 : decode cX8_init 105 = .ok (.if_icmp .ge 18, 3) := by decide +kernel
theorem dX8_init_108 : decode cX8_init 108 = .ok (.aload_n 0, 1) := by decide +kernel
theorem dX8_init_109 : decode cX8_init 109 = .ok (.getfield 7, 3) := by decide +kernel
theorem dX8_init_112 : decode cX8_init 112 = .ok (.iconst 4, 1) := by decide +kernel
theorem dX8_init_113 : decode cX8_init 113 = .ok (.iload_n 1, 1) := by decide +kernel
theorem dX8_init_114 : decode cX8_init 114 = .ok (.iadd, 1) := by decide +kernel
theorem dX8_init_115 : decode cX8_init 115 = .ok (.iconst (-1), 1) := by decide +kernel
theorem dX8_init_116 : decode cX8_init 116 = .ok (.iastore, 1) := by decide +kernel
theorem dX8_init_117 : decode cX8_init 117 = .ok (.iinc 1 1, 3) := by decide +kernel
theorem dX8_init_120 : decode cX8_init 120 = .ok (.goto (-17), 3) := by decide +kernel
theorem dX8_init_123 : decode cX8_init 123 = .ok (.return_, 1) := by decide +kernel
theorem dX8_in_0 : decode cX8_in 0 = .ok (.lload_n 0, 1) := by decide +kernel
theorem dX8_in_1 : decode cX8_in 1 = .ok (.lload_n 2, 1) := by decide +kernel
theorem dX8_in_2 : decode cX8_in 2 = .ok (.lcmp, 1) := by decide +kernel
theorem dX8_in_3 : decode cX8_in 3 = .ok (.ifCond .lt 14, 3) := by decide +kernel
theorem dX8_in_6 : decode cX8_in 6 = .ok (.lload_n 0, 1) := by decide +kernel
theorem dX8_in_7 : decode cX8_in 7 = .ok (.lload 4, 2) := by decide +kernel
theorem dX8_in_9 : decode cX8_in 9 = .ok (.lcmp, 1) := by decide +kernel
theorem dX8_in_10 : decode cX8_in 10 = .ok (.ifCond .gt 7, 3) := by decide +kernel
theorem dX8_in_13 : decode cX8_in 13 = .ok (.iconst 1, 1) := by decide +kernel
theorem dX8_in_14 : decode cX8_in 14 = .ok (.goto 4, 3) := by decide +kernel
theorem dX8_in_17 : decode cX8_in 17 = .ok (.iconst 0, 1) := by decide +kernel
theorem dX8_in_18 : decode cX8_in 18 = .ok (.ireturn, 1) := by decide +kernel
theorem dX8_at_0 : decode cX8_at 0 = .ok (.bipush 8, 2) := by decide +kernel
theorem dX8_at_2 : decode cX8_at 2 = .ok (.bipush 50, 2) := by decide +kernel
theorem dX8_at_4 : decode cX8_at 4 = .ok (.iload_n 0, 1) := by decide +kernel
theorem dX8_at_5 : decode cX8_at 5 = .ok (.imul, 1) := by decide +kernel
theorem dX8_at_6 : decode cX8_at 6 = .ok (.iadd, 1) := by decide +kernel
theorem dX8_at_7 : decode cX8_at 7 = .ok (.ireturn, 1) := by decide +kernel
set_option maxRecDepth 20000 in
theorem ggX8_of_X8_at : GoodIn wsX8_of wsX8_at := goodIn_r _ [5] (by decide +kernel) (by decide +kernel)
set_option maxRecDepth 20000 in
theorem gX8_of_X8_at : GoodIn wsX8_of (va_wsS RX8 52 yX8_at wsX8_at) := goodIn_app (goodIn_of _ (by decide +kernel)) ggX8_of_X8_at
theorem dX8_of_0 : decode cX8_of 0 = .ok (.aload_n 0, 1) := by decide +kernel
theorem dX8_of_1 : decode cX8_of 1 = .ok (.getfield 7, 3) := by decide +kernel
theorem dX8_of_4 : decode cX8_of 4 = .ok (.iload_n 1, 1) := by decide +kernel
theorem dX8_of_5 : decode cX8_of 5 = .ok (.invokestatic 52, 3) := by decide +kernel
theorem dX8_of_8 : decode cX8_of 8 = .ok (.iload_n 2, 1) := by decide +kernel
theorem dX8_of_9 : decode cX8_of 9 = .ok (.iadd, 1) := by decide +kernel
theorem dX8_of_10 : decode cX8_of 10 = .ok (.iaload, 1) := by decide +kernel
theorem dX8_of_11 : decode cX8_of 11 = .ok (.ireturn, 1) := by decide +kernel
theorem dX8_ones_0 : decode cX8_ones 0 = .ok (.iconst 0, 1) := by decide +kernel
theorem dX8_ones_1 : decode cX8_ones 1 = .ok (.istore_n 1, 1) := by decide +kernel
theorem dX8_ones_2 : decode cX8_ones 2 = .ok (.iconst 0, 1) := by decide +kernel
theorem dX8_ones_3 : decode cX8_ones 3 = .ok (.istore_n 2, 1) := by decide +kernel
theorem dX8_ones_4 : decode cX8_ones 4 = .ok (.iload_n 2, 1) := by decide +kernel
theorem dX8_ones_5 : decode cX8_ones 5 = .ok (.bipush 8, 2) := by decide +kernel
theorem dX8_ones_7 : decode cX8_ones 7 = .ok (.if_icmp .ge 17, 3) := by decide +kernel
theorem dX8_ones_10 : decode cX8_ones 10 = .ok (.iload_n 1, 1) := by decide +kernel
theorem dX8_ones_11 : decode cX8_ones 11 = .ok (.iload_n 0, 1) := by decide +kernel
theorem dX8_ones_12 : decode cX8_ones 12 = .ok (.iload_n 2, 1) := by decide +kernel
theorem dX8_ones_13 : decode cX8_ones 13 = .ok (.ishr, 1) := by decide +kernel
theorem dX8_ones_14 : decode cX8_ones 14 = .ok (.iconst 1, 1) := by decide +kernel
theorem dX8_ones_15 : decode cX8_ones 15 = .ok (.iand, 1) := by decide +kernel
theorem dX8_ones_16 : decode cX8_ones 16 = .ok (.iadd, 1) := by decide +kernel
theorem dX8_ones_17 : decode cX8_ones 17 = .ok (.istore_n 1, 1) := by decide +kernel
theorem dX8_ones_18 : decode cX8_ones 18 = .ok (.iinc 2 1, 3) := by decide +kernel
theorem dX8_ones_21 : decode cX8_ones 21 = .ok (.goto (-17), 3) := by decide +kernel
theorem dX8_ones_24 : decode cX8_ones 24 = .ok (.iload_n 1, 1) := by decide +kernel
theorem dX8_ones_25 : decode cX8_ones 25 = .ok (.ireturn, 1) := by decide +kernel
theorem dX8_even_0 : decode cX8_even 0 = .ok (.iload_n 0, 1) := by decide +kernel
theorem dX8_even_1 : decode cX8_even 1 = .ok (.iconst 2, 1) := by decide +kernel
theorem dX8_even_2 : decode cX8_even 2 = .ok (.irem, 1) := by decide +kernel
theorem dX8_even_3 : decode cX8_even 3 = .ok (.ifCond .ne 7, 3) := by decide +kernel
theorem dX8_even_6 : decode cX8_even 6 = .ok (.iconst 1, 1) := by decide +kernel
theorem dX8_even_7 : decode cX8_even 7 = .ok (.goto 4, 3) := by decide +kernel
theorem dX8_even_10 : decode cX8_even 10 = .ok (.iconst 0, 1) := by decide +kernel
theorem dX8_even_11 : decode cX8_even 11 = .ok (.ireturn, 1) := by decide +kernel
set_option maxRecDepth 20000 in
theorem ggX8_codeOf_X8_even : GoodIn wsX8_codeOf wsX8_even := goodIn_r _ [4] (by decide +kernel) (by decide +kernel)
set_option maxRecDepth 20000 in
theorem gX8_codeOf_X8_even : GoodIn wsX8_codeOf (va_wsS RX8 56 yX8_even wsX8_even) := goodIn_app (goodIn_of _ (by decide +kernel)) ggX8_codeOf_X8_even
theorem dX8_codeOf_0 : decode cX8_codeOf 0 = .ok (.iload_n 0, 1) := by decide +kernel
theorem dX8_codeOf_1 : decode cX8_codeOf 1 = .ok (.iconst 1, 1) := by decide +kernel
theorem dX8_codeOf_2 : decode cX8_codeOf 2 = .ok (.iand, 1) := by decide +kernel
theorem dX8_codeOf_3 : decode cX8_codeOf 3 = .ok (.istore_n 1, 1) := by decide +kernel
theorem dX8_codeOf_4 : decode cX8_codeOf 4 = .ok (.iload_n 0, 1) := by decide +kernel
theorem dX8_codeOf_5 : decode cX8_codeOf 5 = .ok (.iconst 1, 1) := by decide +kernel
theorem dX8_codeOf_6 : decode cX8_codeOf 6 = .ok (.ishr, 1) := by decide +kernel
theorem dX8_codeOf_7 : decode cX8_codeOf 7 = .ok (.iconst 1, 1) := by decide +kernel
theorem dX8_codeOf_8 : decode cX8_codeOf 8 = .ok (.iand, 1) := by decide +kernel
theorem dX8_codeOf_9 : decode cX8_codeOf 9 = .ok (.istore_n 2, 1) := by decide +kernel
theorem dX8_codeOf_10 : decode cX8_codeOf 10 = .ok (.iload_n 0, 1) := by decide +kernel
theorem dX8_codeOf_11 : decode cX8_codeOf 11 = .ok (.iconst 2, 1) := by decide +kernel
theorem dX8_codeOf_12 : decode cX8_codeOf 12 = .ok (.ishr, 1) := by decide +kernel
theorem dX8_codeOf_13 : decode cX8_codeOf 13 = .ok (.iconst 1, 1) := by decide +kernel
theorem dX8_codeOf_14 : decode cX8_codeOf 14 = .ok (.iand, 1) := by decide +kernel
theorem dX8_codeOf_15 : decode cX8_codeOf 15 = .ok (.istore_n 3, 1) := by decide +kernel
theorem dX8_codeOf_16 : decode cX8_codeOf 16 = .ok (.iload_n 0, 1) := by decide +kernel
theorem dX8_codeOf_17 : decode cX8_codeOf 17 = .ok (.iconst 3, 1) := by decide +kernel
theorem dX8_codeOf_18 : decode cX8_codeOf 18 = .ok (.ishr, 1) := by decide +kernel
theorem dX8_codeOf_19 : decode cX8_codeOf 19 = .ok (.iconst 1, 1) := by decide +kernel
theorem dX8_codeOf_20 : decode cX8_codeOf 20 = .ok (.iand, 1) := by decide +kernel
theorem dX8_codeOf_21 : decode cX8_codeOf 21 = .ok (.istore 4, 2) := by decide +kernel
theorem dX8_codeOf_23 : decode cX8_codeOf 23 = .ok (.iload_n 1, 1) := by decide +kernel
theorem dX8_codeOf_24 : decode cX8_codeOf 24 = .ok (.iload_n 3, 1) := by decide +kernel
theorem dX8_codeOf_25 : decode cX8_codeOf 25 = .ok (.iadd, 1) := by decide +kernel
theorem dX8_codeOf_26 : decode cX8_codeOf 26 = .ok (.iload 4, 2) := by decide +kernel
theorem dX8_codeOf_28 : decode cX8_codeOf 28 = .ok (.iadd, 1) := by decide +kernel
theorem dX8_codeOf_29 : decode cX8_codeOf 29 = .ok (.invokestatic 56, 3) := by decide +kernel
theorem dX8_codeOf_32 : decode cX8_codeOf 32 = .ok (.istore 5, 2) := by decide +kernel
theorem dX8_codeOf_34 : decode cX8_codeOf 34 = .ok (.iload_n 1, 1) := by decide +kernel
theorem dX8_codeOf_35 : decode cX8_codeOf 35 = .ok (.iload_n 2, 1) := by decide +kernel
theorem dX8_codeOf_36 : decode cX8_codeOf 36 = .ok (.iadd, 1) := by decide +kernel
theorem dX8_codeOf_37 : decode cX8_codeOf 37 = .ok (.iload 4, 2) := by decide +kernel
theorem dX8_codeOf_39 : decode cX8_codeOf 39 = .ok (.iadd, 1) := by decide +kernel
theorem dX8_codeOf_40 : decode cX8_codeOf 40 = .ok (.invokestatic 56, 3) := by decide +kernel
theorem dX8_codeOf_43 : decode cX8_codeOf 43 = .ok (.istore 6, 2) := by decide +kernel
theorem dX8_codeOf_45 : decode cX8_codeOf 45 = .ok (.iload_n 1, 1) := by decide +kernel
theorem dX8_codeOf_46 : decode cX8_codeOf 46 = .ok (.iload_n 2, 1) := by decide +kernel
theorem dX8_codeOf_47 : decode cX8_codeOf 47 = .ok (.iadd, 1) := by decide +kernel
theorem dX8_codeOf_48 : decode cX8_codeOf 48 = .ok (.iload_n 3, 1) := by decide +kernel
theorem dX8_codeOf_49 : decode cX8_codeOf 49 = .ok (.iadd, 1) := by decide +kernel
theorem dX8_codeOf_50 : decode cX8_codeOf 50 = .ok (.invokestatic 56, 3) := by decide +kernel
theorem dX8_codeOf_53 : decode cX8_codeOf 53 = .ok (.istore 7, 2) := by decide +kernel
theorem dX8_codeOf_55 : decode cX8_codeOf 55 = .ok (.iload 5, 2) := by decide +kernel
theorem dX8_codeOf_57 : decode cX8_codeOf 57 = .ok (.iload_n 1, 1) := by decide +kernel
theorem dX8_codeOf_58 : decode cX8_codeOf 58 = .ok (.iadd, 1) := by decide +kernel
theorem dX8_codeOf_59 : decode cX8_codeOf 59 = .ok (.iload 6, 2) := by decide +kernel
theorem dX8_codeOf_61 : decode cX8_codeOf 61 = .ok (.iadd, 1) := by decide +kernel
theorem dX8_codeOf_62 : decode cX8_codeOf 62 = .ok (.iload_n 2, 1) := by decide +kernel
theorem dX8_codeOf_63 : decode cX8_codeOf 63 = .ok (.iadd, 1) := by decide +kernel
theorem dX8_codeOf_64 : decode cX8_codeOf 64 = .ok (.iload 7, 2) := by decide +kernel
theorem dX8_codeOf_66 : decode cX8_codeOf 66 = .ok (.iadd, 1) := by decide +kernel
theorem dX8_codeOf_67 : decode cX8_codeOf 67 = .ok (.iload_n 3, 1) := by decide +kernel
theorem dX8_codeOf_68 : decode cX8_codeOf 68 = .ok (.iadd, 1) := by decide +kernel
theorem dX8_codeOf_69 : decode cX8_codeOf 69 = .ok (.iload 4, 2) := by decide +kernel
theorem dX8_codeOf_71 : decode cX8_codeOf 71 = .ok (.iadd, 1) := by decide +kernel
theorem dX8_codeOf_72 : decode cX8_codeOf 72 = .ok (.invokestatic 56, 3) := by decide +kernel
theorem dX8_codeOf_75 : decode cX8_codeOf 75 = .ok (.istore 8, 2) := by decide +kernel
theorem dX8_codeOf_77 : decode cX8_codeOf 77 = .ok (.iload 5, 2) := by decide +kernel
theorem dX8_codeOf_79 : decode cX8_codeOf 79 = .ok (.iload_n 1, 1) := by decide +kernel
theorem dX8_codeOf_80 : decode cX8_codeOf 80 = .ok (.iconst 1, 1) := by decide +kernel
theorem dX8_codeOf_81 : decode cX8_codeOf 81 = .ok (.ishl, 1) := by decide +kernel
theorem dX8_codeOf_82 : decode cX8_codeOf 82 = .ok (.ior, 1) := by decide +kernel
theorem dX8_codeOf_83 : decode cX8_codeOf 83 = .ok (.iload 6, 2) := by decide +kernel
theorem dX8_codeOf_85 : decode cX8_codeOf 85 = .ok (.iconst 2, 1) := by decide +kernel
theorem dX8_codeOf_86 : decode cX8_codeOf 86 = .ok (.ishl, 1) := by decide +kernel
theorem dX8_codeOf_87 : decode cX8_codeOf 87 = .ok (.ior, 1) := by decide +kernel
theorem dX8_codeOf_88 : decode cX8_codeOf 88 = .ok (.iload_n 2, 1) := by decide +kernel
theorem dX8_codeOf_89 : decode cX8_codeOf 89 = .ok (.iconst 3, 1) := by decide +kernel
theorem dX8_codeOf_90 : decode cX8_codeOf 90 = .ok (.ishl, 1) := by decide +kernel
theorem dX8_codeOf_91 : decode cX8_codeOf 91 = .ok (.ior, 1) := by decide +kernel
theorem dX8_codeOf_92 : decode cX8_codeOf 92 = .ok (.iload 7, 2) := by decide +kernel
theorem dX8_codeOf_94 : decode cX8_codeOf 94 = .ok (.iconst 4, 1) := by decide +kernel
theorem dX8_codeOf_95 : decode cX8_codeOf 95 = .ok (.ishl, 1) := by decide +kernel
theorem dX8_codeOf_96 : decode cX8_codeOf 96 = .ok (.ior, 1) := by decide +kernel
theorem dX8_codeOf_97 : decode cX8_codeOf 97 = .ok (.iload_n 3, 1) := by decide +kernel
theorem dX8_codeOf_98 : decode cX8_codeOf 98 = .ok (.iconst 5, 1) := by decide +kernel
theorem dX8_codeOf_99 : decode cX8_codeOf 99 = .ok (.ishl, 1) := by decide +kernel
theorem dX8_codeOf_100 : decode cX8_codeOf 100 = .ok (.ior, 1) := by decide +kernel
theorem dX8_codeOf_101 : decode cX8_codeOf 101 = .ok (.iload 8, 2) := by decide +kernel
theorem dX8_codeOf_103 : decode cX8_codeOf 103 = .ok (.bipush 6, 2) := by decide +kernel
theorem dX8_codeOf_105 : decode cX8_codeOf 105 = .ok (.ishl, 1) := by decide +kernel
theorem dX8_codeOf_106 : decode cX8_codeOf 106 = .ok (.ior, 1) := by decide +kernel
theorem dX8_codeOf_107 : decode cX8_codeOf 107 = .ok (.iload 4, 2) := by decide +kernel
theorem dX8_codeOf_109 : decode cX8_codeOf 109 = .ok (.bipush 7, 2) := by decide +kernel
theorem dX8_codeOf_111 : decode cX8_codeOf 111 = .ok (.ishl, 1) := by decide +kernel
theorem dX8_codeOf_112 : decode cX8_codeOf 112 = .ok (.ior, 1) := by decide +kernel
theorem dX8_codeOf_113 : decode cX8_codeOf 113 = .ok (.ireturn, 1) := by decide +kernel
set_option maxRecDepth 20000 in
theorem ggX8_numberOf_X8_codeOf : GoodIn wsX8_numberOf wsX8_codeOf := goodIn_r _ [4, 5, 6, 3, 7] (by decide +kernel) (by decide +kernel)
set_option maxRecDepth 20000 in
theorem gX8_numberOf_X8_codeOf : GoodIn wsX8_numberOf (va_wsS RX8 59 yX8_codeOf wsX8_codeOf) := goodIn_app (goodIn_of _ (by decide +kernel)) ggX8_numberOf_X8_codeOf
set_option maxRecDepth 20000 in
theorem ggX8_numberOf_X8_ones : GoodIn wsX8_numberOf wsX8_ones := goodIn_r _ [10] (by decide +kernel) (by decide +kernel)
set_option maxRecDepth 20000 in
theorem gX8_numberOf_X8_ones : GoodIn wsX8_numberOf (va_wsS RX8 62 yX8_ones wsX8_ones) := goodIn_app (goodIn_of _ (by decide +kernel)) ggX8_numberOf_X8_ones
theorem dX8_numberOf_0 : decode cX8_numberOf 0 = .ok (.iconst (-1), 1) := by decide +kernel
theorem dX8_numberOf_1 : decode cX8_numberOf 1 = .ok (.istore_n 1, 1) := by decide +kernel
theorem dX8_numberOf_2 : decode cX8_numberOf 2 = .ok (.iconst 0, 1) := by decide +kernel
theorem dX8_numberOf_3 : decode cX8_numberOf 3 = .ok (.istore_n 2, 1) := by decide +kernel
theorem dX8_numberOf_4 : decode cX8_numberOf 4 = .ok (.iload_n 2, 1) := by decide +kernel
theorem dX8_numberOf_5 : decode cX8_numberOf 5 = .ok (.bipush 16, 2) := by decide +kernel
theorem dX8_numberOf_7 : decode cX8_numberOf 7 = .ok (.if_icmp .ge 28, 3) := by decide +kernel
theorem dX8_numberOf_10 : decode cX8_numberOf 10 = .ok (.iload_n 2, 1) := by decide +kernel
theorem dX8_numberOf_11 : decode cX8_numberOf 11 = .ok (.invokestatic 59, 3) := by decide +kernel
theorem dX8_numberOf_14 : decode cX8_numberOf 14 = .ok (.iload_n 0, 1) := by decide +kernel
theorem dX8_numberOf_15 : decode cX8_numberOf 15 = .ok (.ixor, 1) := by decide +kernel
theorem dX8_numberOf_16 : decode cX8_numberOf 16 = .ok (.invokestatic 62, 3) := by decide +kernel
theorem dX8_numberOf_19 : decode cX8_numberOf 19 = .ok (.iconst 2, 1) := by decide +kernel
theorem dX8_numberOf_20 : decode cX8_numberOf 20 = .ok (.if_icmp .ge 7, 3) := by decide +kernel
theorem dX8_numberOf_23 : decode cX8_numberOf 23 = .ok (.iload_n 2, 1) := by decide +kernel
theorem dX8_numberOf_24 : decode cX8_numberOf 24 = .ok (.goto 4, 3) := by decide +kernel
theorem dX8_numberOf_27 : decode cX8_numberOf 27 = .ok (.iload_n 1, 1) := by decide +kernel
theorem dX8_numberOf_28 : decode cX8_numberOf 28 = .ok (.istore_n 1, 1) := by decide +kernel
theorem dX8_numberOf_29 : decode cX8_numberOf 29 = .ok (.iinc 2 1, 3) := by decide +kernel
theorem dX8_numberOf_32 : decode cX8_numberOf 32 = .ok (.goto (-28), 3) := by decide +kernel
theorem dX8_numberOf_35 : decode cX8_numberOf 35 = .ok (.iload_n 1, 1) := by decide +kernel
theorem dX8_numberOf_36 : decode cX8_numberOf 36 = .ok (.ireturn, 1) := by decide +kernel
set_option maxRecDepth 20000 in
theorem ggX8_isMended_X8_numberOf : GoodIn wsX8_isMended wsX8_numberOf := goodIn_r _ [4, 5, 6, 3, 7, 8, 9, 10, 11, 12, 13] (by decide +kernel) (by decide +kernel)
set_option maxRecDepth 20000 in
theorem gX8_isMended_X8_numberOf : GoodIn wsX8_isMended (va_wsS RX8 65 yX8_numberOf wsX8_numberOf) := goodIn_app (goodIn_of _ (by decide +kernel)) ggX8_isMended_X8_numberOf
set_option maxRecDepth 20000 in
theorem ggX8_isMended_X8_codeOf : GoodIn wsX8_isMended wsX8_codeOf := goodIn_r _ [7, 8, 9, 3, 10] (by decide +kernel) (by decide +kernel)
set_option maxRecDepth 20000 in
theorem gX8_isMended_X8_codeOf : GoodIn wsX8_isMended (va_wsS RX8 59 yX8_codeOf wsX8_codeOf) := goodIn_app (goodIn_of _ (by decide +kernel)) ggX8_isMended_X8_codeOf
theorem dX8_isMended_0 : decode cX8_isMended 0 = .ok (.iload_n 0, 1) := by decide +kernel
theorem dX8_isMended_1 : decode cX8_isMended 1 = .ok (.invokestatic 65, 3) := by decide +kernel
theorem dX8_isMended_4 : decode cX8_isMended 4 = .ok (.istore_n 1, 1) := by decide +kernel
theorem dX8_isMended_5 : decode cX8_isMended 5 = .ok (.iload_n 1, 1) := by decide +kernel
theorem dX8_isMended_6 : decode cX8_isMended 6 = .ok (.iconst (-1), 1) := by decide +kernel
theorem dX8_isMended_7 : decode cX8_isMended 7 = .ok (.if_icmp .eq 15, 3) := by decide +kernel
theorem dX8_isMended_10 : decode cX8_isMended 10 = .ok (.iload_n 1, 1) := by decide +kernel
theorem dX8_isMended_11 : decode cX8_isMended 11 = .ok (.invokestatic 59, 3) := by decide +kernel
theorem dX8_isMended_14 : decode cX8_isMended 14 = .ok (.iload_n 0, 1) := by decide +kernel
theorem dX8_isMended_15 : decode cX8_isMended 15 = .ok (.if_icmp .eq 7, 3) := by decide +kernel
theorem dX8_isMended_18 : decode cX8_isMended 18 = .ok (.iconst 1, 1) := by decide +kernel
theorem dX8_isMended_19 : decode cX8_isMended 19 = .ok (.goto 4, 3) := by decide +kernel
theorem dX8_isMended_22 : decode cX8_isMended 22 = .ok (.iconst 0, 1) := by decide +kernel
theorem dX8_isMended_23 : decode cX8_isMended 23 = .ok (.ireturn, 1) := by decide +kernel
set_option maxRecDepth 20000 in
theorem ggX8_lettered_X8_ones : GoodIn wsX8_lettered wsX8_ones := goodIn_r _ [4] (by decide +kernel) (by decide +kernel)
set_option maxRecDepth 20000 in
theorem gX8_lettered_X8_ones : GoodIn wsX8_lettered (va_wsS RX8 62 yX8_ones wsX8_ones) := goodIn_app (goodIn_of _ (by decide +kernel)) ggX8_lettered_X8_ones
theorem dX8_lettered_0 : decode cX8_lettered 0 = .ok (.iload_n 0, 1) := by decide +kernel
theorem dX8_lettered_1 : decode cX8_lettered 1 = .ok (.iload_n 0, 1) := by decide +kernel
theorem dX8_lettered_2 : decode cX8_lettered 2 = .ok (.invokestatic 62, 3) := by decide +kernel
theorem dX8_lettered_5 : decode cX8_lettered 5 = .ok (.iconst 2, 1) := by decide +kernel
theorem dX8_lettered_6 : decode cX8_lettered 6 = .ok (.irem, 1) := by decide +kernel
theorem dX8_lettered_7 : decode cX8_lettered 7 = .ok (.ifCond .ne 9, 3) := by decide +kernel
theorem dX8_lettered_10 : decode cX8_lettered 10 = .ok (.sipush 128, 3) := by decide +kernel
theorem dX8_lettered_13 : decode cX8_lettered 13 = .ok (.goto 4, 3) := by decide +kernel
theorem dX8_lettered_16 : decode cX8_lettered 16 = .ok (.iconst 0, 1) := by decide +kernel
theorem dX8_lettered_17 : decode cX8_lettered 17 = .ok (.ior, 1) := by decide +kernel
theorem dX8_lettered_18 : decode cX8_lettered 18 = .ok (.ireturn, 1) := by decide +kernel
set_option maxRecDepth 20000 in
theorem ggX8_coded_X8_in : GoodIn wsX8_coded wsX8_in := goodIn_r _ [7] (by decide +kernel) (by decide +kernel)
set_option maxRecDepth 20000 in
theorem gX8_coded_X8_in : GoodIn wsX8_coded (va_wsS RX8 70 yX8_in wsX8_in) := goodIn_app (goodIn_of _ (by decide +kernel)) ggX8_coded_X8_in
set_option maxRecDepth 20000 in
theorem ggX8_coded_X8_codeOf : GoodIn wsX8_coded wsX8_codeOf := goodIn_r _ [10, 11, 12, 6, 13] (by decide +kernel) (by decide +kernel)
set_option maxRecDepth 20000 in
theorem gX8_coded_X8_codeOf : GoodIn wsX8_coded (va_wsS RX8 59 yX8_codeOf wsX8_codeOf) := goodIn_app (goodIn_of _ (by decide +kernel)) ggX8_coded_X8_codeOf
theorem dX8_coded_0 : decode cX8_coded 0 = .ok (.aload_n 0, 1) := by decide +kernel
theorem dX8_coded_1 : decode cX8_coded 1 = .ok (.iconst 0, 1) := by decide +kernel
theorem dX8_coded_2 : decode cX8_coded 2 = .ok (.putfield 48, 3) := by decide +kernel
theorem dX8_coded_5 : decode cX8_coded 5 = .ok (.iload_n 1, 1) := by decide +kernel
theorem dX8_coded_6 : decode cX8_coded 6 = .ok (.i2l, 1) := by decide +kernel
theorem dX8_coded_7 : decode cX8_coded 7 = .ok (.lconst 0, 1) := by decide +kernel
theorem dX8_coded_8 : decode cX8_coded 8 = .ok (.ldc2_w 68, 3) := by decide +kernel
theorem dX8_coded_11 : decode cX8_coded 11 = .ok (.invokestatic 70, 3) := by decide +kernel
theorem dX8_coded_14 : decode cX8_coded 14 = .ok (.ifCond .eq 10, 3) := by decide +kernel
theorem dX8_coded_17 : decode cX8_coded 17 = .ok (.iload_n 1, 1) := by decide +kernel
theorem dX8_coded_18 : decode cX8_coded 18 = .ok (.invokestatic 59, 3) := by decide +kernel
theorem dX8_coded_21 : decode cX8_coded 21 = .ok (.goto 5, 3) := by decide +kernel
theorem dX8_coded_24 : decode cX8_coded 24 = .ok (.ldc 74, 2) := by decide +kernel
theorem dX8_coded_26 : decode cX8_coded 26 = .ok (.ireturn, 1) := by decide +kernel
set_option maxRecDepth 20000 in
theorem ggX8_read_X8_in : GoodIn wsX8_read wsX8_in := goodIn_r _ [7] (by decide +kernel) (by decide +kernel)
set_option maxRecDepth 20000 in
theorem gX8_read_X8_in : GoodIn wsX8_read (va_wsS RX8 70 yX8_in wsX8_in) := goodIn_app (goodIn_of _ (by decide +kernel)) ggX8_read_X8_in
set_option maxRecDepth 20000 in
theorem ggX8_read_X8_numberOf : GoodIn wsX8_read wsX8_numberOf := goodIn_r _ [10, 11, 12, 6, 13, 14, 15, 16, 17, 18, 19] (by decide +kernel) (by decide +kernel)
set_option maxRecDepth 20000 in
theorem gX8_read_X8_numberOf : GoodIn wsX8_read (va_wsS RX8 65 yX8_numberOf wsX8_numberOf) := goodIn_app (goodIn_of _ (by decide +kernel)) ggX8_read_X8_numberOf
theorem dX8_read_0 : decode cX8_read 0 = .ok (.aload_n 0, 1) := by decide +kernel
theorem dX8_read_1 : decode cX8_read 1 = .ok (.iconst 0, 1) := by decide +kernel
theorem dX8_read_2 : decode cX8_read 2 = .ok (.putfield 48, 3) := by decide +kernel
theorem dX8_read_5 : decode cX8_read 5 = .ok (.iload_n 1, 1) := by decide +kernel
theorem dX8_read_6 : decode cX8_read 6 = .ok (.i2l, 1) := by decide +kernel
theorem dX8_read_7 : decode cX8_read 7 = .ok (.lconst 0, 1) := by decide +kernel
theorem dX8_read_8 : decode cX8_read 8 = .ok (.ldc2_w 75, 3) := by decide +kernel
theorem dX8_read_11 : decode cX8_read 11 = .ok (.invokestatic 70, 3) := by decide +kernel
theorem dX8_read_14 : decode cX8_read 14 = .ok (.ifCond .eq 10, 3) := by decide +kernel
theorem dX8_read_17 : decode cX8_read 17 = .ok (.iload_n 1, 1) := by decide +kernel
theorem dX8_read_18 : decode cX8_read 18 = .ok (.invokestatic 65, 3) := by decide +kernel
theorem dX8_read_21 : decode cX8_read 21 = .ok (.goto 5, 3) := by decide +kernel
theorem dX8_read_24 : decode cX8_read 24 = .ok (.ldc 74, 2) := by decide +kernel
theorem dX8_read_26 : decode cX8_read 26 = .ok (.ireturn, 1) := by decide +kernel
set_option maxRecDepth 20000 in
theorem ggX8_mends_X8_isMended : GoodIn wsX8_mends wsX8_isMended := goodIn_r _ [7, 8, 9, 6, 10, 11, 12, 13, 14, 15, 16, 17, 18, 19] (by decide +kernel) (by decide +kernel)
set_option maxRecDepth 20000 in
theorem gX8_mends_X8_isMended : GoodIn wsX8_mends (va_wsS RX8 77 yX8_isMended wsX8_isMended) := goodIn_app (goodIn_of _ (by decide +kernel)) ggX8_mends_X8_isMended
theorem dX8_mends_0 : decode cX8_mends 0 = .ok (.iload_n 1, 1) := by decide +kernel
theorem dX8_mends_1 : decode cX8_mends 1 = .ok (.istore_n 3, 1) := by decide +kernel
theorem dX8_mends_2 : decode cX8_mends 2 = .ok (.iload_n 3, 1) := by decide +kernel
theorem dX8_mends_3 : decode cX8_mends 3 = .ok (.iload_n 2, 1) := by decide +kernel
theorem dX8_mends_4 : decode cX8_mends 4 = .ok (.if_icmp .gt 46, 3) := by decide +kernel
theorem dX8_mends_7 : decode cX8_mends 7 = .ok (.aload_n 0, 1) := by decide +kernel
theorem dX8_mends_8 : decode cX8_mends 8 = .ok (.getfield 7, 3) := by decide +kernel
theorem dX8_mends_11 : decode cX8_mends 11 = .ok (.iconst 3, 1) := by decide +kernel
theorem dX8_mends_12 : decode cX8_mends 12 = .ok (.dup2, 1) := by decide +kernel
theorem dX8_mends_13 : decode cX8_mends 13 = .ok (.iaload, 1) := by decide +kernel
theorem dX8_mends_14 : decode cX8_mends 14 = .ok (.aload_n 0, 1) := by decide +kernel
theorem dX8_mends_15 : decode cX8_mends 15 = .ok (.getfield 13, 3) := by decide +kernel
theorem dX8_mends_18 : decode cX8_mends 18 = .ok (.iload_n 3, 1) := by decide +kernel
theorem dX8_mends_19 : decode cX8_mends 19 = .ok (.iaload, 1) := by decide +kernel
theorem dX8_mends_20 : decode cX8_mends 20 = .ok (.invokestatic 77, 3) := by decide +kernel
theorem dX8_mends_23 : decode cX8_mends 23 = .ok (.ifCond .eq 18, 3) := by decide +kernel
theorem dX8_mends_26 : decode cX8_mends 26 = .ok (.aload_n 0, 1) := by decide +kernel
theorem dX8_mends_27 : decode cX8_mends 27 = .ok (.getfield 7, 3) := by decide +kernel
theorem dX8_mends_30 : decode cX8_mends 30 = .ok (.iconst 3, 1) := by decide +kernel
theorem dX8_mends_31 : decode cX8_mends 31 = .ok (.iaload, 1) := by decide +kernel
theorem dX8_mends_32 : decode cX8_mends 32 = .ok (.ldc 81, 2) := by decide +kernel
theorem dX8_mends_34 : decode cX8_mends 34 = .ok (.if_icmp .ge 7, 3) := by decide +kernel
theorem dX8_mends_37 : decode cX8_mends 37 = .ok (.iconst 1, 1) := by decide +kernel
theorem dX8_mends_38 : decode cX8_mends 38 = .ok (.goto 4, 3) := by decide +kernel
theorem dX8_mends_41 : decode cX8_mends 41 = .ok (.iconst 0, 1) := by decide +kernel
theorem dX8_mends_42 : decode cX8_mends 42 = .ok (.iadd, 1) := by decide +kernel
theorem dX8_mends_43 : decode cX8_mends 43 = .ok (.iastore, 1) := by decide +kernel
theorem dX8_mends_44 : decode cX8_mends 44 = .ok (.iinc 3 1, 3) := by decide +kernel
theorem dX8_mends_47 : decode cX8_mends 47 = .ok (.goto (-45), 3) := by decide +kernel
theorem dX8_mends_50 : decode cX8_mends 50 = .ok (.return_, 1) := by decide +kernel
set_option maxRecDepth 20000 in
theorem ggX8_number_X8_numberOf : GoodIn wsX8_number wsX8_numberOf := goodIn_r _ [5, 6, 7, 4, 8, 9, 10, 11, 12, 13, 14] (by decide +kernel) (by decide +kernel)
set_option maxRecDepth 20000 in
theorem gX8_number_X8_numberOf : GoodIn wsX8_number (va_wsS RX8 65 yX8_numberOf wsX8_numberOf) := goodIn_app (goodIn_of _ (by decide +kernel)) ggX8_number_X8_numberOf
theorem dX8_number_0 : decode cX8_number 0 = .ok (.aload_n 0, 1) := by decide +kernel
theorem dX8_number_1 : decode cX8_number 1 = .ok (.getfield 13, 3) := by decide +kernel
theorem dX8_number_4 : decode cX8_number 4 = .ok (.iload_n 1, 1) := by decide +kernel
theorem dX8_number_5 : decode cX8_number 5 = .ok (.iaload, 1) := by decide +kernel
theorem dX8_number_6 : decode cX8_number 6 = .ok (.invokestatic 65, 3) := by decide +kernel
theorem dX8_number_9 : decode cX8_number 9 = .ok (.ireturn, 1) := by decide +kernel
set_option maxRecDepth 20000 in
theorem ggX8_pageOf_X8_of : GoodIn wsX8_pageOf wsX8_of := goodIn_r _ [6, 1, 7, 8, 5, 9, 10, 11, 12, 13, 14, 15, 16, 17, 18, 19, 20, 21, 22, 23, 24, 25, 26] (by decide +kernel) (by decide +kernel)
set_option maxRecDepth 20000 in
theorem gX8_pageOf_X8_of : GoodIn wsX8_pageOf (wsV RX8 82 RX8 yX8_of wsX8_of) := goodIn_app (goodIn_of _ (by decide +kernel)) ggX8_pageOf_X8_of
theorem dX8_pageOf_0 : decode cX8_pageOf 0 = .ok (.iconst 0, 1) := by decide +kernel
theorem dX8_pageOf_1 : decode cX8_pageOf 1 = .ok (.istore 4, 2) := by decide +kernel
theorem dX8_pageOf_3 : decode cX8_pageOf 3 = .ok (.iload 4, 2) := by decide +kernel
theorem dX8_pageOf_5 : decode cX8_pageOf 5 = .ok (.aload_n 0, 1) := by decide +kernel
theorem dX8_pageOf_6 : decode cX8_pageOf 6 = .ok (.getfield 7, 3) := by decide +kernel
theorem dX8_pageOf_9 : decode cX8_pageOf 9 = .ok (.iconst 0, 1) := by decide +kernel
theorem dX8_pageOf_10 : decode cX8_pageOf 10 = .ok (.iaload, 1) := by decide +kernel
theorem dX8_pageOf_11 : decode cX8_pageOf 11 = .ok (.if_icmp .ge 45, 3) := by decide +kernel
theorem dX8_pageOf_14 : decode cX8_pageOf 14 = .ok (.aload_n 0, 1) := by decide +kernel
theorem dX8_pageOf_15 : decode cX8_pageOf 15 = .ok (.iload 4, 2) := by decide +kernel
theorem dX8_pageOf_17 : decode cX8_pageOf 17 = .ok (.iconst 0, 1) := by decide +kernel
theorem dX8_pageOf_18 : decode cX8_pageOf 18 = .ok (.invokevirtual 82, 3) := by decide +kernel
theorem dX8_pageOf_21 : decode cX8_pageOf 21 = .ok (.iload_n 1, 1) := by decide +kernel
theorem dX8_pageOf_22 : decode cX8_pageOf 22 = .ok (.if_icmp .ne 28, 3) := by decide +kernel
theorem dX8_pageOf_25 : decode cX8_pageOf 25 = .ok (.aload_n 0, 1) := by decide +kernel
theorem dX8_pageOf_26 : decode cX8_pageOf 26 = .ok (.iload 4, 2) := by decide +kernel
theorem dX8_pageOf_28 : decode cX8_pageOf 28 = .ok (.iconst 1, 1) := by decide +kernel
theorem dX8_pageOf_29 : decode cX8_pageOf 29 = .ok (.invokevirtual 82, 3) := by decide +kernel
theorem dX8_pageOf_32 : decode cX8_pageOf 32 = .ok (.iload_n 2, 1) := by decide +kernel
theorem dX8_pageOf_33 : decode cX8_pageOf 33 = .ok (.if_icmp .ne 17, 3) := by decide +kernel
theorem dX8_pageOf_36 : decode cX8_pageOf 36 = .ok (.aload_n 0, 1) := by decide +kernel
theorem dX8_pageOf_37 : decode cX8_pageOf 37 = .ok (.iload 4, 2) := by decide +kernel
theorem dX8_pageOf_39 : decode cX8_pageOf 39 = .ok (.iconst 2, 1) := by decide +kernel
theorem dX8_pageOf_40 : decode cX8_pageOf 40 = .ok (.invokevirtual 82, 3) := by decide +kernel
theorem dX8_pageOf_43 : decode cX8_pageOf 43 = .ok (.iload_n 3, 1) := by decide +kernel
theorem dX8_pageOf_44 : decode cX8_pageOf 44 = .ok (.if_icmp .ne 6, 3) := by decide +kernel
theorem dX8_pageOf_47 : decode cX8_pageOf 47 = .ok (.iload 4, 2) := by decide +kernel
theorem dX8_pageOf_49 : decode cX8_pageOf 49 = .ok (.ireturn, 1) := by decide +kernel
theorem dX8_pageOf_50 : decode cX8_pageOf 50 = .ok (.iinc 4 1, 3) := by decide +kernel
theorem dX8_pageOf_53 : decode cX8_pageOf 53 = .ok (.goto (-50), 3) := by decide +kernel
theorem dX8_pageOf_56 : decode cX8_pageOf 56 = .ok (.iconst (-1), 1) := by decide +kernel
theorem dX8_pageOf_57 : decode cX8_pageOf 57 = .ok (.ireturn, 1) := by decide +kernel
set_option maxRecDepth 20000 in
theorem ggX8_goes_X8_at : GoodIn wsX8_goes wsX8_at := goodIn_r _ [5] (by decide +kernel) (by decide +kernel)
set_option maxRecDepth 20000 in
theorem gX8_goes_X8_at : GoodIn wsX8_goes (va_wsS RX8 52 yX8_at wsX8_at) := goodIn_app (goodIn_of _ (by decide +kernel)) ggX8_goes_X8_at
theorem dX8_goes_0 : decode cX8_goes 0 = .ok (.iload_n 1, 1) := by decide +kernel
theorem dX8_goes_1 : decode cX8_goes 1 = .ok (.invokestatic 52, 3) := by decide +kernel
theorem dX8_goes_4 : decode cX8_goes 4 = .ok (.istore_n 2, 1) := by decide +kernel
theorem dX8_goes_5 : decode cX8_goes 5 = .ok (.iload_n 2, 1) := by decide +kernel
theorem dX8_goes_6 : decode cX8_goes 6 = .ok (.aload_n 0, 1) := by decide +kernel
theorem dX8_goes_7 : decode cX8_goes 7 = .ok (.getfield 7, 3) := by decide +kernel
theorem dX8_goes_10 : decode cX8_goes 10 = .ok (.iconst 0, 1) := by decide +kernel
theorem dX8_goes_11 : decode cX8_goes 11 = .ok (.iaload, 1) := by decide +kernel
theorem dX8_goes_12 : decode cX8_goes 12 = .ok (.iconst 1, 1) := by decide +kernel
theorem dX8_goes_13 : decode cX8_goes 13 = .ok (.isub, 1) := by decide +kernel
theorem dX8_goes_14 : decode cX8_goes 14 = .ok (.invokestatic 52, 3) := by decide +kernel
theorem dX8_goes_17 : decode cX8_goes 17 = .ok (.if_icmp .ge 24, 3) := by decide +kernel
theorem dX8_goes_20 : decode cX8_goes 20 = .ok (.aload_n 0, 1) := by decide +kernel
theorem dX8_goes_21 : decode cX8_goes 21 = .ok (.getfield 7, 3) := by decide +kernel
theorem dX8_goes_24 : decode cX8_goes 24 = .ok (.iload_n 2, 1) := by decide +kernel
theorem dX8_goes_25 : decode cX8_goes 25 = .ok (.aload_n 0, 1) := by decide +kernel
theorem dX8_goes_26 : decode cX8_goes 26 = .ok (.getfield 7, 3) := by decide +kernel
theorem dX8_goes_29 : decode cX8_goes 29 = .ok (.iload_n 2, 1) := by decide +kernel
theorem dX8_goes_30 : decode cX8_goes 30 = .ok (.bipush 50, 2) := by decide +kernel
theorem dX8_goes_32 : decode cX8_goes 32 = .ok (.iadd, 1) := by decide +kernel
theorem dX8_goes_33 : decode cX8_goes 33 = .ok (.iaload, 1) := by decide +kernel
theorem dX8_goes_34 : decode cX8_goes 34 = .ok (.iastore, 1) := by decide +kernel
theorem dX8_goes_35 : decode cX8_goes 35 = .ok (.iinc 2 1, 3) := by decide +kernel
theorem dX8_goes_38 : decode cX8_goes 38 = .ok (.goto (-33), 3) := by decide +kernel
theorem dX8_goes_41 : decode cX8_goes 41 = .ok (.aload_n 0, 1) := by decide +kernel
theorem dX8_goes_42 : decode cX8_goes 42 = .ok (.getfield 7, 3) := by decide +kernel
theorem dX8_goes_45 : decode cX8_goes 45 = .ok (.iconst 0, 1) := by decide +kernel
theorem dX8_goes_46 : decode cX8_goes 46 = .ok (.dup2, 1) := by decide +kernel
theorem dX8_goes_47 : decode cX8_goes 47 = .ok (.iaload, 1) := by decide +kernel
theorem dX8_goes_48 : decode cX8_goes 48 = .ok (.iconst 1, 1) := by decide +kernel
theorem dX8_goes_49 : decode cX8_goes 49 = .ok (.isub, 1) := by decide +kernel
theorem dX8_goes_50 : decode cX8_goes 50 = .ok (.iastore, 1) := by decide +kernel
theorem dX8_goes_51 : decode cX8_goes 51 = .ok (.iconst 0, 1) := by decide +kernel
theorem dX8_goes_52 : decode cX8_goes 52 = .ok (.istore_n 2, 1) := by decide +kernel
theorem dX8_goes_53 : decode cX8_goes 53 = .ok (.iload_n 2, 1) := by decide +kernel
theorem dX8_goes_54 : decode cX8_goes 54 = .ok (.iconst 4, 1) := by decide +kernel
theorem dX8_goes_55 : decode cX8_goes 55 = .ok (.if_icmp .ge 47, 3) := by decide +kernel
theorem dX8_goes_58 : decode cX8_goes 58 = .ok (.aload_n 0, 1) := by decide +kernel
theorem dX8_goes_59 : decode cX8_goes 59 = .ok (.getfield 7, 3) := by decide +kernel
theorem dX8_goes_62 : decode cX8_goes 62 = .ok (.iconst 4, 1) := by decide +kernel
theorem dX8_goes_63 : decode cX8_goes 63 = .ok (.iload_n 2, 1) := by decide +kernel
theorem dX8_goes_64 : decode cX8_goes 64 = .ok (.iadd, 1) := by decide +kernel
theorem dX8_goes_65 : decode cX8_goes 65 = .ok (.iaload, 1) := by decide +kernel
theorem dX8_goes_66 : decode cX8_goes 66 = .ok (.istore_n 3, 1) := by decide +kernel
theorem dX8_goes_67 : decode cX8_goes 67 = .ok (.aload_n 0, 1) := by decide +kernel
theorem dX8_goes_68 : decode cX8_goes 68 = .ok (.getfield 7, 3) := by decide +kernel
theorem dX8_goes_71 : decode cX8_goes 71 = .ok (.iconst 4, 1) := by decide +kernel
theorem dX8_goes_72 : decode cX8_goes 72 = .ok (.iload_n 2, 1) := by decide +kernel
theorem dX8_goes_73 : decode cX8_goes 73 = .ok (.iadd, 1) := by decide +kernel
theorem dX8_goes_74 : decode cX8_goes 74 = .ok (.iload_n 3, 1) := by decide +kernel
theorem dX8_goes_75 : decode cX8_goes 75 = .ok (.iload_n 1, 1) := by decide +kernel
theorem dX8_goes_76 : decode cX8_goes 76 = .ok (.if_icmp .ne 7, 3) := by decide +kernel
theorem dX8_goes_79 : decode cX8_goes 79 = .ok (.iconst (-1), 1) := by decide +kernel
theorem dX8_goes_80 : decode cX8_goes 80 = .ok (.goto 15, 3) := by decide +kernel
theorem dX8_goes_83 : decode cX8_goes 83 = .ok (.iload_n 3, 1) := by decide +kernel
theorem dX8_goes_84 : decode cX8_goes 84 = .ok (.iload_n 1, 1) := by decide +kernel
theorem dX8_goes_85 : decode cX8_goes 85 = .ok (.if_icmp .le 9, 3) := by decide +kernel
theorem dX8_goes_88 : decode cX8_goes 88 = .ok (.iload_n 3, 1) := by decide +kernel
theorem dX8_goes_89 : decode cX8_goes 89 = .ok (.iconst 1, 1) := by decide +kernel
theorem dX8_goes_90 : decode cX8_goes 90 = .ok (.isub, 1) := by decide +kernel
theorem dX8_goes_91 : decode cX8_goes 91 = .ok (.goto 4, 3) := by decide +kernel
theorem dX8_goes_94 : decode cX8_goes 94 = .ok (.iload_n 3, 1) := by decide +kernel
theorem dX8_goes_95 : decode cX8_goes 95 = .ok (.iastore, 1) := by decide +kernel
theorem dX8_goes_96 : decode cX8_goes 96 = .ok (.iinc 2 1, 3) := by decide +kernel
theorem dX8_goes_99 : decode cX8_goes 99 = .ok (.goto (-46), 3) := by decide +kernel
theorem dX8_goes_102 : decode cX8_goes 102 = .ok (.return_, 1) := by decide +kernel
set_option maxRecDepth 20000 in
theorem ggX8_oldest_X8_of : GoodIn wsX8_oldest wsX8_of := goodIn_r _ [6, 1, 7, 8, 5, 9, 10, 11, 12, 13, 14, 15, 16, 17, 18, 19, 20, 21, 22, 23, 24, 25, 26] (by decide +kernel) (by decide +kernel)
set_option maxRecDepth 20000 in
theorem gX8_oldest_X8_of : GoodIn wsX8_oldest (wsV RX8 82 RX8 yX8_of wsX8_of) := goodIn_app (goodIn_of _ (by decide +kernel)) ggX8_oldest_X8_of
theorem dX8_oldest_0 : decode cX8_oldest 0 = .ok (.iconst 0, 1) := by decide +kernel
theorem dX8_oldest_1 : decode cX8_oldest 1 = .ok (.istore_n 1, 1) := by decide +kernel
theorem dX8_oldest_2 : decode cX8_oldest 2 = .ok (.iconst 1, 1) := by decide +kernel
theorem dX8_oldest_3 : decode cX8_oldest 3 = .ok (.istore_n 2, 1) := by decide +kernel
theorem dX8_oldest_4 : decode cX8_oldest 4 = .ok (.iload_n 2, 1) := by decide +kernel
theorem dX8_oldest_5 : decode cX8_oldest 5 = .ok (.aload_n 0, 1) := by decide +kernel
theorem dX8_oldest_6 : decode cX8_oldest 6 = .ok (.getfield 7, 3) := by decide +kernel
theorem dX8_oldest_9 : decode cX8_oldest 9 = .ok (.iconst 0, 1) := by decide +kernel
theorem dX8_oldest_10 : decode cX8_oldest 10 = .ok (.iaload, 1) := by decide +kernel
theorem dX8_oldest_11 : decode cX8_oldest 11 = .ok (.if_icmp .ge 30, 3) := by decide +kernel
theorem dX8_oldest_14 : decode cX8_oldest 14 = .ok (.aload_n 0, 1) := by decide +kernel
theorem dX8_oldest_15 : decode cX8_oldest 15 = .ok (.iload_n 2, 1) := by decide +kernel
theorem dX8_oldest_16 : decode cX8_oldest 16 = .ok (.iconst 5, 1) := by decide +kernel
theorem dX8_oldest_17 : decode cX8_oldest 17 = .ok (.invokevirtual 82, 3) := by decide +kernel
theorem dX8_oldest_20 : decode cX8_oldest 20 = .ok (.aload_n 0, 1) := by decide +kernel
theorem dX8_oldest_21 : decode cX8_oldest 21 = .ok (.iload_n 1, 1) := by decide +kernel
theorem dX8_oldest_22 : decode cX8_oldest 22 = .ok (.iconst 5, 1) := by decide +kernel
theorem dX8_oldest_23 : decode cX8_oldest 23 = .ok (.invokevirtual 82, 3) := by decide +kernel
theorem dX8_oldest_26 : decode cX8_oldest 26 = .ok (.if_icmp .ge 7, 3) := by decide +kernel
theorem dX8_oldest_29 : decode cX8_oldest 29 = .ok (.iload_n 2, 1) := by decide +kernel
theorem dX8_oldest_30 : decode cX8_oldest 30 = .ok (.goto 4, 3) := by decide +kernel
theorem dX8_oldest_33 : decode cX8_oldest 33 = .ok (.iload_n 1, 1) := by decide +kernel
theorem dX8_oldest_34 : decode cX8_oldest 34 = .ok (.istore_n 1, 1) := by decide +kernel
theorem dX8_oldest_35 : decode cX8_oldest 35 = .ok (.iinc 2 1, 3) := by decide +kernel
theorem dX8_oldest_38 : decode cX8_oldest 38 = .ok (.goto (-34), 3) := by decide +kernel
theorem dX8_oldest_41 : decode cX8_oldest 41 = .ok (.iload_n 1, 1) := by decide +kernel
theorem dX8_oldest_42 : decode cX8_oldest 42 = .ok (.ireturn, 1) := by decide +kernel
set_option maxRecDepth 20000 in
theorem ggX8_empties_X8_at : GoodIn wsX8_empties wsX8_at := goodIn_r _ [5] (by decide +kernel) (by decide +kernel)
set_option maxRecDepth 20000 in
theorem gX8_empties_X8_at : GoodIn wsX8_empties (va_wsS RX8 52 yX8_at wsX8_at) := goodIn_app (goodIn_of _ (by decide +kernel)) ggX8_empties_X8_at
theorem dX8_empties_0 : decode cX8_empties 0 = .ok (.bipush 6, 2) := by decide +kernel
theorem dX8_empties_2 : decode cX8_empties 2 = .ok (.istore_n 2, 1) := by decide +kernel
theorem dX8_empties_3 : decode cX8_empties 3 = .ok (.iload_n 2, 1) := by decide +kernel
theorem dX8_empties_4 : decode cX8_empties 4 = .ok (.bipush 50, 2) := by decide +kernel
theorem dX8_empties_6 : decode cX8_empties 6 = .ok (.if_icmp .ge 21, 3) := by decide +kernel
theorem dX8_empties_9 : decode cX8_empties 9 = .ok (.aload_n 0, 1) := by decide +kernel
theorem dX8_empties_10 : decode cX8_empties 10 = .ok (.getfield 7, 3) := by decide +kernel
theorem dX8_empties_13 : decode cX8_empties 13 = .ok (.iload_n 1, 1) := by decide +kernel
theorem dX8_empties_14 : decode cX8_empties 14 = .ok (.invokestatic 52, 3) := by decide +kernel
theorem dX8_empties_17 : decode cX8_empties 17 = .ok (.iload_n 2, 1) := by decide +kernel
theorem dX8_empties_18 : decode cX8_empties 18 = .ok (.iadd, 1) := by decide +kernel
theorem dX8_empties_19 : decode cX8_empties 19 = .ok (.iconst (-1), 1) := by decide +kernel
theorem dX8_empties_20 : decode cX8_empties 20 = .ok (.iastore, 1) := by decide +kernel
theorem dX8_empties_21 : decode cX8_empties 21 = .ok (.iinc 2 1, 3) := by decide +kernel
theorem dX8_empties_24 : decode cX8_empties 24 = .ok (.goto (-21), 3) := by decide +kernel
theorem dX8_empties_27 : decode cX8_empties 27 = .ok (.return_, 1) := by decide +kernel
set_option maxRecDepth 20000 in
theorem ggX8_newPage_X8_oldest : GoodIn wsX8_newPage wsX8_oldest := goodIn_r _ [6, 1, 7, 8, 9, 5, 10, 11, 12, 13, 22, 23, 24, 25, 26, 27, 28, 29, 30, 31, 32, 33, 34, 35, 36, 37, 38] (by decide +kernel) (by decide +kernel)
set_option maxRecDepth 20000 in
theorem gX8_newPage_X8_oldest : GoodIn wsX8_newPage (wsV RX8 86 RX8 yX8_oldest wsX8_oldest) := goodIn_app (goodIn_of _ (by decide +kernel)) ggX8_newPage_X8_oldest
set_option maxRecDepth 20000 in
theorem ggX8_newPage_X8_goes : GoodIn wsX8_newPage wsX8_goes := goodIn_r _ [17, 1, 11, 12, 5, 13, 22, 23, 24, 25, 26, 27, 28, 29, 30, 31, 32, 33, 34, 35, 36, 37, 38] (by decide +kernel) (by decide +kernel)
set_option maxRecDepth 20000 in
theorem gX8_newPage_X8_goes : GoodIn wsX8_newPage (wsV RX8 90 RX8 yX8_goes wsX8_goes) := goodIn_app (goodIn_of _ (by decide +kernel)) ggX8_newPage_X8_goes
set_option maxRecDepth 20000 in
theorem ggX8_newPage_X8_at : GoodIn wsX8_newPage wsX8_at := goodIn_r _ [13] (by decide +kernel) (by decide +kernel)
set_option maxRecDepth 20000 in
theorem gX8_newPage_X8_at : GoodIn wsX8_newPage (va_wsS RX8 52 yX8_at wsX8_at) := goodIn_app (goodIn_of _ (by decide +kernel)) ggX8_newPage_X8_at
set_option maxRecDepth 20000 in
theorem ggX8_newPage_X8_empties : GoodIn wsX8_newPage wsX8_empties := goodIn_r _ [21, 1, 11, 12, 5, 13, 22, 23, 24, 25, 26, 27, 28, 29, 30, 31, 32, 33, 34, 35, 36, 37, 38] (by decide +kernel) (by decide +kernel)
set_option maxRecDepth 20000 in
theorem gX8_newPage_X8_empties : GoodIn wsX8_newPage (wsV RX8 94 RX8 yX8_empties wsX8_empties) := goodIn_app (goodIn_of _ (by decide +kernel)) ggX8_newPage_X8_empties
theorem dX8_newPage_0 : decode cX8_newPage 0 = .ok (.aload_n 0, 1) := by decide +kernel
theorem dX8_newPage_1 : decode cX8_newPage 1 = .ok (.getfield 7, 3) := by decide +kernel
theorem dX8_newPage_4 : decode cX8_newPage 4 = .ok (.iconst 0, 1) := by decide +kernel
theorem dX8_newPage_5 : decode cX8_newPage 5 = .ok (.iaload, 1) := by decide +kernel
theorem dX8_newPage_6 : decode cX8_newPage 6 = .ok (.bipush 10, 2) := by decide +kernel
theorem dX8_newPage_8 : decode cX8_newPage 8 = .ok (.if_icmp .ne 11, 3) := by decide +kernel
theorem dX8_newPage_11 : decode cX8_newPage 11 = .ok (.aload_n 0, 1) := by decide +kernel
theorem dX8_newPage_12 : decode cX8_newPage 12 = .ok (.aload_n 0, 1) := by decide +kernel
theorem dX8_newPage_13 : decode cX8_newPage 13 = .ok (.invokevirtual 86, 3) := by decide +kernel
theorem dX8_newPage_16 : decode cX8_newPage 16 = .ok (.invokevirtual 90, 3) := by decide +kernel
theorem dX8_newPage_19 : decode cX8_newPage 19 = .ok (.aload_n 0, 1) := by decide +kernel
theorem dX8_newPage_20 : decode cX8_newPage 20 = .ok (.getfield 7, 3) := by decide +kernel
theorem dX8_newPage_23 : decode cX8_newPage 23 = .ok (.iconst 0, 1) := by decide +kernel
theorem dX8_newPage_24 : decode cX8_newPage 24 = .ok (.iaload, 1) := by decide +kernel
theorem dX8_newPage_25 : decode cX8_newPage 25 = .ok (.istore 4, 2) := by decide +kernel
theorem dX8_newPage_27 : decode cX8_newPage 27 = .ok (.aload_n 0, 1) := by decide +kernel
theorem dX8_newPage_28 : decode cX8_newPage 28 = .ok (.getfield 7, 3) := by decide +kernel
theorem dX8_newPage_31 : decode cX8_newPage 31 = .ok (.iconst 0, 1) := by decide +kernel
theorem dX8_newPage_32 : decode cX8_newPage 32 = .ok (.dup2, 1) := by decide +kernel
theorem dX8_newPage_33 : decode cX8_newPage 33 = .ok (.iaload, 1) := by decide +kernel
theorem dX8_newPage_34 : decode cX8_newPage 34 = .ok (.iconst 1, 1) := by decide +kernel
theorem dX8_newPage_35 : decode cX8_newPage 35 = .ok (.iadd, 1) := by decide +kernel
theorem dX8_newPage_36 : decode cX8_newPage 36 = .ok (.iastore, 1) := by decide +kernel
theorem dX8_newPage_37 : decode cX8_newPage 37 = .ok (.aload_n 0, 1) := by decide +kernel
theorem dX8_newPage_38 : decode cX8_newPage 38 = .ok (.getfield 7, 3) := by decide +kernel
theorem dX8_newPage_41 : decode cX8_newPage 41 = .ok (.iload 4, 2) := by decide +kernel
theorem dX8_newPage_43 : decode cX8_newPage 43 = .ok (.invokestatic 52, 3) := by decide +kernel
theorem dX8_newPage_46 : decode cX8_newPage 46 = .ok (.iconst 0, 1) := by decide +kernel
theorem dX8_newPage_47 : decode cX8_newPage 47 = .ok (.iadd, 1) := by decide +kernel
theorem dX8_newPage_48 : decode cX8_newPage 48 = .ok (.iload_n 1, 1) := by decide +kernel
theorem dX8_newPage_49 : decode cX8_newPage 49 = .ok (.iastore, 1) := by decide +kernel
theorem dX8_newPage_50 : decode cX8_newPage 50 = .ok (.aload_n 0, 1) := by decide +kernel
theorem dX8_newPage_51 : decode cX8_newPage 51 = .ok (.getfield 7, 3) := by decide +kernel
theorem dX8_newPage_54 : decode cX8_newPage 54 = .ok (.iload 4, 2) := by decide +kernel
theorem dX8_newPage_56 : decode cX8_newPage 56 = .ok (.invokestatic 52, 3) := by decide +kernel
theorem dX8_newPage_59 : decode cX8_newPage 59 = .ok (.iconst 1, 1) := by decide +kernel
theorem dX8_newPage_60 : decode cX8_newPage 60 = .ok (.iadd, 1) := by decide +kernel
theorem dX8_newPage_61 : decode cX8_newPage 61 = .ok (.iload_n 2, 1) := by decide +kernel
theorem dX8_newPage_62 : decode cX8_newPage 62 = .ok (.iastore, 1) := by decide +kernel
theorem dX8_newPage_63 : decode cX8_newPage 63 = .ok (.aload_n 0, 1) := by decide +kernel
theorem dX8_newPage_64 : decode cX8_newPage 64 = .ok (.getfield 7, 3) := by decide +kernel
theorem dX8_newPage_67 : decode cX8_newPage 67 = .ok (.iload 4, 2) := by decide +kernel
theorem dX8_newPage_69 : decode cX8_newPage 69 = .ok (.invokestatic 52, 3) := by decide +kernel
theorem dX8_newPage_72 : decode cX8_newPage 72 = .ok (.iconst 2, 1) := by decide +kernel
theorem dX8_newPage_73 : decode cX8_newPage 73 = .ok (.iadd, 1) := by decide +kernel
theorem dX8_newPage_74 : decode cX8_newPage 74 = .ok (.iload_n 3, 1) := by decide +kernel
theorem dX8_newPage_75 : decode cX8_newPage 75 = .ok (.iastore, 1) := by decide +kernel
theorem dX8_newPage_76 : decode cX8_newPage 76 = .ok (.aload_n 0, 1) := by decide +kernel
theorem dX8_newPage_77 : decode cX8_newPage 77 = .ok (.getfield 7, 3) := by decide +kernel
theorem dX8_newPage_80 : decode cX8_newPage 80 = .ok (.iload 4, 2) := by decide +kernel
theorem dX8_newPage_82 : decode cX8_newPage 82 = .ok (.invokestatic 52, 3) := by decide +kernel
theorem dX8_newPage_85 : decode cX8_newPage 85 = .ok (.iconst 3, 1) := by decide +kernel
theorem dX8_newPage_86 : decode cX8_newPage 86 = .ok (.iadd, 1) := by decide +kernel
theorem dX8_newPage_87 : decode cX8_newPage 87 = .ok (.iconst 0, 1) := by decide +kernel
theorem dX8_newPage_88 : decode cX8_newPage 88 = .ok (.iastore, 1) := by decide +kernel
theorem dX8_newPage_89 : decode cX8_newPage 89 = .ok (.aload_n 0, 1) := by decide +kernel
theorem dX8_newPage_90 : decode cX8_newPage 90 = .ok (.getfield 7, 3) := by decide +kernel
theorem dX8_newPage_93 : decode cX8_newPage 93 = .ok (.iload 4, 2) := by decide +kernel
theorem dX8_newPage_95 : decode cX8_newPage 95 = .ok (.invokestatic 52, 3) := by decide +kernel
theorem dX8_newPage_98 : decode cX8_newPage 98 = .ok (.iconst 4, 1) := by decide +kernel
theorem dX8_newPage_99 : decode cX8_newPage 99 = .ok (.iadd, 1) := by decide +kernel
theorem dX8_newPage_100 : decode cX8_newPage 100 = .ok (.iconst 1, 1) := by decide +kernel
theorem dX8_newPage_101 : decode cX8_newPage 101 = .ok (.iastore, 1) := by decide +kernel
theorem dX8_newPage_102 : decode cX8_newPage 102 = .ok (.aload_n 0, 1) := by decide +kernel
theorem dX8_newPage_103 : decode cX8_newPage 103 = .ok (.iload 4, 2) := by decide +kernel
theorem dX8_newPage_105 : decode cX8_newPage 105 = .ok (.invokevirtual 94, 3) := by decide +kernel
theorem dX8_newPage_108 : decode cX8_newPage 108 = .ok (.iload 4, 2) := by decide +kernel
theorem dX8_newPage_110 : decode cX8_newPage 110 = .ok (.ireturn, 1) := by decide +kernel
set_option maxRecDepth 20000 in
theorem ggX8_heads_X8_number : GoodIn wsX8_heads wsX8_number := goodIn_r _ [8, 9, 10, 11, 7, 12, 13, 14, 15, 16, 17, 18, 19, 20, 21, 52, 53, 54, 55, 56, 57, 58, 59, 60, 61, 62, 63, 64, 65, 66, 67, 68] (by decide +kernel) (by decide +kernel)
set_option maxRecDepth 20000 in
theorem gX8_heads_X8_number : GoodIn wsX8_heads (wsV RX8 97 RX8 yX8_number wsX8_number) := goodIn_app (goodIn_of _ (by decide +kernel)) ggX8_heads_X8_number
set_option maxRecDepth 20000 in
theorem ggX8_heads_X8_in : GoodIn wsX8_heads wsX8_in := goodIn_r _ [24] (by decide +kernel) (by decide +kernel)
set_option maxRecDepth 20000 in
theorem gX8_heads_X8_in : GoodIn wsX8_heads (va_wsS RX8 70 yX8_in wsX8_in) := goodIn_app (goodIn_of _ (by decide +kernel)) ggX8_heads_X8_in
set_option maxRecDepth 20000 in
theorem ggX8_heads_X8_pageOf : GoodIn wsX8_heads wsX8_pageOf := goodIn_r _ [28, 3, 29, 30, 31, 7, 32, 33, 34, 35, 52, 53, 54, 55, 56, 57, 58, 59, 60, 61, 62, 63, 64, 65, 66, 67, 68] (by decide +kernel) (by decide +kernel)
set_option maxRecDepth 20000 in
theorem gX8_heads_X8_pageOf : GoodIn wsX8_heads (wsV RX8 104 RX8 yX8_pageOf wsX8_pageOf) := goodIn_app (goodIn_of _ (by decide +kernel)) ggX8_heads_X8_pageOf
set_option maxRecDepth 20000 in
theorem ggX8_heads_X8_newPage : GoodIn wsX8_heads wsX8_newPage := goodIn_r _ [39, 3, 40, 41, 42, 7, 43, 29, 30, 31, 32, 33, 34, 35, 44, 45, 46, 47, 48, 49, 50, 51, 52, 53, 54, 55, 56, 57, 58, 59, 60, 61, 62, 63, 64, 65, 66, 67, 68] (by decide +kernel) (by decide +kernel)
set_option maxRecDepth 20000 in
theorem gX8_heads_X8_newPage : GoodIn wsX8_heads (wsV RX8 108 RX8 yX8_newPage wsX8_newPage) := goodIn_app (goodIn_of _ (by decide +kernel)) ggX8_heads_X8_newPage
set_option maxRecDepth 20000 in
theorem ggX8_heads_X8_at : GoodIn wsX8_heads wsX8_at := goodIn_r _ [35] (by decide +kernel) (by decide +kernel)
set_option maxRecDepth 20000 in
theorem gX8_heads_X8_at : GoodIn wsX8_heads (va_wsS RX8 52 yX8_at wsX8_at) := goodIn_app (goodIn_of _ (by decide +kernel)) ggX8_heads_X8_at
set_option maxRecDepth 20000 in
theorem ggX8_heads_X8_of : GoodIn wsX8_heads wsX8_of := goodIn_r _ [32, 3, 33, 34, 7, 35, 52, 53, 54, 55, 56, 57, 58, 59, 60, 61, 62, 63, 64, 65, 66, 67, 68] (by decide +kernel) (by decide +kernel)
set_option maxRecDepth 20000 in
theorem gX8_heads_X8_of : GoodIn wsX8_heads (wsV RX8 82 RX8 yX8_of wsX8_of) := goodIn_app (goodIn_of _ (by decide +kernel)) ggX8_heads_X8_of
set_option maxRecDepth 20000 in
theorem ggX8_heads_X8_empties : GoodIn wsX8_heads wsX8_empties := goodIn_r _ [51, 3, 33, 34, 7, 35, 52, 53, 54, 55, 56, 57, 58, 59, 60, 61, 62, 63, 64, 65, 66, 67, 68] (by decide +kernel) (by decide +kernel)
set_option maxRecDepth 20000 in
theorem gX8_heads_X8_empties : GoodIn wsX8_heads (wsV RX8 94 RX8 yX8_empties wsX8_empties) := goodIn_app (goodIn_of _ (by decide +kernel)) ggX8_heads_X8_empties
theorem dX8_heads_0 : decode cX8_heads 0 = .ok (.aload_n 0, 1) := by decide +kernel
theorem dX8_heads_1 : decode cX8_heads 1 = .ok (.iconst 2, 1) := by decide +kernel
theorem dX8_heads_2 : decode cX8_heads 2 = .ok (.invokevirtual 97, 3) := by decide +kernel
theorem dX8_heads_5 : decode cX8_heads 5 = .ok (.i2l, 1) := by decide +kernel
theorem dX8_heads_6 : decode cX8_heads 6 = .ok (.lconst 0, 1) := by decide +kernel
theorem dX8_heads_7 : decode cX8_heads 7 = .ok (.ldc2_w 100, 3) := by decide +kernel
theorem dX8_heads_10 : decode cX8_heads 10 = .ok (.invokestatic 70, 3) := by decide +kernel
theorem dX8_heads_13 : decode cX8_heads 13 = .ok (.ifCond .eq 48, 3) := by decide +kernel
theorem dX8_heads_16 : decode cX8_heads 16 = .ok (.aload_n 0, 1) := by decide +kernel
theorem dX8_heads_17 : decode cX8_heads 17 = .ok (.iconst 3, 1) := by decide +kernel
theorem dX8_heads_18 : decode cX8_heads 18 = .ok (.invokevirtual 97, 3) := by decide +kernel
theorem dX8_heads_21 : decode cX8_heads 21 = .ok (.i2l, 1) := by decide +kernel
theorem dX8_heads_22 : decode cX8_heads 22 = .ok (.lconst 0, 1) := by decide +kernel
theorem dX8_heads_23 : decode cX8_heads 23 = .ok (.ldc2_w 100, 3) := by decide +kernel
theorem dX8_heads_26 : decode cX8_heads 26 = .ok (.invokestatic 70, 3) := by decide +kernel
theorem dX8_heads_29 : decode cX8_heads 29 = .ok (.ifCond .eq 32, 3) := by decide +kernel
theorem dX8_heads_32 : decode cX8_heads 32 = .ok (.aload_n 0, 1) := by decide +kernel
theorem dX8_heads_33 : decode cX8_heads 33 = .ok (.iconst 4, 1) := by decide +kernel
theorem dX8_heads_34 : decode cX8_heads 34 = .ok (.invokevirtual 97, 3) := by decide +kernel
theorem dX8_heads_37 : decode cX8_heads 37 = .ok (.i2l, 1) := by decide +kernel
theorem dX8_heads_38 : decode cX8_heads 38 = .ok (.lconst 0, 1) := by decide +kernel
theorem dX8_heads_39 : decode cX8_heads 39 = .ok (.ldc2_w 102, 3) := by decide +kernel
theorem dX8_heads_42 : decode cX8_heads 42 = .ok (.invokestatic 70, 3) := by decide +kernel
theorem dX8_heads_45 : decode cX8_heads 45 = .ok (.ifCond .eq 16, 3) := by decide +kernel
theorem dX8_heads_48 : decode cX8_heads 48 = .ok (.aload_n 0, 1) := by decide +kernel
theorem dX8_heads_49 : decode cX8_heads 49 = .ok (.iconst 5, 1) := by decide +kernel
theorem dX8_heads_50 : decode cX8_heads 50 = .ok (.invokevirtual 97, 3) := by decide +kernel
theorem dX8_heads_53 : decode cX8_heads 53 = .ok (.iconst (-1), 1) := by decide +kernel
theorem dX8_heads_54 : decode cX8_heads 54 = .ok (.if_icmp .eq 7, 3) := by decide +kernel
theorem dX8_heads_57 : decode cX8_heads 57 = .ok (.iconst 1, 1) := by decide +kernel
theorem dX8_heads_58 : decode cX8_heads 58 = .ok (.goto 4, 3) := by decide +kernel
theorem dX8_heads_61 : decode cX8_heads 61 = .ok (.iconst 0, 1) := by decide +kernel
theorem dX8_heads_62 : decode cX8_heads 62 = .ok (.istore_n 2, 1) := by decide +kernel
theorem dX8_heads_63 : decode cX8_heads 63 = .ok (.iload_n 2, 1) := by decide +kernel
theorem dX8_heads_64 : decode cX8_heads 64 = .ok (.ifCond .ne 14, 3) := by decide +kernel
theorem dX8_heads_67 : decode cX8_heads 67 = .ok (.aload_n 0, 1) := by decide +kernel
theorem dX8_heads_68 : decode cX8_heads 68 = .ok (.getfield 7, 3) := by decide +kernel
theorem dX8_heads_71 : decode cX8_heads 71 = .ok (.iconst 4, 1) := by decide +kernel
theorem dX8_heads_72 : decode cX8_heads 72 = .ok (.iload_n 1, 1) := by decide +kernel
theorem dX8_heads_73 : decode cX8_heads 73 = .ok (.iadd, 1) := by decide +kernel
theorem dX8_heads_74 : decode cX8_heads 74 = .ok (.iconst (-1), 1) := by decide +kernel
theorem dX8_heads_75 : decode cX8_heads 75 = .ok (.iastore, 1) := by decide +kernel
theorem dX8_heads_76 : decode cX8_heads 76 = .ok (.iconst 0, 1) := by decide +kernel
theorem dX8_heads_77 : decode cX8_heads 77 = .ok (.ireturn, 1) := by decide +kernel
theorem dX8_heads_78 : decode cX8_heads 78 = .ok (.bipush 10, 2) := by decide +kernel
theorem dX8_heads_80 : decode cX8_heads 80 = .ok (.aload_n 0, 1) := by decide +kernel
theorem dX8_heads_81 : decode cX8_heads 81 = .ok (.iconst 3, 1) := by decide +kernel
theorem dX8_heads_82 : decode cX8_heads 82 = .ok (.invokevirtual 97, 3) := by decide +kernel
theorem dX8_heads_85 : decode cX8_heads 85 = .ok (.imul, 1) := by decide +kernel
theorem dX8_heads_86 : decode cX8_heads 86 = .ok (.aload_n 0, 1) := by decide +kernel
theorem dX8_heads_87 : decode cX8_heads 87 = .ok (.iconst 2, 1) := by decide +kernel
theorem dX8_heads_88 : decode cX8_heads 88 = .ok (.invokevirtual 97, 3) := by decide +kernel
theorem dX8_heads_91 : decode cX8_heads 91 = .ok (.iadd, 1) := by decide +kernel
theorem dX8_heads_92 : decode cX8_heads 92 = .ok (.istore_n 3, 1) := by decide +kernel
theorem dX8_heads_93 : decode cX8_heads 93 = .ok (.aload_n 0, 1) := by decide +kernel
theorem dX8_heads_94 : decode cX8_heads 94 = .ok (.iload_n 1, 1) := by decide +kernel
theorem dX8_heads_95 : decode cX8_heads 95 = .ok (.iload_n 3, 1) := by decide +kernel
theorem dX8_heads_96 : decode cX8_heads 96 = .ok (.aload_n 0, 1) := by decide +kernel
theorem dX8_heads_97 : decode cX8_heads 97 = .ok (.iconst 4, 1) := by decide +kernel
theorem dX8_heads_98 : decode cX8_heads 98 = .ok (.invokevirtual 97, 3) := by decide +kernel
theorem dX8_heads_101 : decode cX8_heads 101 = .ok (.invokevirtual 104, 3) := by decide +kernel
theorem dX8_heads_104 : decode cX8_heads 104 = .ok (.istore 4, 2) := by decide +kernel
theorem dX8_heads_106 : decode cX8_heads 106 = .ok (.iload 4, 2) := by decide +kernel
theorem dX8_heads_108 : decode cX8_heads 108 = .ok (.iconst (-1), 1) := by decide +kernel
theorem dX8_heads_109 : decode cX8_heads 109 = .ok (.if_icmp .ne 17, 3) := by decide +kernel
theorem dX8_heads_112 : decode cX8_heads 112 = .ok (.aload_n 0, 1) := by decide +kernel
theorem dX8_heads_113 : decode cX8_heads 113 = .ok (.iload_n 1, 1) := by decide +kernel
theorem dX8_heads_114 : decode cX8_heads 114 = .ok (.iload_n 3, 1) := by decide +kernel
theorem dX8_heads_115 : decode cX8_heads 115 = .ok (.aload_n 0, 1) := by decide +kernel
theorem dX8_heads_116 : decode cX8_heads 116 = .ok (.iconst 4, 1) := by decide +kernel
theorem dX8_heads_117 : decode cX8_heads 117 = .ok (.invokevirtual 97, 3) := by decide +kernel
theorem dX8_heads_120 : decode cX8_heads 120 = .ok (.invokevirtual 108, 3) := by decide +kernel
theorem dX8_heads_123 : decode cX8_heads 123 = .ok (.goto 5, 3) := by decide +kernel
theorem dX8_heads_126 : decode cX8_heads 126 = .ok (.iload 4, 2) := by decide +kernel
theorem dX8_heads_128 : decode cX8_heads 128 = .ok (.istore 4, 2) := by decide +kernel
theorem dX8_heads_130 : decode cX8_heads 130 = .ok (.aload_n 0, 1) := by decide +kernel
theorem dX8_heads_131 : decode cX8_heads 131 = .ok (.getfield 7, 3) := by decide +kernel
theorem dX8_heads_134 : decode cX8_heads 134 = .ok (.iload 4, 2) := by decide +kernel
theorem dX8_heads_136 : decode cX8_heads 136 = .ok (.invokestatic 52, 3) := by decide +kernel
theorem dX8_heads_139 : decode cX8_heads 139 = .ok (.iconst 3, 1) := by decide +kernel
theorem dX8_heads_140 : decode cX8_heads 140 = .ok (.iadd, 1) := by decide +kernel
theorem dX8_heads_141 : decode cX8_heads 141 = .ok (.dup2, 1) := by decide +kernel
theorem dX8_heads_142 : decode cX8_heads 142 = .ok (.iaload, 1) := by decide +kernel
theorem dX8_heads_143 : decode cX8_heads 143 = .ok (.aload_n 0, 1) := by decide +kernel
theorem dX8_heads_144 : decode cX8_heads 144 = .ok (.iload 4, 2) := by decide +kernel
theorem dX8_heads_146 : decode cX8_heads 146 = .ok (.iconst 3, 1) := by decide +kernel
theorem dX8_heads_147 : decode cX8_heads 147 = .ok (.invokevirtual 82, 3) := by decide +kernel
theorem dX8_heads_150 : decode cX8_heads 150 = .ok (.sipush 9999, 3) := by decide +kernel
theorem dX8_heads_153 : decode cX8_heads 153 = .ok (.if_icmp .ge 7, 3) := by decide +kernel
theorem dX8_heads_156 : decode cX8_heads 156 = .ok (.iconst 1, 1) := by decide +kernel
theorem dX8_heads_157 : decode cX8_heads 157 = .ok (.goto 4, 3) := by decide +kernel
theorem dX8_heads_160 : decode cX8_heads 160 = .ok (.iconst 0, 1) := by decide +kernel
theorem dX8_heads_161 : decode cX8_heads 161 = .ok (.iadd, 1) := by decide +kernel
theorem dX8_heads_162 : decode cX8_heads 162 = .ok (.iastore, 1) := by decide +kernel
theorem dX8_heads_163 : decode cX8_heads 163 = .ok (.aload_n 0, 1) := by decide +kernel
theorem dX8_heads_164 : decode cX8_heads 164 = .ok (.getfield 7, 3) := by decide +kernel
theorem dX8_heads_167 : decode cX8_heads 167 = .ok (.iload 4, 2) := by decide +kernel
theorem dX8_heads_169 : decode cX8_heads 169 = .ok (.invokestatic 52, 3) := by decide +kernel
theorem dX8_heads_172 : decode cX8_heads 172 = .ok (.iconst 5, 1) := by decide +kernel
theorem dX8_heads_173 : decode cX8_heads 173 = .ok (.iadd, 1) := by decide +kernel
theorem dX8_heads_174 : decode cX8_heads 174 = .ok (.aload_n 0, 1) := by decide +kernel
theorem dX8_heads_175 : decode cX8_heads 175 = .ok (.getfield 7, 3) := by decide +kernel
theorem dX8_heads_178 : decode cX8_heads 178 = .ok (.iconst 1, 1) := by decide +kernel
theorem dX8_heads_179 : decode cX8_heads 179 = .ok (.iaload, 1) := by decide +kernel
theorem dX8_heads_180 : decode cX8_heads 180 = .ok (.iastore, 1) := by decide +kernel
theorem dX8_heads_181 : decode cX8_heads 181 = .ok (.aload_n 0, 1) := by decide +kernel
theorem dX8_heads_182 : decode cX8_heads 182 = .ok (.getfield 7, 3) := by decide +kernel
theorem dX8_heads_185 : decode cX8_heads 185 = .ok (.iconst 4, 1) := by decide +kernel
theorem dX8_heads_186 : decode cX8_heads 186 = .ok (.iload_n 1, 1) := by decide +kernel
theorem dX8_heads_187 : decode cX8_heads 187 = .ok (.iadd, 1) := by decide +kernel
theorem dX8_heads_188 : decode cX8_heads 188 = .ok (.iload 4, 2) := by decide +kernel
theorem dX8_heads_190 : decode cX8_heads 190 = .ok (.iastore, 1) := by decide +kernel
theorem dX8_heads_191 : decode cX8_heads 191 = .ok (.aload_n 0, 1) := by decide +kernel
theorem dX8_heads_192 : decode cX8_heads 192 = .ok (.iconst 5, 1) := by decide +kernel
theorem dX8_heads_193 : decode cX8_heads 193 = .ok (.invokevirtual 97, 3) := by decide +kernel
theorem dX8_heads_196 : decode cX8_heads 196 = .ok (.iconst 2, 1) := by decide +kernel
theorem dX8_heads_197 : decode cX8_heads 197 = .ok (.irem, 1) := by decide +kernel
theorem dX8_heads_198 : decode cX8_heads 198 = .ok (.iconst 1, 1) := by decide +kernel
theorem dX8_heads_199 : decode cX8_heads 199 = .ok (.if_icmp .ne 9, 3) := by decide +kernel
theorem dX8_heads_202 : decode cX8_heads 202 = .ok (.aload_n 0, 1) := by decide +kernel
theorem dX8_heads_203 : decode cX8_heads 203 = .ok (.iload 4, 2) := by decide +kernel
theorem dX8_heads_205 : decode cX8_heads 205 = .ok (.invokevirtual 94, 3) := by decide +kernel
theorem dX8_heads_208 : decode cX8_heads 208 = .ok (.iconst 1, 1) := by decide +kernel
theorem dX8_heads_209 : decode cX8_heads 209 = .ok (.ireturn, 1) := by decide +kernel
set_option maxRecDepth 20000 in
theorem ggX8_rows_X8_at : GoodIn wsX8_rows wsX8_at := goodIn_r _ [6] (by decide +kernel) (by decide +kernel)
set_option maxRecDepth 20000 in
theorem gX8_rows_X8_at : GoodIn wsX8_rows (va_wsS RX8 52 yX8_at wsX8_at) := goodIn_app (goodIn_of _ (by decide +kernel)) ggX8_rows_X8_at
set_option maxRecDepth 20000 in
theorem ggX8_rows_X8_ones : GoodIn wsX8_rows wsX8_ones := goodIn_r _ [9] (by decide +kernel) (by decide +kernel)
set_option maxRecDepth 20000 in
theorem gX8_rows_X8_ones : GoodIn wsX8_rows (va_wsS RX8 62 yX8_ones wsX8_ones) := goodIn_app (goodIn_of _ (by decide +kernel)) ggX8_rows_X8_ones
theorem dX8_rows_0 : decode cX8_rows 0 = .ok (.iconst 0, 1) := by decide +kernel
theorem dX8_rows_1 : decode cX8_rows 1 = .ok (.istore_n 3, 1) := by decide +kernel
theorem dX8_rows_2 : decode cX8_rows 2 = .ok (.iload_n 3, 1) := by decide +kernel
theorem dX8_rows_3 : decode cX8_rows 3 = .ok (.bipush 8, 2) := by decide +kernel
theorem dX8_rows_5 : decode cX8_rows 5 = .ok (.if_icmp .ge 100, 3) := by decide +kernel
theorem dX8_rows_8 : decode cX8_rows 8 = .ok (.iload_n 1, 1) := by decide +kernel
theorem dX8_rows_9 : decode cX8_rows 9 = .ok (.invokestatic 52, 3) := by decide +kernel
theorem dX8_rows_12 : decode cX8_rows 12 = .ok (.bipush 10, 2) := by decide +kernel
theorem dX8_rows_14 : decode cX8_rows 14 = .ok (.iadd, 1) := by decide +kernel
theorem dX8_rows_15 : decode cX8_rows 15 = .ok (.bipush 8, 2) := by decide +kernel
theorem dX8_rows_17 : decode cX8_rows 17 = .ok (.iload_n 2, 1) := by decide +kernel
theorem dX8_rows_18 : decode cX8_rows 18 = .ok (.imul, 1) := by decide +kernel
theorem dX8_rows_19 : decode cX8_rows 19 = .ok (.iadd, 1) := by decide +kernel
theorem dX8_rows_20 : decode cX8_rows 20 = .ok (.iload_n 3, 1) := by decide +kernel
theorem dX8_rows_21 : decode cX8_rows 21 = .ok (.iadd, 1) := by decide +kernel
theorem dX8_rows_22 : decode cX8_rows 22 = .ok (.istore 4, 2) := by decide +kernel
theorem dX8_rows_24 : decode cX8_rows 24 = .ok (.aload_n 0, 1) := by decide +kernel
theorem dX8_rows_25 : decode cX8_rows 25 = .ok (.getfield 13, 3) := by decide +kernel
theorem dX8_rows_28 : decode cX8_rows 28 = .ok (.iconst 2, 1) := by decide +kernel
theorem dX8_rows_29 : decode cX8_rows 29 = .ok (.iload_n 3, 1) := by decide +kernel
theorem dX8_rows_30 : decode cX8_rows 30 = .ok (.iadd, 1) := by decide +kernel
theorem dX8_rows_31 : decode cX8_rows 31 = .ok (.iaload, 1) := by decide +kernel
theorem dX8_rows_32 : decode cX8_rows 32 = .ok (.istore 5, 2) := by decide +kernel
theorem dX8_rows_34 : decode cX8_rows 34 = .ok (.iload 5, 2) := by decide +kernel
theorem dX8_rows_36 : decode cX8_rows 36 = .ok (.invokestatic 62, 3) := by decide +kernel
theorem dX8_rows_39 : decode cX8_rows 39 = .ok (.iconst 2, 1) := by decide +kernel
theorem dX8_rows_40 : decode cX8_rows 40 = .ok (.irem, 1) := by decide +kernel
theorem dX8_rows_41 : decode cX8_rows 41 = .ok (.iconst 1, 1) := by decide +kernel
theorem dX8_rows_42 : decode cX8_rows 42 = .ok (.if_icmp .ne 18, 3) := by decide +kernel
theorem dX8_rows_45 : decode cX8_rows 45 = .ok (.aload_n 0, 1) := by decide +kernel
theorem dX8_rows_46 : decode cX8_rows 46 = .ok (.getfield 7, 3) := by decide +kernel
theorem dX8_rows_49 : decode cX8_rows 49 = .ok (.iload 4, 2) := by decide +kernel
theorem dX8_rows_51 : decode cX8_rows 51 = .ok (.iload 5, 2) := by decide +kernel
theorem dX8_rows_53 : decode cX8_rows 53 = .ok (.bipush 127, 2) := by decide +kernel
theorem dX8_rows_55 : decode cX8_rows 55 = .ok (.iand, 1) := by decide +kernel
theorem dX8_rows_56 : decode cX8_rows 56 = .ok (.iastore, 1) := by decide +kernel
theorem dX8_rows_57 : decode cX8_rows 57 = .ok (.goto 42, 3) := by decide +kernel
theorem dX8_rows_60 : decode cX8_rows 60 = .ok (.aload_n 0, 1) := by decide +kernel
theorem dX8_rows_61 : decode cX8_rows 61 = .ok (.getfield 7, 3) := by decide +kernel
theorem dX8_rows_64 : decode cX8_rows 64 = .ok (.iload 4, 2) := by decide +kernel
theorem dX8_rows_66 : decode cX8_rows 66 = .ok (.iaload, 1) := by decide +kernel
theorem dX8_rows_67 : decode cX8_rows 67 = .ok (.iconst (-1), 1) := by decide +kernel
theorem dX8_rows_68 : decode cX8_rows 68 = .ok (.if_icmp .eq 15, 3) := by decide +kernel
theorem dX8_rows_71 : decode cX8_rows 71 = .ok (.aload_n 0, 1) := by decide +kernel
theorem dX8_rows_72 : decode cX8_rows 72 = .ok (.getfield 7, 3) := by decide +kernel
theorem dX8_rows_75 : decode cX8_rows 75 = .ok (.iload 4, 2) := by decide +kernel
theorem dX8_rows_77 : decode cX8_rows 77 = .ok (.iaload, 1) := by decide +kernel
theorem dX8_rows_78 : decode cX8_rows 78 = .ok (.bipush 127, 2) := by decide +kernel
theorem dX8_rows_80 : decode cX8_rows 80 = .ok (.if_icmp .le 19, 3) := by decide +kernel
theorem dX8_rows_83 : decode cX8_rows 83 = .ok (.aload_n 0, 1) := by decide +kernel
theorem dX8_rows_84 : decode cX8_rows 84 = .ok (.getfield 7, 3) := by decide +kernel
theorem dX8_rows_87 : decode cX8_rows 87 = .ok (.iload 4, 2) := by decide +kernel
theorem dX8_rows_89 : decode cX8_rows 89 = .ok (.sipush 128, 3) := by decide +kernel
theorem dX8_rows_92 : decode cX8_rows 92 = .ok (.iload 5, 2) := by decide +kernel
theorem dX8_rows_94 : decode cX8_rows 94 = .ok (.bipush 127, 2) := by decide +kernel
theorem dX8_rows_96 : decode cX8_rows 96 = .ok (.iand, 1) := by decide +kernel
theorem dX8_rows_97 : decode cX8_rows 97 = .ok (.iadd, 1) := by decide +kernel
theorem dX8_rows_98 : decode cX8_rows 98 = .ok (.iastore, 1) := by decide +kernel
theorem dX8_rows_99 : decode cX8_rows 99 = .ok (.iinc 3 1, 3) := by decide +kernel
theorem dX8_rows_102 : decode cX8_rows 102 = .ok (.goto (-100), 3) := by decide +kernel
theorem dX8_rows_105 : decode cX8_rows 105 = .ok (.return_, 1) := by decide +kernel
set_option maxRecDepth 20000 in
theorem ggX8_links_X8_mends : GoodIn wsX8_links wsX8_mends := goodIn_r _ [7, 2, 8, 9, 10, 11, 6, 12, 13, 14, 15, 16, 17, 18, 19, 20, 21, 22, 23, 24, 35, 36, 37, 38, 39, 40, 41, 42, 43, 44, 45, 46, 47, 48, 49, 50, 51] (by decide +kernel) (by decide +kernel)
set_option maxRecDepth 20000 in
theorem gX8_links_X8_mends : GoodIn wsX8_links (wsV RX8 111 RX8 yX8_mends wsX8_mends) := goodIn_app (goodIn_of _ (by decide +kernel)) ggX8_links_X8_mends
set_option maxRecDepth 20000 in
theorem ggX8_links_X8_number : GoodIn wsX8_links wsX8_number := goodIn_r _ [28, 8, 13, 14, 6, 15, 16, 17, 18, 19, 20, 21, 22, 23, 24, 35, 36, 37, 38, 39, 40, 41, 42, 43, 44, 45, 46, 47, 48, 49, 50, 51] (by decide +kernel) (by decide +kernel)
set_option maxRecDepth 20000 in
theorem gX8_links_X8_number : GoodIn wsX8_links (wsV RX8 97 RX8 yX8_number wsX8_number) := goodIn_app (goodIn_of _ (by decide +kernel)) ggX8_links_X8_number
set_option maxRecDepth 20000 in
theorem ggX8_links_X8_in : GoodIn wsX8_links wsX8_in := goodIn_r _ [31] (by decide +kernel) (by decide +kernel)
set_option maxRecDepth 20000 in
theorem gX8_links_X8_in : GoodIn wsX8_links (va_wsS RX8 70 yX8_in wsX8_in) := goodIn_app (goodIn_of _ (by decide +kernel)) ggX8_links_X8_in
set_option maxRecDepth 20000 in
theorem ggX8_links_X8_at : GoodIn wsX8_links wsX8_at := goodIn_r _ [34] (by decide +kernel) (by decide +kernel)
set_option maxRecDepth 20000 in
theorem gX8_links_X8_at : GoodIn wsX8_links (va_wsS RX8 52 yX8_at wsX8_at) := goodIn_app (goodIn_of _ (by decide +kernel)) ggX8_links_X8_at
theorem dX8_links_0 : decode cX8_links 0 = .ok (.aload_n 0, 1) := by decide +kernel
theorem dX8_links_1 : decode cX8_links 1 = .ok (.iconst 2, 1) := by decide +kernel
theorem dX8_links_2 : decode cX8_links 2 = .ok (.bipush 9, 2) := by decide +kernel
theorem dX8_links_4 : decode cX8_links 4 = .ok (.invokevirtual 111, 3) := by decide +kernel
theorem dX8_links_7 : decode cX8_links 7 = .ok (.iconst 0, 1) := by decide +kernel
theorem dX8_links_8 : decode cX8_links 8 = .ok (.istore_n 2, 1) := by decide +kernel
theorem dX8_links_9 : decode cX8_links 9 = .ok (.iload_n 2, 1) := by decide +kernel
theorem dX8_links_10 : decode cX8_links 10 = .ok (.iconst 4, 1) := by decide +kernel
theorem dX8_links_11 : decode cX8_links 11 = .ok (.if_icmp .ge 76, 3) := by decide +kernel
theorem dX8_links_14 : decode cX8_links 14 = .ok (.aload_n 0, 1) := by decide +kernel
theorem dX8_links_15 : decode cX8_links 15 = .ok (.iconst 2, 1) := by decide +kernel
theorem dX8_links_16 : decode cX8_links 16 = .ok (.iconst 2, 1) := by decide +kernel
theorem dX8_links_17 : decode cX8_links 17 = .ok (.iload_n 2, 1) := by decide +kernel
theorem dX8_links_18 : decode cX8_links 18 = .ok (.imul, 1) := by decide +kernel
theorem dX8_links_19 : decode cX8_links 19 = .ok (.iadd, 1) := by decide +kernel
theorem dX8_links_20 : decode cX8_links 20 = .ok (.invokevirtual 97, 3) := by decide +kernel
theorem dX8_links_23 : decode cX8_links 23 = .ok (.istore_n 3, 1) := by decide +kernel
theorem dX8_links_24 : decode cX8_links 24 = .ok (.aload_n 0, 1) := by decide +kernel
theorem dX8_links_25 : decode cX8_links 25 = .ok (.iconst 3, 1) := by decide +kernel
theorem dX8_links_26 : decode cX8_links 26 = .ok (.iconst 2, 1) := by decide +kernel
theorem dX8_links_27 : decode cX8_links 27 = .ok (.iload_n 2, 1) := by decide +kernel
theorem dX8_links_28 : decode cX8_links 28 = .ok (.imul, 1) := by decide +kernel
theorem dX8_links_29 : decode cX8_links 29 = .ok (.iadd, 1) := by decide +kernel
theorem dX8_links_30 : decode cX8_links 30 = .ok (.invokevirtual 97, 3) := by decide +kernel
theorem dX8_links_33 : decode cX8_links 33 = .ok (.istore 4, 2) := by decide +kernel
theorem dX8_links_35 : decode cX8_links 35 = .ok (.iload_n 3, 1) := by decide +kernel
theorem dX8_links_36 : decode cX8_links 36 = .ok (.i2l, 1) := by decide +kernel
theorem dX8_links_37 : decode cX8_links 37 = .ok (.lconst 0, 1) := by decide +kernel
theorem dX8_links_38 : decode cX8_links 38 = .ok (.ldc2_w 100, 3) := by decide +kernel
theorem dX8_links_41 : decode cX8_links 41 = .ok (.invokestatic 70, 3) := by decide +kernel
theorem dX8_links_44 : decode cX8_links 44 = .ok (.ifCond .eq 37, 3) := by decide +kernel
theorem dX8_links_47 : decode cX8_links 47 = .ok (.iload 4, 2) := by decide +kernel
theorem dX8_links_49 : decode cX8_links 49 = .ok (.i2l, 1) := by decide +kernel
theorem dX8_links_50 : decode cX8_links 50 = .ok (.lconst 0, 1) := by decide +kernel
theorem dX8_links_51 : decode cX8_links 51 = .ok (.ldc2_w 100, 3) := by decide +kernel
theorem dX8_links_54 : decode cX8_links 54 = .ok (.invokestatic 70, 3) := by decide +kernel
theorem dX8_links_57 : decode cX8_links 57 = .ok (.ifCond .eq 24, 3) := by decide +kernel
theorem dX8_links_60 : decode cX8_links 60 = .ok (.aload_n 0, 1) := by decide +kernel
theorem dX8_links_61 : decode cX8_links 61 = .ok (.getfield 7, 3) := by decide +kernel
theorem dX8_links_64 : decode cX8_links 64 = .ok (.iload_n 1, 1) := by decide +kernel
theorem dX8_links_65 : decode cX8_links 65 = .ok (.invokestatic 52, 3) := by decide +kernel
theorem dX8_links_68 : decode cX8_links 68 = .ok (.bipush 6, 2) := by decide +kernel
theorem dX8_links_70 : decode cX8_links 70 = .ok (.iadd, 1) := by decide +kernel
theorem dX8_links_71 : decode cX8_links 71 = .ok (.iload_n 2, 1) := by decide +kernel
theorem dX8_links_72 : decode cX8_links 72 = .ok (.iadd, 1) := by decide +kernel
theorem dX8_links_73 : decode cX8_links 73 = .ok (.bipush 10, 2) := by decide +kernel
theorem dX8_links_75 : decode cX8_links 75 = .ok (.iload 4, 2) := by decide +kernel
theorem dX8_links_77 : decode cX8_links 77 = .ok (.imul, 1) := by decide +kernel
theorem dX8_links_78 : decode cX8_links 78 = .ok (.iload_n 3, 1) := by decide +kernel
theorem dX8_links_79 : decode cX8_links 79 = .ok (.iadd, 1) := by decide +kernel
theorem dX8_links_80 : decode cX8_links 80 = .ok (.iastore, 1) := by decide +kernel
theorem dX8_links_81 : decode cX8_links 81 = .ok (.iinc 2 1, 3) := by decide +kernel
theorem dX8_links_84 : decode cX8_links 84 = .ok (.goto (-75), 3) := by decide +kernel
theorem dX8_links_87 : decode cX8_links 87 = .ok (.return_, 1) := by decide +kernel
set_option maxRecDepth 20000 in
theorem ggX8_takes_X8_mends : GoodIn wsX8_takes wsX8_mends := goodIn_r _ [8, 3, 9, 10, 11, 12, 7, 13, 14, 15, 16, 17, 18, 19, 20, 21, 22, 23, 24, 25, 73, 74, 75, 76, 77, 78, 79, 80, 81, 82, 83, 84, 85, 86, 87, 88, 89] (by decide +kernel) (by decide +kernel)
set_option maxRecDepth 20000 in
theorem gX8_takes_X8_mends : GoodIn wsX8_takes (wsV RX8 111 RX8 yX8_mends wsX8_mends) := goodIn_app (goodIn_of _ (by decide +kernel)) ggX8_takes_X8_mends
set_option maxRecDepth 20000 in
theorem ggX8_takes_X8_number : GoodIn wsX8_takes wsX8_number := goodIn_r _ [29, 9, 14, 15, 7, 16, 17, 18, 19, 20, 21, 22, 23, 24, 25, 73, 74, 75, 76, 77, 78, 79, 80, 81, 82, 83, 84, 85, 86, 87, 88, 89] (by decide +kernel) (by decide +kernel)
set_option maxRecDepth 20000 in
theorem gX8_takes_X8_number : GoodIn wsX8_takes (wsV RX8 97 RX8 yX8_number wsX8_number) := goodIn_app (goodIn_of _ (by decide +kernel)) ggX8_takes_X8_number
set_option maxRecDepth 20000 in
theorem ggX8_takes_X8_in : GoodIn wsX8_takes wsX8_in := goodIn_r _ [32] (by decide +kernel) (by decide +kernel)
set_option maxRecDepth 20000 in
theorem gX8_takes_X8_in : GoodIn wsX8_takes (va_wsS RX8 70 yX8_in wsX8_in) := goodIn_app (goodIn_of _ (by decide +kernel)) ggX8_takes_X8_in
set_option maxRecDepth 20000 in
theorem ggX8_takes_X8_heads : GoodIn wsX8_takes wsX8_heads := goodIn_r _ [36, 37, 2, 3, 26, 27, 28, 7, 29, 9, 14, 15, 16, 17, 18, 19, 20, 21, 22, 23, 24, 25, 30, 31, 32, 38, 39, 40, 41, 42, 43, 44, 45, 46, 47, 48, 49, 50, 51, 52, 53, 54, 55, 56, 57, 58, 59, 60, 61, 62, 63, 64, 73, 74, 75, 76, 77, 78, 79, 80, 81, 82, 83, 84, 85, 86, 87, 88, 89] (by decide +kernel) (by decide +kernel)
set_option maxRecDepth 20000 in
theorem gX8_takes_X8_heads : GoodIn wsX8_takes (wsV RX8 117 RX8 yX8_heads wsX8_heads) := goodIn_app (goodIn_of _ (by decide +kernel)) ggX8_takes_X8_heads
set_option maxRecDepth 20000 in
theorem ggX8_takes_X8_links : GoodIn wsX8_takes wsX8_links := goodIn_r _ [68, 37, 3, 4, 5, 6, 7, 8, 9, 10, 11, 12, 13, 14, 15, 16, 17, 18, 19, 20, 21, 22, 23, 24, 25, 26, 27, 28, 29, 30, 31, 32, 46, 47, 48, 73, 74, 75, 76, 77, 78, 79, 80, 81, 82, 83, 84, 85, 86, 87, 88, 89] (by decide +kernel) (by decide +kernel)
set_option maxRecDepth 20000 in
theorem gX8_takes_X8_links : GoodIn wsX8_takes (wsV RX8 120 RX8 yX8_links wsX8_links) := goodIn_app (goodIn_of _ (by decide +kernel)) ggX8_takes_X8_links
set_option maxRecDepth 20000 in
theorem ggX8_takes_X8_rows : GoodIn wsX8_takes wsX8_rows := goodIn_r _ [72, 9, 3, 46, 47, 7, 48, 23, 24, 25, 73, 74, 75, 76, 77, 78, 79, 80, 81, 82, 83, 84, 85, 86, 87, 88, 89] (by decide +kernel) (by decide +kernel)
set_option maxRecDepth 20000 in
theorem gX8_takes_X8_rows : GoodIn wsX8_takes (wsV RX8 123 RX8 yX8_rows wsX8_rows) := goodIn_app (goodIn_of _ (by decide +kernel)) ggX8_takes_X8_rows
theorem dX8_takes_0 : decode cX8_takes 0 = .ok (.aload_n 0, 1) := by decide +kernel
theorem dX8_takes_1 : decode cX8_takes 1 = .ok (.iconst 0, 1) := by decide +kernel
theorem dX8_takes_2 : decode cX8_takes 2 = .ok (.iconst 1, 1) := by decide +kernel
theorem dX8_takes_3 : decode cX8_takes 3 = .ok (.invokevirtual 111, 3) := by decide +kernel
theorem dX8_takes_6 : decode cX8_takes 6 = .ok (.aload_n 0, 1) := by decide +kernel
theorem dX8_takes_7 : decode cX8_takes 7 = .ok (.iconst 0, 1) := by decide +kernel
theorem dX8_takes_8 : decode cX8_takes 8 = .ok (.invokevirtual 97, 3) := by decide +kernel
theorem dX8_takes_11 : decode cX8_takes 11 = .ok (.istore_n 1, 1) := by decide +kernel
theorem dX8_takes_12 : decode cX8_takes 12 = .ok (.aload_n 0, 1) := by decide +kernel
theorem dX8_takes_13 : decode cX8_takes 13 = .ok (.iconst 1, 1) := by decide +kernel
theorem dX8_takes_14 : decode cX8_takes 14 = .ok (.invokevirtual 97, 3) := by decide +kernel
theorem dX8_takes_17 : decode cX8_takes 17 = .ok (.istore_n 2, 1) := by decide +kernel
theorem dX8_takes_18 : decode cX8_takes 18 = .ok (.iload_n 1, 1) := by decide +kernel
theorem dX8_takes_19 : decode cX8_takes 19 = .ok (.i2l, 1) := by decide +kernel
theorem dX8_takes_20 : decode cX8_takes 20 = .ok (.lconst 0, 1) := by decide +kernel
theorem dX8_takes_21 : decode cX8_takes 21 = .ok (.ldc2_w 115, 3) := by decide +kernel
theorem dX8_takes_24 : decode cX8_takes 24 = .ok (.invokestatic 70, 3) := by decide +kernel
theorem dX8_takes_27 : decode cX8_takes 27 = .ok (.ifCond .eq 15, 3) := by decide +kernel
theorem dX8_takes_30 : decode cX8_takes 30 = .ok (.iload_n 2, 1) := by decide +kernel
theorem dX8_takes_31 : decode cX8_takes 31 = .ok (.i2l, 1) := by decide +kernel
theorem dX8_takes_32 : decode cX8_takes 32 = .ok (.lconst 0, 1) := by decide +kernel
theorem dX8_takes_33 : decode cX8_takes 33 = .ok (.ldc2_w 102, 3) := by decide +kernel
theorem dX8_takes_36 : decode cX8_takes 36 = .ok (.invokestatic 70, 3) := by decide +kernel
theorem dX8_takes_39 : decode cX8_takes 39 = .ok (.ifCond .ne 5, 3) := by decide +kernel
theorem dX8_takes_42 : decode cX8_takes 42 = .ok (.iconst 0, 1) := by decide +kernel
theorem dX8_takes_43 : decode cX8_takes 43 = .ok (.ireturn, 1) := by decide +kernel
theorem dX8_takes_44 : decode cX8_takes 44 = .ok (.iload_n 2, 1) := by decide +kernel
theorem dX8_takes_45 : decode cX8_takes 45 = .ok (.ifCond .ne 15, 3) := by decide +kernel
theorem dX8_takes_48 : decode cX8_takes 48 = .ok (.aload_n 0, 1) := by decide +kernel
theorem dX8_takes_49 : decode cX8_takes 49 = .ok (.iconst 2, 1) := by decide +kernel
theorem dX8_takes_50 : decode cX8_takes 50 = .ok (.iconst 5, 1) := by decide +kernel
theorem dX8_takes_51 : decode cX8_takes 51 = .ok (.invokevirtual 111, 3) := by decide +kernel
theorem dX8_takes_54 : decode cX8_takes 54 = .ok (.aload_n 0, 1) := by decide +kernel
theorem dX8_takes_55 : decode cX8_takes 55 = .ok (.iload_n 1, 1) := by decide +kernel
theorem dX8_takes_56 : decode cX8_takes 56 = .ok (.invokevirtual 117, 3) := by decide +kernel
theorem dX8_takes_59 : decode cX8_takes 59 = .ok (.ireturn, 1) := by decide +kernel
theorem dX8_takes_60 : decode cX8_takes 60 = .ok (.iload_n 2, 1) := by decide +kernel
theorem dX8_takes_61 : decode cX8_takes 61 = .ok (.bipush 7, 2) := by decide +kernel
theorem dX8_takes_63 : decode cX8_takes 63 = .ok (.if_icmp .ne 5, 3) := by decide +kernel
theorem dX8_takes_66 : decode cX8_takes 66 = .ok (.iconst 1, 1) := by decide +kernel
theorem dX8_takes_67 : decode cX8_takes 67 = .ok (.ireturn, 1) := by decide +kernel
theorem dX8_takes_68 : decode cX8_takes 68 = .ok (.aload_n 0, 1) := by decide +kernel
theorem dX8_takes_69 : decode cX8_takes 69 = .ok (.getfield 7, 3) := by decide +kernel
theorem dX8_takes_72 : decode cX8_takes 72 = .ok (.iconst 4, 1) := by decide +kernel
theorem dX8_takes_73 : decode cX8_takes 73 = .ok (.iload_n 1, 1) := by decide +kernel
theorem dX8_takes_74 : decode cX8_takes 74 = .ok (.iadd, 1) := by decide +kernel
theorem dX8_takes_75 : decode cX8_takes 75 = .ok (.iaload, 1) := by decide +kernel
theorem dX8_takes_76 : decode cX8_takes 76 = .ok (.istore_n 3, 1) := by decide +kernel
theorem dX8_takes_77 : decode cX8_takes 77 = .ok (.iload_n 3, 1) := by decide +kernel
theorem dX8_takes_78 : decode cX8_takes 78 = .ok (.iconst (-1), 1) := by decide +kernel
theorem dX8_takes_79 : decode cX8_takes 79 = .ok (.if_icmp .ne 5, 3) := by decide +kernel
theorem dX8_takes_82 : decode cX8_takes 82 = .ok (.iconst 0, 1) := by decide +kernel
theorem dX8_takes_83 : decode cX8_takes 83 = .ok (.ireturn, 1) := by decide +kernel
theorem dX8_takes_84 : decode cX8_takes 84 = .ok (.iload_n 2, 1) := by decide +kernel
theorem dX8_takes_85 : decode cX8_takes 85 = .ok (.bipush 6, 2) := by decide +kernel
theorem dX8_takes_87 : decode cX8_takes 87 = .ok (.if_icmp .ne 11, 3) := by decide +kernel
theorem dX8_takes_90 : decode cX8_takes 90 = .ok (.aload_n 0, 1) := by decide +kernel
theorem dX8_takes_91 : decode cX8_takes 91 = .ok (.iload_n 3, 1) := by decide +kernel
theorem dX8_takes_92 : decode cX8_takes 92 = .ok (.invokevirtual 120, 3) := by decide +kernel
theorem dX8_takes_95 : decode cX8_takes 95 = .ok (.goto 11, 3) := by decide +kernel
theorem dX8_takes_98 : decode cX8_takes 98 = .ok (.aload_n 0, 1) := by decide +kernel
theorem dX8_takes_99 : decode cX8_takes 99 = .ok (.iload_n 3, 1) := by decide +kernel
theorem dX8_takes_100 : decode cX8_takes 100 = .ok (.iload_n 2, 1) := by decide +kernel
theorem dX8_takes_101 : decode cX8_takes 101 = .ok (.iconst 1, 1) := by decide +kernel
theorem dX8_takes_102 : decode cX8_takes 102 = .ok (.isub, 1) := by decide +kernel
theorem dX8_takes_103 : decode cX8_takes 103 = .ok (.invokevirtual 123, 3) := by decide +kernel
theorem dX8_takes_106 : decode cX8_takes 106 = .ok (.iconst 1, 1) := by decide +kernel
theorem dX8_takes_107 : decode cX8_takes 107 = .ok (.ireturn, 1) := by decide +kernel
set_option maxRecDepth 20000 in
theorem ggX8_comes_X8_notes : GoodIn wsX8_comes wsX8_notes := goodIn_r _ [6, 7, 8, 1, 83, 84, 85, 86, 87, 88, 89, 90, 91, 92, 93, 94, 95, 96, 97, 98, 99] (by decide +kernel) (by decide +kernel)
set_option maxRecDepth 20000 in
theorem gX8_comes_X8_notes : GoodIn wsX8_comes (wsV RX8 126 RX8 yX8_notes wsX8_notes) := goodIn_app (goodIn_of _ (by decide +kernel)) ggX8_comes_X8_notes
set_option maxRecDepth 20000 in
theorem ggX8_comes_X8_takes : GoodIn wsX8_comes wsX8_takes := goodIn_r _ [12, 13, 14, 1, 15, 16, 17, 5, 18, 19, 20, 21, 22, 23, 24, 25, 26, 27, 28, 29, 30, 31, 32, 33, 34, 35, 36, 37, 38, 39, 40, 41, 42, 43, 44, 45, 46, 47, 48, 49, 50, 51, 52, 53, 54, 55, 56, 57, 58, 59, 60, 61, 62, 63, 64, 65, 66, 67, 68, 69, 70, 71, 72, 73, 74, 75, 76, 77, 78, 79, 80, 81, 82, 83, 84, 85, 86, 87, 88, 89, 90, 91, 92, 93, 94, 95, 96, 97, 98, 99] (by decide +kernel) (by decide +kernel)
set_option maxRecDepth 20000 in
theorem gX8_comes_X8_takes : GoodIn wsX8_comes (wsV RX8 129 RX8 yX8_takes wsX8_takes) := goodIn_app (goodIn_of _ (by decide +kernel)) ggX8_comes_X8_takes
theorem dX8_comes_0 : decode cX8_comes 0 = .ok (.aload_n 0, 1) := by decide +kernel
theorem dX8_comes_1 : decode cX8_comes 1 = .ok (.invokevirtual 126, 3) := by decide +kernel
theorem dX8_comes_4 : decode cX8_comes 4 = .ok (.aload_n 0, 1) := by decide +kernel
theorem dX8_comes_5 : decode cX8_comes 5 = .ok (.getfield 7, 3) := by decide +kernel
theorem dX8_comes_8 : decode cX8_comes 8 = .ok (.iconst 1, 1) := by decide +kernel
theorem dX8_comes_9 : decode cX8_comes 9 = .ok (.dup2, 1) := by decide +kernel
theorem dX8_comes_10 : decode cX8_comes 10 = .ok (.iaload, 1) := by decide +kernel
theorem dX8_comes_11 : decode cX8_comes 11 = .ok (.iconst 1, 1) := by decide +kernel
theorem dX8_comes_12 : decode cX8_comes 12 = .ok (.iadd, 1) := by decide +kernel
theorem dX8_comes_13 : decode cX8_comes 13 = .ok (.iastore, 1) := by decide +kernel
theorem dX8_comes_14 : decode cX8_comes 14 = .ok (.aload_n 0, 1) := by decide +kernel
theorem dX8_comes_15 : decode cX8_comes 15 = .ok (.invokevirtual 129, 3) := by decide +kernel
theorem dX8_comes_18 : decode cX8_comes 18 = .ok (.ifCond .eq 5, 3) := by decide +kernel
theorem dX8_comes_21 : decode cX8_comes 21 = .ok (.iconst 1, 1) := by decide +kernel
theorem dX8_comes_22 : decode cX8_comes 22 = .ok (.ireturn, 1) := by decide +kernel
theorem dX8_comes_23 : decode cX8_comes 23 = .ok (.aload_n 0, 1) := by decide +kernel
theorem dX8_comes_24 : decode cX8_comes 24 = .ok (.getfield 7, 3) := by decide +kernel
theorem dX8_comes_27 : decode cX8_comes 27 = .ok (.iconst 2, 1) := by decide +kernel
theorem dX8_comes_28 : decode cX8_comes 28 = .ok (.dup2, 1) := by decide +kernel
theorem dX8_comes_29 : decode cX8_comes 29 = .ok (.iaload, 1) := by decide +kernel
theorem dX8_comes_30 : decode cX8_comes 30 = .ok (.iconst 1, 1) := by decide +kernel
theorem dX8_comes_31 : decode cX8_comes 31 = .ok (.iadd, 1) := by decide +kernel
theorem dX8_comes_32 : decode cX8_comes 32 = .ok (.iastore, 1) := by decide +kernel
theorem dX8_comes_33 : decode cX8_comes 33 = .ok (.iconst 0, 1) := by decide +kernel
theorem dX8_comes_34 : decode cX8_comes 34 = .ok (.ireturn, 1) := by decide +kernel
theorem dX8_notes_0 : decode cX8_notes 0 = .ok (.aload_n 0, 1) := by decide +kernel
theorem dX8_notes_1 : decode cX8_notes 1 = .ok (.getfield 133, 3) := by decide +kernel
theorem dX8_notes_4 : decode cX8_notes 4 = .ok (.bipush 16, 2) := by decide +kernel
theorem dX8_notes_6 : decode cX8_notes 6 = .ok (.if_icmp .ne 40, 3) := by decide +kernel
theorem dX8_notes_9 : decode cX8_notes 9 = .ok (.iconst 0, 1) := by decide +kernel
theorem dX8_notes_10 : decode cX8_notes 10 = .ok (.istore_n 1, 1) := by decide +kernel
theorem dX8_notes_11 : decode cX8_notes 11 = .ok (.iload_n 1, 1) := by decide +kernel
theorem dX8_notes_12 : decode cX8_notes 12 = .ok (.sipush 7620, 3) := by decide +kernel
theorem dX8_notes_15 : decode cX8_notes 15 = .ok (.if_icmp .ge 25, 3) := by decide +kernel
theorem dX8_notes_18 : decode cX8_notes 18 = .ok (.aload_n 0, 1) := by decide +kernel
theorem dX8_notes_19 : decode cX8_notes 19 = .ok (.getfield 19, 3) := by decide +kernel
theorem dX8_notes_22 : decode cX8_notes 22 = .ok (.iload_n 1, 1) := by decide +kernel
theorem dX8_notes_23 : decode cX8_notes 23 = .ok (.aload_n 0, 1) := by decide +kernel
theorem dX8_notes_24 : decode cX8_notes 24 = .ok (.getfield 19, 3) := by decide +kernel
theorem dX8_notes_27 : decode cX8_notes 27 = .ok (.iload_n 1, 1) := by decide +kernel
theorem dX8_notes_28 : decode cX8_notes 28 = .ok (.sipush 508, 3) := by decide +kernel
theorem dX8_notes_31 : decode cX8_notes 31 = .ok (.iadd, 1) := by decide +kernel
theorem dX8_notes_32 : decode cX8_notes 32 = .ok (.iaload, 1) := by decide +kernel
theorem dX8_notes_33 : decode cX8_notes 33 = .ok (.iastore, 1) := by decide +kernel
theorem dX8_notes_34 : decode cX8_notes 34 = .ok (.iinc 1 1, 3) := by decide +kernel
theorem dX8_notes_37 : decode cX8_notes 37 = .ok (.goto (-26), 3) := by decide +kernel
theorem dX8_notes_40 : decode cX8_notes 40 = .ok (.aload_n 0, 1) := by decide +kernel
theorem dX8_notes_41 : decode cX8_notes 41 = .ok (.bipush 15, 2) := by decide +kernel
theorem dX8_notes_43 : decode cX8_notes 43 = .ok (.putfield 133, 3) := by decide +kernel
theorem dX8_notes_46 : decode cX8_notes 46 = .ok (.iconst 0, 1) := by decide +kernel
theorem dX8_notes_47 : decode cX8_notes 47 = .ok (.istore_n 1, 1) := by decide +kernel
theorem dX8_notes_48 : decode cX8_notes 48 = .ok (.iload_n 1, 1) := by decide +kernel
theorem dX8_notes_49 : decode cX8_notes 49 = .ok (.sipush 508, 3) := by decide +kernel
theorem dX8_notes_52 : decode cX8_notes 52 = .ok (.if_icmp .ge 30, 3) := by decide +kernel
theorem dX8_notes_55 : decode cX8_notes 55 = .ok (.aload_n 0, 1) := by decide +kernel
theorem dX8_notes_56 : decode cX8_notes 56 = .ok (.getfield 19, 3) := by decide +kernel
theorem dX8_notes_59 : decode cX8_notes 59 = .ok (.sipush 508, 3) := by decide +kernel
theorem dX8_notes_62 : decode cX8_notes 62 = .ok (.aload_n 0, 1) := by decide +kernel
theorem dX8_notes_63 : decode cX8_notes 63 = .ok (.getfield 133, 3) := by decide +kernel
theorem dX8_notes_66 : decode cX8_notes 66 = .ok (.imul, 1) := by decide +kernel
theorem dX8_notes_67 : decode cX8_notes 67 = .ok (.iload_n 1, 1) := by decide +kernel
theorem dX8_notes_68 : decode cX8_notes 68 = .ok (.iadd, 1) := by decide +kernel
theorem dX8_notes_69 : decode cX8_notes 69 = .ok (.aload_n 0, 1) := by decide +kernel
theorem dX8_notes_70 : decode cX8_notes 70 = .ok (.getfield 7, 3) := by decide +kernel
theorem dX8_notes_73 : decode cX8_notes 73 = .ok (.iload_n 1, 1) := by decide +kernel
theorem dX8_notes_74 : decode cX8_notes 74 = .ok (.iaload, 1) := by decide +kernel
theorem dX8_notes_75 : decode cX8_notes 75 = .ok (.iastore, 1) := by decide +kernel
theorem dX8_notes_76 : decode cX8_notes 76 = .ok (.iinc 1 1, 3) := by decide +kernel
theorem dX8_notes_79 : decode cX8_notes 79 = .ok (.goto (-31), 3) := by decide +kernel
theorem dX8_notes_82 : decode cX8_notes 82 = .ok (.aload_n 0, 1) := by decide +kernel
theorem dX8_notes_83 : decode cX8_notes 83 = .ok (.dup, 1) := by decide +kernel
theorem dX8_notes_84 : decode cX8_notes 84 = .ok (.getfield 133, 3) := by decide +kernel
theorem dX8_notes_87 : decode cX8_notes 87 = .ok (.iconst 1, 1) := by decide +kernel
theorem dX8_notes_88 : decode cX8_notes 88 = .ok (.iadd, 1) := by decide +kernel
theorem dX8_notes_89 : decode cX8_notes 89 = .ok (.putfield 133, 3) := by decide +kernel
theorem dX8_notes_92 : decode cX8_notes 92 = .ok (.return_, 1) := by decide +kernel
set_option maxRecDepth 20000 in
theorem ggX8_octet_X8_in : GoodIn wsX8_octet wsX8_in := goodIn_r _ [10] (by decide +kernel) (by decide +kernel)
set_option maxRecDepth 20000 in
theorem gX8_octet_X8_in : GoodIn wsX8_octet (va_wsS RX8 70 yX8_in wsX8_in) := goodIn_app (goodIn_of _ (by decide +kernel)) ggX8_octet_X8_in
set_option maxRecDepth 20000 in
theorem ggX8_octet_X8_comes : GoodIn wsX8_octet wsX8_comes := goodIn_r _ [14, 15, 16, 17, 18, 9, 19, 20, 21, 22, 23, 24, 25, 26, 27, 28, 29, 30, 31, 6, 32, 33, 34, 35, 36, 37, 38, 39, 40, 41, 42, 43, 44, 45, 46, 47, 48, 49, 50, 51, 7, 8, 10, 52, 53, 54, 55, 56, 57, 58, 59, 60, 61, 62, 63, 64, 65, 66, 67, 68, 69, 70, 71, 72, 73, 74, 75, 76, 77, 78, 79, 80, 81, 82, 83, 84, 85, 86, 87, 88, 89, 90, 91, 92, 93, 94, 95, 96, 97, 98, 99, 100, 101, 102, 103, 104, 105, 106, 107, 108] (by decide +kernel) (by decide +kernel)
set_option maxRecDepth 20000 in
theorem gX8_octet_X8_comes : GoodIn wsX8_octet (wsV RX8 139 RX8 yX8_comes wsX8_comes) := goodIn_app (goodIn_of _ (by decide +kernel)) ggX8_octet_X8_comes
theorem dX8_octet_0 : decode cX8_octet 0 = .ok (.aload_n 0, 1) := by decide +kernel
theorem dX8_octet_1 : decode cX8_octet 1 = .ok (.iconst 0, 1) := by decide +kernel
theorem dX8_octet_2 : decode cX8_octet 2 = .ok (.putfield 48, 3) := by decide +kernel
theorem dX8_octet_5 : decode cX8_octet 5 = .ok (.iload_n 1, 1) := by decide +kernel
theorem dX8_octet_6 : decode cX8_octet 6 = .ok (.i2l, 1) := by decide +kernel
theorem dX8_octet_7 : decode cX8_octet 7 = .ok (.lconst 0, 1) := by decide +kernel
theorem dX8_octet_8 : decode cX8_octet 8 = .ok (.ldc2_w 75, 3) := by decide +kernel
theorem dX8_octet_11 : decode cX8_octet 11 = .ok (.invokestatic 70, 3) := by decide +kernel
theorem dX8_octet_14 : decode cX8_octet 14 = .ok (.ifCond .ne 6, 3) := by decide +kernel
theorem dX8_octet_17 : decode cX8_octet 17 = .ok (.ldc 74, 2) := by decide +kernel
theorem dX8_octet_19 : decode cX8_octet 19 = .ok (.ireturn, 1) := by decide +kernel
theorem dX8_octet_20 : decode cX8_octet 20 = .ok (.aload_n 0, 1) := by decide +kernel
theorem dX8_octet_21 : decode cX8_octet 21 = .ok (.getfield 16, 3) := by decide +kernel
theorem dX8_octet_24 : decode cX8_octet 24 = .ok (.aload_n 0, 1) := by decide +kernel
theorem dX8_octet_25 : decode cX8_octet 25 = .ok (.getfield 136, 3) := by decide +kernel
theorem dX8_octet_28 : decode cX8_octet 28 = .ok (.iload_n 1, 1) := by decide +kernel
theorem dX8_octet_29 : decode cX8_octet 29 = .ok (.iastore, 1) := by decide +kernel
theorem dX8_octet_30 : decode cX8_octet 30 = .ok (.aload_n 0, 1) := by decide +kernel
theorem dX8_octet_31 : decode cX8_octet 31 = .ok (.dup, 1) := by decide +kernel
theorem dX8_octet_32 : decode cX8_octet 32 = .ok (.getfield 136, 3) := by decide +kernel
theorem dX8_octet_35 : decode cX8_octet 35 = .ok (.iconst 1, 1) := by decide +kernel
theorem dX8_octet_36 : decode cX8_octet 36 = .ok (.iadd, 1) := by decide +kernel
theorem dX8_octet_37 : decode cX8_octet 37 = .ok (.putfield 136, 3) := by decide +kernel
theorem dX8_octet_40 : decode cX8_octet 40 = .ok (.aload_n 0, 1) := by decide +kernel
theorem dX8_octet_41 : decode cX8_octet 41 = .ok (.getfield 136, 3) := by decide +kernel
theorem dX8_octet_44 : decode cX8_octet 44 = .ok (.bipush 10, 2) := by decide +kernel
theorem dX8_octet_46 : decode cX8_octet 46 = .ok (.if_icmp .ne 39, 3) := by decide +kernel
theorem dX8_octet_49 : decode cX8_octet 49 = .ok (.aload_n 0, 1) := by decide +kernel
theorem dX8_octet_50 : decode cX8_octet 50 = .ok (.iconst 0, 1) := by decide +kernel
theorem dX8_octet_51 : decode cX8_octet 51 = .ok (.putfield 136, 3) := by decide +kernel
theorem dX8_octet_54 : decode cX8_octet 54 = .ok (.iconst 0, 1) := by decide +kernel
theorem dX8_octet_55 : decode cX8_octet 55 = .ok (.istore_n 2, 1) := by decide +kernel
theorem dX8_octet_56 : decode cX8_octet 56 = .ok (.iload_n 2, 1) := by decide +kernel
theorem dX8_octet_57 : decode cX8_octet 57 = .ok (.bipush 10, 2) := by decide +kernel
theorem dX8_octet_59 : decode cX8_octet 59 = .ok (.if_icmp .ge 21, 3) := by decide +kernel
theorem dX8_octet_62 : decode cX8_octet 62 = .ok (.aload_n 0, 1) := by decide +kernel
theorem dX8_octet_63 : decode cX8_octet 63 = .ok (.getfield 13, 3) := by decide +kernel
theorem dX8_octet_66 : decode cX8_octet 66 = .ok (.iload_n 2, 1) := by decide +kernel
theorem dX8_octet_67 : decode cX8_octet 67 = .ok (.aload_n 0, 1) := by decide +kernel
theorem dX8_octet_68 : decode cX8_octet 68 = .ok (.getfield 16, 3) := by decide +kernel
theorem dX8_octet_71 : decode cX8_octet 71 = .ok (.iload_n 2, 1) := by decide +kernel
theorem dX8_octet_72 : decode cX8_octet 72 = .ok (.iaload, 1) := by decide +kernel
theorem dX8_octet_73 : decode cX8_octet 73 = .ok (.iastore, 1) := by decide +kernel
theorem dX8_octet_74 : decode cX8_octet 74 = .ok (.iinc 2 1, 3) := by decide +kernel
theorem dX8_octet_77 : decode cX8_octet 77 = .ok (.goto (-21), 3) := by decide +kernel
theorem dX8_octet_80 : decode cX8_octet 80 = .ok (.aload_n 0, 1) := by decide +kernel
theorem dX8_octet_81 : decode cX8_octet 81 = .ok (.invokevirtual 139, 3) := by decide +kernel
theorem dX8_octet_84 : decode cX8_octet 84 = .ok (.pop, 1) := by decide +kernel
theorem dX8_octet_85 : decode cX8_octet 85 = .ok (.aload_n 0, 1) := by decide +kernel
theorem dX8_octet_86 : decode cX8_octet 86 = .ok (.getfield 136, 3) := by decide +kernel
theorem dX8_octet_89 : decode cX8_octet 89 = .ok (.ireturn, 1) := by decide +kernel
end
section
set_option maxRecDepth 20000 in
theorem ggX8_laid_X8_codeOf : GoodIn wsX8_laid wsX8_codeOf := goodIn_r _ [4, 5, 6, 3, 7] (by decide +kernel) (by decide +kernel)
set_option maxRecDepth 20000 in
theorem gX8_laid_X8_codeOf : GoodIn wsX8_laid (va_wsS RX8 59 yX8_codeOf wsX8_codeOf) := goodIn_app (goodIn_of _ (by decide +kernel)) ggX8_laid_X8_codeOf
set_option maxRecDepth 20000 in
theorem ggX8_laid_X8_lettered : GoodIn wsX8_laid wsX8_lettered := goodIn_r _ [10, 11, 12, 3, 13] (by decide +kernel) (by decide +kernel)
set_option maxRecDepth 20000 in
theorem gX8_laid_X8_lettered : GoodIn wsX8_laid (va_wsS RX8 142 yX8_lettered wsX8_lettered) := goodIn_app (goodIn_of _ (by decide +kernel)) ggX8_laid_X8_lettered
theorem dX8_laid_0 : decode cX8_laid 0 = .ok (.iload_n 0, 1) := by decide +kernel
theorem dX8_laid_1 : decode cX8_laid 1 = .ok (.ifCond .eq 9, 3) := by decide +kernel
theorem dX8_laid_4 : decode cX8_laid 4 = .ok (.iload_n 0, 1) := by decide +kernel
theorem dX8_laid_5 : decode cX8_laid 5 = .ok (.bipush 6, 2) := by decide +kernel
theorem dX8_laid_7 : decode cX8_laid 7 = .ok (.if_icmp .ne 10, 3) := by decide +kernel
theorem dX8_laid_10 : decode cX8_laid 10 = .ok (.iload_n 1, 1) := by decide +kernel
theorem dX8_laid_11 : decode cX8_laid 11 = .ok (.invokestatic 59, 3) := by decide +kernel
theorem dX8_laid_14 : decode cX8_laid 14 = .ok (.goto 10, 3) := by decide +kernel
theorem dX8_laid_17 : decode cX8_laid 17 = .ok (.bipush 64, 2) := by decide +kernel
theorem dX8_laid_19 : decode cX8_laid 19 = .ok (.iload_n 1, 1) := by decide +kernel
theorem dX8_laid_20 : decode cX8_laid 20 = .ok (.iadd, 1) := by decide +kernel
theorem dX8_laid_21 : decode cX8_laid 21 = .ok (.invokestatic 142, 3) := by decide +kernel
theorem dX8_laid_24 : decode cX8_laid 24 = .ok (.ireturn, 1) := by decide +kernel
set_option maxRecDepth 20000 in
theorem ggX8_packet_X8_in : GoodIn wsX8_packet wsX8_in := goodIn_r _ [10] (by decide +kernel) (by decide +kernel)
set_option maxRecDepth 20000 in
theorem gX8_packet_X8_in : GoodIn wsX8_packet (va_wsS RX8 70 yX8_in wsX8_in) := goodIn_app (goodIn_of _ (by decide +kernel)) ggX8_packet_X8_in
set_option maxRecDepth 20000 in
theorem ggX8_packet_X8_codeOf : GoodIn wsX8_packet wsX8_codeOf := goodIn_r _ [13, 14, 15, 9, 16] (by decide +kernel) (by decide +kernel)
set_option maxRecDepth 20000 in
theorem gX8_packet_X8_codeOf : GoodIn wsX8_packet (va_wsS RX8 59 yX8_codeOf wsX8_codeOf) := goodIn_app (goodIn_of _ (by decide +kernel)) ggX8_packet_X8_codeOf
set_option maxRecDepth 20000 in
theorem ggX8_packet_X8_laid : GoodIn wsX8_packet wsX8_laid := goodIn_r _ [19, 11, 12, 9, 13, 14, 15, 16, 20, 21, 22, 23, 24, 25] (by decide +kernel) (by decide +kernel)
set_option maxRecDepth 20000 in
theorem gX8_packet_X8_laid : GoodIn wsX8_packet (va_wsS RX8 147 yX8_laid wsX8_laid) := goodIn_app (goodIn_of _ (by decide +kernel)) ggX8_packet_X8_laid
set_option maxRecDepth 20000 in
theorem ggX8_packet_X8_comes : GoodIn wsX8_packet wsX8_comes := goodIn_r _ [29, 30, 31, 32, 33, 9, 34, 35, 36, 37, 38, 39, 40, 2, 3, 41, 42, 43, 44, 5, 45, 46, 47, 48, 49, 50, 51, 11, 12, 13, 14, 15, 16, 23, 24, 25, 52, 53, 54, 55, 7, 8, 10, 56, 57, 58, 59, 60, 61, 62, 63, 64, 65, 66, 67, 68, 69, 70, 71, 72, 73, 74, 75, 76, 77, 78, 79, 80, 81, 82, 83, 84, 85, 86, 87, 88, 89, 90, 91, 92, 93, 94, 95, 96, 97, 98, 99, 100, 101, 102, 103, 104, 105, 106, 107, 108, 109, 110, 111, 112] (by decide +kernel) (by decide +kernel)
set_option maxRecDepth 20000 in
theorem gX8_packet_X8_comes : GoodIn wsX8_packet (wsV RX8 139 RX8 yX8_comes wsX8_comes) := goodIn_app (goodIn_of _ (by decide +kernel)) ggX8_packet_X8_comes
theorem dX8_packet_0 : decode cX8_packet 0 = .ok (.aload_n 0, 1) := by decide +kernel
theorem dX8_packet_1 : decode cX8_packet 1 = .ok (.iconst 0, 1) := by decide +kernel
theorem dX8_packet_2 : decode cX8_packet 2 = .ok (.putfield 48, 3) := by decide +kernel
theorem dX8_packet_5 : decode cX8_packet 5 = .ok (.iload_n 1, 1) := by decide +kernel
theorem dX8_packet_6 : decode cX8_packet 6 = .ok (.i2l, 1) := by decide +kernel
theorem dX8_packet_7 : decode cX8_packet 7 = .ok (.lconst 0, 1) := by decide +kernel
theorem dX8_packet_8 : decode cX8_packet 8 = .ok (.ldc2_w 115, 3) := by decide +kernel
theorem dX8_packet_11 : decode cX8_packet 11 = .ok (.invokestatic 70, 3) := by decide +kernel
theorem dX8_packet_14 : decode cX8_packet 14 = .ok (.ifCond .eq 21, 3) := by decide +kernel
theorem dX8_packet_17 : decode cX8_packet 17 = .ok (.iload_n 2, 1) := by decide +kernel
theorem dX8_packet_18 : decode cX8_packet 18 = .ok (.i2l, 1) := by decide +kernel
theorem dX8_packet_19 : decode cX8_packet 19 = .ok (.lconst 0, 1) := by decide +kernel
theorem dX8_packet_20 : decode cX8_packet 20 = .ok (.ldc2_w 102, 3) := by decide +kernel
theorem dX8_packet_23 : decode cX8_packet 23 = .ok (.invokestatic 70, 3) := by decide +kernel
theorem dX8_packet_26 : decode cX8_packet 26 = .ok (.ifCond .eq 9, 3) := by decide +kernel
theorem dX8_packet_29 : decode cX8_packet 29 = .ok (.lload_n 3, 1) := by decide +kernel
theorem dX8_packet_30 : decode cX8_packet 30 = .ok (.lconst 0, 1) := by decide +kernel
theorem dX8_packet_31 : decode cX8_packet 31 = .ok (.lcmp, 1) := by decide +kernel
theorem dX8_packet_32 : decode cX8_packet 32 = .ok (.ifCond .ge 6, 3) := by decide +kernel
theorem dX8_packet_35 : decode cX8_packet 35 = .ok (.ldc 74, 2) := by decide +kernel
theorem dX8_packet_37 : decode cX8_packet 37 = .ok (.ireturn, 1) := by decide +kernel
theorem dX8_packet_38 : decode cX8_packet 38 = .ok (.aload_n 0, 1) := by decide +kernel
theorem dX8_packet_39 : decode cX8_packet 39 = .ok (.getfield 13, 3) := by decide +kernel
theorem dX8_packet_42 : decode cX8_packet 42 = .ok (.iconst 0, 1) := by decide +kernel
theorem dX8_packet_43 : decode cX8_packet 43 = .ok (.iload_n 1, 1) := by decide +kernel
theorem dX8_packet_44 : decode cX8_packet 44 = .ok (.invokestatic 59, 3) := by decide +kernel
theorem dX8_packet_47 : decode cX8_packet 47 = .ok (.iastore, 1) := by decide +kernel
theorem dX8_packet_48 : decode cX8_packet 48 = .ok (.aload_n 0, 1) := by decide +kernel
theorem dX8_packet_49 : decode cX8_packet 49 = .ok (.getfield 13, 3) := by decide +kernel
theorem dX8_packet_52 : decode cX8_packet 52 = .ok (.iconst 1, 1) := by decide +kernel
theorem dX8_packet_53 : decode cX8_packet 53 = .ok (.iload_n 2, 1) := by decide +kernel
theorem dX8_packet_54 : decode cX8_packet 54 = .ok (.invokestatic 59, 3) := by decide +kernel
theorem dX8_packet_57 : decode cX8_packet 57 = .ok (.iastore, 1) := by decide +kernel
theorem dX8_packet_58 : decode cX8_packet 58 = .ok (.lload_n 3, 1) := by decide +kernel
theorem dX8_packet_59 : decode cX8_packet 59 = .ok (.lstore 5, 2) := by decide +kernel
theorem dX8_packet_61 : decode cX8_packet 61 = .ok (.bipush 9, 2) := by decide +kernel
theorem dX8_packet_63 : decode cX8_packet 63 = .ok (.istore 7, 2) := by decide +kernel
theorem dX8_packet_65 : decode cX8_packet 65 = .ok (.iload 7, 2) := by decide +kernel
theorem dX8_packet_67 : decode cX8_packet 67 = .ok (.iconst 2, 1) := by decide +kernel
theorem dX8_packet_68 : decode cX8_packet 68 = .ok (.if_icmp .lt 35, 3) := by decide +kernel
theorem dX8_packet_71 : decode cX8_packet 71 = .ok (.aload_n 0, 1) := by decide +kernel
theorem dX8_packet_72 : decode cX8_packet 72 = .ok (.getfield 13, 3) := by decide +kernel
theorem dX8_packet_75 : decode cX8_packet 75 = .ok (.iload 7, 2) := by decide +kernel
theorem dX8_packet_77 : decode cX8_packet 77 = .ok (.iload_n 2, 1) := by decide +kernel
theorem dX8_packet_78 : decode cX8_packet 78 = .ok (.lload 5, 2) := by decide +kernel
theorem dX8_packet_80 : decode cX8_packet 80 = .ok (.ldc2_w 145, 3) := by decide +kernel
theorem dX8_packet_83 : decode cX8_packet 83 = .ok (.lrem, 1) := by decide +kernel
theorem dX8_packet_84 : decode cX8_packet 84 = .ok (.l2i, 1) := by decide +kernel
theorem dX8_packet_85 : decode cX8_packet 85 = .ok (.invokestatic 147, 3) := by decide +kernel
theorem dX8_packet_88 : decode cX8_packet 88 = .ok (.iastore, 1) := by decide +kernel
theorem dX8_packet_89 : decode cX8_packet 89 = .ok (.lload 5, 2) := by decide +kernel
theorem dX8_packet_91 : decode cX8_packet 91 = .ok (.ldc2_w 145, 3) := by decide +kernel
theorem dX8_packet_94 : decode cX8_packet 94 = .ok (.ldiv, 1) := by decide +kernel
theorem dX8_packet_95 : decode cX8_packet 95 = .ok (.lstore 5, 2) := by decide +kernel
theorem dX8_packet_97 : decode cX8_packet 97 = .ok (.iinc 7 (-1), 3) := by decide +kernel
theorem dX8_packet_100 : decode cX8_packet 100 = .ok (.goto (-35), 3) := by decide +kernel
theorem dX8_packet_103 : decode cX8_packet 103 = .ok (.aload_n 0, 1) := by decide +kernel
theorem dX8_packet_104 : decode cX8_packet 104 = .ok (.invokevirtual 139, 3) := by decide +kernel
theorem dX8_packet_107 : decode cX8_packet 107 = .ok (.ireturn, 1) := by decide +kernel
set_option maxRecDepth 20000 in
theorem ggX8_told_X8_in : GoodIn wsX8_told wsX8_in := goodIn_r _ [11] (by decide +kernel) (by decide +kernel)
set_option maxRecDepth 20000 in
theorem gX8_told_X8_in : GoodIn wsX8_told (va_wsS RX8 70 yX8_in wsX8_in) := goodIn_app (goodIn_of _ (by decide +kernel)) ggX8_told_X8_in
set_option maxRecDepth 20000 in
theorem ggX8_told_X8_wrong : GoodIn wsX8_told wsX8_wrong := goodIn_r _ [15, 6, 16, 17, 18, 19, 10, 20, 4, 8, 9, 11, 21, 22, 23, 24, 25, 26, 27, 28, 29, 30, 31, 32, 33, 34, 35, 36, 37, 38, 39, 40, 41, 42, 43, 44] (by decide +kernel) (by decide +kernel)
set_option maxRecDepth 20000 in
theorem gX8_told_X8_wrong : GoodIn wsX8_told (wsV RX8 153 RX8 yX8_wrong wsX8_wrong) := goodIn_app (goodIn_of _ (by decide +kernel)) ggX8_told_X8_wrong
theorem dX8_told_0 : decode cX8_told 0 = .ok (.aload_n 0, 1) := by decide +kernel
theorem dX8_told_1 : decode cX8_told 1 = .ok (.iconst 0, 1) := by decide +kernel
theorem dX8_told_2 : decode cX8_told 2 = .ok (.putfield 48, 3) := by decide +kernel
theorem dX8_told_5 : decode cX8_told 5 = .ok (.iload_n 1, 1) := by decide +kernel
theorem dX8_told_6 : decode cX8_told 6 = .ok (.i2l, 1) := by decide +kernel
theorem dX8_told_7 : decode cX8_told 7 = .ok (.lconst 0, 1) := by decide +kernel
theorem dX8_told_8 : decode cX8_told 8 = .ok (.ldc2_w 102, 3) := by decide +kernel
theorem dX8_told_11 : decode cX8_told 11 = .ok (.invokestatic 70, 3) := by decide +kernel
theorem dX8_told_14 : decode cX8_told 14 = .ok (.ifCond .ne 6, 3) := by decide +kernel
theorem dX8_told_17 : decode cX8_told 17 = .ok (.ldc 74, 2) := by decide +kernel
theorem dX8_told_19 : decode cX8_told 19 = .ok (.ireturn, 1) := by decide +kernel
theorem dX8_told_20 : decode cX8_told 20 = .ok (.iload_n 1, 1) := by decide +kernel
theorem dX8_told_21 : decode cX8_told 21 = .ok (.iconst 4, 1) := by decide +kernel
theorem dX8_told_22 : decode cX8_told 22 = .ok (.if_icmp .ge 10, 3) := by decide +kernel
theorem dX8_told_25 : decode cX8_told 25 = .ok (.aload_n 0, 1) := by decide +kernel
theorem dX8_told_26 : decode cX8_told 26 = .ok (.getfield 7, 3) := by decide +kernel
theorem dX8_told_29 : decode cX8_told 29 = .ok (.iload_n 1, 1) := by decide +kernel
theorem dX8_told_30 : decode cX8_told 30 = .ok (.iaload, 1) := by decide +kernel
theorem dX8_told_31 : decode cX8_told 31 = .ok (.ireturn, 1) := by decide +kernel
theorem dX8_told_32 : decode cX8_told 32 = .ok (.iload_n 1, 1) := by decide +kernel
theorem dX8_told_33 : decode cX8_told 33 = .ok (.iconst 4, 1) := by decide +kernel
theorem dX8_told_34 : decode cX8_told 34 = .ok (.if_icmp .ne 10, 3) := by decide +kernel
theorem dX8_told_37 : decode cX8_told 37 = .ok (.aload_n 0, 1) := by decide +kernel
theorem dX8_told_38 : decode cX8_told 38 = .ok (.getfield 136, 3) := by decide +kernel
theorem dX8_told_41 : decode cX8_told 41 = .ok (.goto 32, 3) := by decide +kernel
theorem dX8_told_44 : decode cX8_told 44 = .ok (.iload_n 1, 1) := by decide +kernel
theorem dX8_told_45 : decode cX8_told 45 = .ok (.iconst 5, 1) := by decide +kernel
theorem dX8_told_46 : decode cX8_told 46 = .ok (.if_icmp .ne 10, 3) := by decide +kernel
theorem dX8_told_49 : decode cX8_told 49 = .ok (.aload_n 0, 1) := by decide +kernel
theorem dX8_told_50 : decode cX8_told 50 = .ok (.getfield 150, 3) := by decide +kernel
theorem dX8_told_53 : decode cX8_told 53 = .ok (.goto 20, 3) := by decide +kernel
theorem dX8_told_56 : decode cX8_told 56 = .ok (.iload_n 1, 1) := by decide +kernel
theorem dX8_told_57 : decode cX8_told 57 = .ok (.bipush 6, 2) := by decide +kernel
theorem dX8_told_59 : decode cX8_told 59 = .ok (.if_icmp .ne 10, 3) := by decide +kernel
theorem dX8_told_62 : decode cX8_told 62 = .ok (.aload_n 0, 1) := by decide +kernel
theorem dX8_told_63 : decode cX8_told 63 = .ok (.invokevirtual 153, 3) := by decide +kernel
theorem dX8_told_66 : decode cX8_told 66 = .ok (.goto 7, 3) := by decide +kernel
theorem dX8_told_69 : decode cX8_told 69 = .ok (.aload_n 0, 1) := by decide +kernel
theorem dX8_told_70 : decode cX8_told 70 = .ok (.getfield 133, 3) := by decide +kernel
theorem dX8_told_73 : decode cX8_told 73 = .ok (.ireturn, 1) := by decide +kernel
set_option maxRecDepth 20000 in
theorem ggX8_open_X8_in : GoodIn wsX8_open wsX8_in := goodIn_r _ [8] (by decide +kernel) (by decide +kernel)
set_option maxRecDepth 20000 in
theorem gX8_open_X8_in : GoodIn wsX8_open (va_wsS RX8 70 yX8_in wsX8_in) := goodIn_app (goodIn_of _ (by decide +kernel)) ggX8_open_X8_in
theorem dX8_open_0 : decode cX8_open 0 = .ok (.aload_n 0, 1) := by decide +kernel
theorem dX8_open_1 : decode cX8_open 1 = .ok (.iconst 0, 1) := by decide +kernel
theorem dX8_open_2 : decode cX8_open 2 = .ok (.putfield 48, 3) := by decide +kernel
theorem dX8_open_5 : decode cX8_open 5 = .ok (.iload_n 1, 1) := by decide +kernel
theorem dX8_open_6 : decode cX8_open 6 = .ok (.i2l, 1) := by decide +kernel
theorem dX8_open_7 : decode cX8_open 7 = .ok (.lconst 0, 1) := by decide +kernel
theorem dX8_open_8 : decode cX8_open 8 = .ok (.ldc2_w 115, 3) := by decide +kernel
theorem dX8_open_11 : decode cX8_open 11 = .ok (.invokestatic 70, 3) := by decide +kernel
theorem dX8_open_14 : decode cX8_open 14 = .ok (.ifCond .eq 14, 3) := by decide +kernel
theorem dX8_open_17 : decode cX8_open 17 = .ok (.aload_n 0, 1) := by decide +kernel
theorem dX8_open_18 : decode cX8_open 18 = .ok (.getfield 7, 3) := by decide +kernel
theorem dX8_open_21 : decode cX8_open 21 = .ok (.iconst 4, 1) := by decide +kernel
theorem dX8_open_22 : decode cX8_open 22 = .ok (.iload_n 1, 1) := by decide +kernel
theorem dX8_open_23 : decode cX8_open 23 = .ok (.iadd, 1) := by decide +kernel
theorem dX8_open_24 : decode cX8_open 24 = .ok (.iaload, 1) := by decide +kernel
theorem dX8_open_25 : decode cX8_open 25 = .ok (.goto 5, 3) := by decide +kernel
theorem dX8_open_28 : decode cX8_open 28 = .ok (.ldc 156, 2) := by decide +kernel
theorem dX8_open_30 : decode cX8_open 30 = .ok (.ireturn, 1) := by decide +kernel
set_option maxRecDepth 20000 in
theorem ggX8_isPage_X8_in : GoodIn wsX8_isPage wsX8_in := goodIn_r _ [5] (by decide +kernel) (by decide +kernel)
set_option maxRecDepth 20000 in
theorem gX8_isPage_X8_in : GoodIn wsX8_isPage (va_wsS RX8 70 yX8_in wsX8_in) := goodIn_app (goodIn_of _ (by decide +kernel)) ggX8_isPage_X8_in
theorem dX8_isPage_0 : decode cX8_isPage 0 = .ok (.iload_n 1, 1) := by decide +kernel
theorem dX8_isPage_1 : decode cX8_isPage 1 = .ok (.i2l, 1) := by decide +kernel
theorem dX8_isPage_2 : decode cX8_isPage 2 = .ok (.lconst 0, 1) := by decide +kernel
theorem dX8_isPage_3 : decode cX8_isPage 3 = .ok (.aload_n 0, 1) := by decide +kernel
theorem dX8_isPage_4 : decode cX8_isPage 4 = .ok (.getfield 7, 3) := by decide +kernel
theorem dX8_isPage_7 : decode cX8_isPage 7 = .ok (.iconst 0, 1) := by decide +kernel
theorem dX8_isPage_8 : decode cX8_isPage 8 = .ok (.iaload, 1) := by decide +kernel
theorem dX8_isPage_9 : decode cX8_isPage 9 = .ok (.iconst 1, 1) := by decide +kernel
theorem dX8_isPage_10 : decode cX8_isPage 10 = .ok (.isub, 1) := by decide +kernel
theorem dX8_isPage_11 : decode cX8_isPage 11 = .ok (.i2l, 1) := by decide +kernel
theorem dX8_isPage_12 : decode cX8_isPage 12 = .ok (.invokestatic 70, 3) := by decide +kernel
theorem dX8_isPage_15 : decode cX8_isPage 15 = .ok (.ireturn, 1) := by decide +kernel
set_option maxRecDepth 20000 in
theorem ggX8_lacks_X8_of : GoodIn wsX8_lacks wsX8_of := goodIn_r _ [5, 6, 7, 8, 4, 9, 10, 11, 12, 13, 14, 15, 16, 17, 18, 19, 20, 21, 22, 23, 24, 25, 26] (by decide +kernel) (by decide +kernel)
set_option maxRecDepth 20000 in
theorem gX8_lacks_X8_of : GoodIn wsX8_lacks (wsV RX8 82 RX8 yX8_of wsX8_of) := goodIn_app (goodIn_of _ (by decide +kernel)) ggX8_lacks_X8_of
theorem dX8_lacks_0 : decode cX8_lacks 0 = .ok (.bipush 31, 2) := by decide +kernel
theorem dX8_lacks_2 : decode cX8_lacks 2 = .ok (.istore_n 2, 1) := by decide +kernel
theorem dX8_lacks_3 : decode cX8_lacks 3 = .ok (.iconst 0, 1) := by decide +kernel
theorem dX8_lacks_4 : decode cX8_lacks 4 = .ok (.istore_n 3, 1) := by decide +kernel
theorem dX8_lacks_5 : decode cX8_lacks 5 = .ok (.iload_n 3, 1) := by decide +kernel
theorem dX8_lacks_6 : decode cX8_lacks 6 = .ok (.bipush 40, 2) := by decide +kernel
theorem dX8_lacks_8 : decode cX8_lacks 8 = .ok (.if_icmp .ge 38, 3) := by decide +kernel
theorem dX8_lacks_11 : decode cX8_lacks 11 = .ok (.iload_n 2, 1) := by decide +kernel
theorem dX8_lacks_12 : decode cX8_lacks 12 = .ok (.aload_n 0, 1) := by decide +kernel
theorem dX8_lacks_13 : decode cX8_lacks 13 = .ok (.iload_n 1, 1) := by decide +kernel
theorem dX8_lacks_14 : decode cX8_lacks 14 = .ok (.bipush 10, 2) := by decide +kernel
theorem dX8_lacks_16 : decode cX8_lacks 16 = .ok (.iload_n 3, 1) := by decide +kernel
theorem dX8_lacks_17 : decode cX8_lacks 17 = .ok (.iadd, 1) := by decide +kernel
theorem dX8_lacks_18 : decode cX8_lacks 18 = .ok (.invokevirtual 82, 3) := by decide +kernel
theorem dX8_lacks_21 : decode cX8_lacks 21 = .ok (.iconst (-1), 1) := by decide +kernel
theorem dX8_lacks_22 : decode cX8_lacks 22 = .ok (.if_icmp .ne 8, 3) := by decide +kernel
theorem dX8_lacks_25 : decode cX8_lacks 25 = .ok (.bipush 31, 2) := by decide +kernel
theorem dX8_lacks_27 : decode cX8_lacks 27 = .ok (.goto 11, 3) := by decide +kernel
theorem dX8_lacks_30 : decode cX8_lacks 30 = .ok (.iconst 1, 1) := by decide +kernel
theorem dX8_lacks_31 : decode cX8_lacks 31 = .ok (.iload_n 3, 1) := by decide +kernel
theorem dX8_lacks_32 : decode cX8_lacks 32 = .ok (.bipush 8, 2) := by decide +kernel
theorem dX8_lacks_34 : decode cX8_lacks 34 = .ok (.idiv, 1) := by decide +kernel
theorem dX8_lacks_35 : decode cX8_lacks 35 = .ok (.ishl, 1) := by decide +kernel
theorem dX8_lacks_36 : decode cX8_lacks 36 = .ok (.iconst (-1), 1) := by decide +kernel
theorem dX8_lacks_37 : decode cX8_lacks 37 = .ok (.ixor, 1) := by decide +kernel
theorem dX8_lacks_38 : decode cX8_lacks 38 = .ok (.iand, 1) := by decide +kernel
theorem dX8_lacks_39 : decode cX8_lacks 39 = .ok (.istore_n 2, 1) := by decide +kernel
theorem dX8_lacks_40 : decode cX8_lacks 40 = .ok (.iinc 3 1, 3) := by decide +kernel
theorem dX8_lacks_43 : decode cX8_lacks 43 = .ok (.goto (-38), 3) := by decide +kernel
theorem dX8_lacks_46 : decode cX8_lacks 46 = .ok (.iload_n 2, 1) := by decide +kernel
theorem dX8_lacks_47 : decode cX8_lacks 47 = .ok (.ireturn, 1) := by decide +kernel
set_option maxRecDepth 20000 in
theorem ggX8_hasLinks_X8_of : GoodIn wsX8_hasLinks wsX8_of := goodIn_r _ [5, 6, 7, 8, 4, 9, 10, 11, 12, 13, 14, 15, 16, 17, 18, 19, 20, 21, 22, 23, 24, 25, 26] (by decide +kernel) (by decide +kernel)
set_option maxRecDepth 20000 in
theorem gX8_hasLinks_X8_of : GoodIn wsX8_hasLinks (wsV RX8 82 RX8 yX8_of wsX8_of) := goodIn_app (goodIn_of _ (by decide +kernel)) ggX8_hasLinks_X8_of
theorem dX8_hasLinks_0 : decode cX8_hasLinks 0 = .ok (.iconst 0, 1) := by decide +kernel
theorem dX8_hasLinks_1 : decode cX8_hasLinks 1 = .ok (.istore_n 2, 1) := by decide +kernel
theorem dX8_hasLinks_2 : decode cX8_hasLinks 2 = .ok (.iconst 0, 1) := by decide +kernel
theorem dX8_hasLinks_3 : decode cX8_hasLinks 3 = .ok (.istore_n 3, 1) := by decide +kernel
theorem dX8_hasLinks_4 : decode cX8_hasLinks 4 = .ok (.iload_n 3, 1) := by decide +kernel
theorem dX8_hasLinks_5 : decode cX8_hasLinks 5 = .ok (.iconst 4, 1) := by decide +kernel
theorem dX8_hasLinks_6 : decode cX8_hasLinks 6 = .ok (.if_icmp .ge 32, 3) := by decide +kernel
theorem dX8_hasLinks_9 : decode cX8_hasLinks 9 = .ok (.iload_n 2, 1) := by decide +kernel
theorem dX8_hasLinks_10 : decode cX8_hasLinks 10 = .ok (.ifCond .ne 16, 3) := by decide +kernel
theorem dX8_hasLinks_13 : decode cX8_hasLinks 13 = .ok (.aload_n 0, 1) := by decide +kernel
theorem dX8_hasLinks_14 : decode cX8_hasLinks 14 = .ok (.iload_n 1, 1) := by decide +kernel
theorem dX8_hasLinks_15 : decode cX8_hasLinks 15 = .ok (.bipush 6, 2) := by decide +kernel
theorem dX8_hasLinks_17 : decode cX8_hasLinks 17 = .ok (.iload_n 3, 1) := by decide +kernel
theorem dX8_hasLinks_18 : decode cX8_hasLinks 18 = .ok (.iadd, 1) := by decide +kernel
theorem dX8_hasLinks_19 : decode cX8_hasLinks 19 = .ok (.invokevirtual 82, 3) := by decide +kernel
theorem dX8_hasLinks_22 : decode cX8_hasLinks 22 = .ok (.iconst (-1), 1) := by decide +kernel
theorem dX8_hasLinks_23 : decode cX8_hasLinks 23 = .ok (.if_icmp .eq 7, 3) := by decide +kernel
theorem dX8_hasLinks_26 : decode cX8_hasLinks 26 = .ok (.iconst 1, 1) := by decide +kernel
theorem dX8_hasLinks_27 : decode cX8_hasLinks 27 = .ok (.goto 4, 3) := by decide +kernel
theorem dX8_hasLinks_30 : decode cX8_hasLinks 30 = .ok (.iconst 0, 1) := by decide +kernel
theorem dX8_hasLinks_31 : decode cX8_hasLinks 31 = .ok (.istore_n 2, 1) := by decide +kernel
theorem dX8_hasLinks_32 : decode cX8_hasLinks 32 = .ok (.iinc 3 1, 3) := by decide +kernel
theorem dX8_hasLinks_35 : decode cX8_hasLinks 35 = .ok (.goto (-31), 3) := by decide +kernel
theorem dX8_hasLinks_38 : decode cX8_hasLinks 38 = .ok (.iload_n 2, 1) := by decide +kernel
theorem dX8_hasLinks_39 : decode cX8_hasLinks 39 = .ok (.ireturn, 1) := by decide +kernel
set_option maxRecDepth 20000 in
theorem ggX8_lengthOf_X8_hasLinks : GoodIn wsX8_lengthOf wsX8_hasLinks := goodIn_r _ [5, 6, 7, 8, 4, 9, 10, 11, 12, 13, 18, 19, 20, 21, 22, 23, 24, 25, 26, 27, 28, 29, 30, 31, 32, 33, 34] (by decide +kernel) (by decide +kernel)
set_option maxRecDepth 20000 in
theorem gX8_lengthOf_X8_hasLinks : GoodIn wsX8_lengthOf (wsV RX8 157 RX8 yX8_hasLinks wsX8_hasLinks) := goodIn_app (goodIn_of _ (by decide +kernel)) ggX8_lengthOf_X8_hasLinks
set_option maxRecDepth 20000 in
theorem ggX8_lengthOf_X8_lacks : GoodIn wsX8_lengthOf wsX8_lacks := goodIn_r _ [17, 6, 7, 8, 4, 9, 10, 11, 12, 13, 18, 19, 20, 21, 22, 23, 24, 25, 26, 27, 28, 29, 30, 31, 32, 33, 34] (by decide +kernel) (by decide +kernel)
set_option maxRecDepth 20000 in
theorem gX8_lengthOf_X8_lacks : GoodIn wsX8_lengthOf (wsV RX8 160 RX8 yX8_lacks wsX8_lacks) := goodIn_app (goodIn_of _ (by decide +kernel)) ggX8_lengthOf_X8_lacks
theorem dX8_lengthOf_0 : decode cX8_lengthOf 0 = .ok (.aload_n 0, 1) := by decide +kernel
theorem dX8_lengthOf_1 : decode cX8_lengthOf 1 = .ok (.iload_n 1, 1) := by decide +kernel
theorem dX8_lengthOf_2 : decode cX8_lengthOf 2 = .ok (.invokevirtual 157, 3) := by decide +kernel
theorem dX8_lengthOf_5 : decode cX8_lengthOf 5 = .ok (.ifCond .eq 7, 3) := by decide +kernel
theorem dX8_lengthOf_8 : decode cX8_lengthOf 8 = .ok (.iconst 2, 1) := by decide +kernel
theorem dX8_lengthOf_9 : decode cX8_lengthOf 9 = .ok (.goto 4, 3) := by decide +kernel
theorem dX8_lengthOf_12 : decode cX8_lengthOf 12 = .ok (.iconst 1, 1) := by decide +kernel
theorem dX8_lengthOf_13 : decode cX8_lengthOf 13 = .ok (.istore_n 2, 1) := by decide +kernel
theorem dX8_lengthOf_14 : decode cX8_lengthOf 14 = .ok (.iconst 0, 1) := by decide +kernel
theorem dX8_lengthOf_15 : decode cX8_lengthOf 15 = .ok (.istore_n 3, 1) := by decide +kernel
theorem dX8_lengthOf_16 : decode cX8_lengthOf 16 = .ok (.iload_n 3, 1) := by decide +kernel
theorem dX8_lengthOf_17 : decode cX8_lengthOf 17 = .ok (.iconst 5, 1) := by decide +kernel
theorem dX8_lengthOf_18 : decode cX8_lengthOf 18 = .ok (.if_icmp .ge 23, 3) := by decide +kernel
theorem dX8_lengthOf_21 : decode cX8_lengthOf 21 = .ok (.iload_n 2, 1) := by decide +kernel
theorem dX8_lengthOf_22 : decode cX8_lengthOf 22 = .ok (.aload_n 0, 1) := by decide +kernel
theorem dX8_lengthOf_23 : decode cX8_lengthOf 23 = .ok (.iload_n 1, 1) := by decide +kernel
theorem dX8_lengthOf_24 : decode cX8_lengthOf 24 = .ok (.invokevirtual 160, 3) := by decide +kernel
theorem dX8_lengthOf_27 : decode cX8_lengthOf 27 = .ok (.iload_n 3, 1) := by decide +kernel
theorem dX8_lengthOf_28 : decode cX8_lengthOf 28 = .ok (.ishr, 1) := by decide +kernel
theorem dX8_lengthOf_29 : decode cX8_lengthOf 29 = .ok (.iconst 1, 1) := by decide +kernel
theorem dX8_lengthOf_30 : decode cX8_lengthOf 30 = .ok (.iand, 1) := by decide +kernel
theorem dX8_lengthOf_31 : decode cX8_lengthOf 31 = .ok (.iconst 1, 1) := by decide +kernel
theorem dX8_lengthOf_32 : decode cX8_lengthOf 32 = .ok (.ixor, 1) := by decide +kernel
theorem dX8_lengthOf_33 : decode cX8_lengthOf 33 = .ok (.iadd, 1) := by decide +kernel
theorem dX8_lengthOf_34 : decode cX8_lengthOf 34 = .ok (.istore_n 2, 1) := by decide +kernel
theorem dX8_lengthOf_35 : decode cX8_lengthOf 35 = .ok (.iinc 3 1, 3) := by decide +kernel
theorem dX8_lengthOf_38 : decode cX8_lengthOf 38 = .ok (.goto (-22), 3) := by decide +kernel
theorem dX8_lengthOf_41 : decode cX8_lengthOf 41 = .ok (.iload_n 2, 1) := by decide +kernel
theorem dX8_lengthOf_42 : decode cX8_lengthOf 42 = .ok (.ireturn, 1) := by decide +kernel
set_option maxRecDepth 20000 in
theorem ggX8_sure_X8_of : GoodIn wsX8_sure wsX8_of := goodIn_r _ [6, 7, 8, 9, 5, 10, 14, 15, 16, 17, 18, 19, 20, 21, 22, 23, 24, 25, 26, 27, 28, 29, 30] (by decide +kernel) (by decide +kernel)
set_option maxRecDepth 20000 in
theorem gX8_sure_X8_of : GoodIn wsX8_sure (wsV RX8 82 RX8 yX8_of wsX8_of) := goodIn_app (goodIn_of _ (by decide +kernel)) ggX8_sure_X8_of
set_option maxRecDepth 20000 in
theorem ggX8_sure_X8_in : GoodIn wsX8_sure wsX8_in := goodIn_r _ [13] (by decide +kernel) (by decide +kernel)
set_option maxRecDepth 20000 in
theorem gX8_sure_X8_in : GoodIn wsX8_sure (va_wsS RX8 70 yX8_in wsX8_in) := goodIn_app (goodIn_of _ (by decide +kernel)) ggX8_sure_X8_in
theorem dX8_sure_0 : decode cX8_sure 0 = .ok (.iconst 0, 1) := by decide +kernel
theorem dX8_sure_1 : decode cX8_sure 1 = .ok (.istore_n 2, 1) := by decide +kernel
theorem dX8_sure_2 : decode cX8_sure 2 = .ok (.iconst 0, 1) := by decide +kernel
theorem dX8_sure_3 : decode cX8_sure 3 = .ok (.istore_n 3, 1) := by decide +kernel
theorem dX8_sure_4 : decode cX8_sure 4 = .ok (.iload_n 3, 1) := by decide +kernel
theorem dX8_sure_5 : decode cX8_sure 5 = .ok (.bipush 40, 2) := by decide +kernel
theorem dX8_sure_7 : decode cX8_sure 7 = .ok (.if_icmp .ge 37, 3) := by decide +kernel
theorem dX8_sure_10 : decode cX8_sure 10 = .ok (.iload_n 2, 1) := by decide +kernel
theorem dX8_sure_11 : decode cX8_sure 11 = .ok (.aload_n 0, 1) := by decide +kernel
theorem dX8_sure_12 : decode cX8_sure 12 = .ok (.iload_n 1, 1) := by decide +kernel
theorem dX8_sure_13 : decode cX8_sure 13 = .ok (.bipush 10, 2) := by decide +kernel
theorem dX8_sure_15 : decode cX8_sure 15 = .ok (.iload_n 3, 1) := by decide +kernel
theorem dX8_sure_16 : decode cX8_sure 16 = .ok (.iadd, 1) := by decide +kernel
theorem dX8_sure_17 : decode cX8_sure 17 = .ok (.invokevirtual 82, 3) := by decide +kernel
theorem dX8_sure_20 : decode cX8_sure 20 = .ok (.i2l, 1) := by decide +kernel
theorem dX8_sure_21 : decode cX8_sure 21 = .ok (.lconst 0, 1) := by decide +kernel
theorem dX8_sure_22 : decode cX8_sure 22 = .ok (.ldc2_w 163, 3) := by decide +kernel
theorem dX8_sure_25 : decode cX8_sure 25 = .ok (.invokestatic 70, 3) := by decide +kernel
theorem dX8_sure_28 : decode cX8_sure 28 = .ok (.ifCond .eq 7, 3) := by decide +kernel
theorem dX8_sure_31 : decode cX8_sure 31 = .ok (.iconst 1, 1) := by decide +kernel
theorem dX8_sure_32 : decode cX8_sure 32 = .ok (.goto 4, 3) := by decide +kernel
theorem dX8_sure_35 : decode cX8_sure 35 = .ok (.iconst 0, 1) := by decide +kernel
theorem dX8_sure_36 : decode cX8_sure 36 = .ok (.iadd, 1) := by decide +kernel
theorem dX8_sure_37 : decode cX8_sure 37 = .ok (.istore_n 2, 1) := by decide +kernel
theorem dX8_sure_38 : decode cX8_sure 38 = .ok (.iinc 3 1, 3) := by decide +kernel
theorem dX8_sure_41 : decode cX8_sure 41 = .ok (.goto (-37), 3) := by decide +kernel
theorem dX8_sure_44 : decode cX8_sure 44 = .ok (.iload_n 2, 1) := by decide +kernel
theorem dX8_sure_45 : decode cX8_sure 45 = .ok (.ireturn, 1) := by decide +kernel
set_option maxRecDepth 20000 in
theorem ggX8_linked_X8_of : GoodIn wsX8_linked wsX8_of := goodIn_r _ [6, 1, 7, 8, 5, 9, 10, 11, 12, 13, 14, 15, 16, 17, 18, 19, 20, 21, 22, 23, 24, 25, 26] (by decide +kernel) (by decide +kernel)
set_option maxRecDepth 20000 in
theorem gX8_linked_X8_of : GoodIn wsX8_linked (wsV RX8 82 RX8 yX8_of wsX8_of) := goodIn_app (goodIn_of _ (by decide +kernel)) ggX8_linked_X8_of
theorem dX8_linked_0 : decode cX8_linked 0 = .ok (.iconst 0, 1) := by decide +kernel
theorem dX8_linked_1 : decode cX8_linked 1 = .ok (.istore_n 2, 1) := by decide +kernel
theorem dX8_linked_2 : decode cX8_linked 2 = .ok (.iconst 0, 1) := by decide +kernel
theorem dX8_linked_3 : decode cX8_linked 3 = .ok (.istore_n 3, 1) := by decide +kernel
theorem dX8_linked_4 : decode cX8_linked 4 = .ok (.iload_n 3, 1) := by decide +kernel
theorem dX8_linked_5 : decode cX8_linked 5 = .ok (.aload_n 0, 1) := by decide +kernel
theorem dX8_linked_6 : decode cX8_linked 6 = .ok (.getfield 7, 3) := by decide +kernel
theorem dX8_linked_9 : decode cX8_linked 9 = .ok (.iconst 0, 1) := by decide +kernel
theorem dX8_linked_10 : decode cX8_linked 10 = .ok (.iaload, 1) := by decide +kernel
theorem dX8_linked_11 : decode cX8_linked 11 = .ok (.if_icmp .ge 68, 3) := by decide +kernel
theorem dX8_linked_14 : decode cX8_linked 14 = .ok (.iconst 0, 1) := by decide +kernel
theorem dX8_linked_15 : decode cX8_linked 15 = .ok (.istore 4, 2) := by decide +kernel
theorem dX8_linked_17 : decode cX8_linked 17 = .ok (.iload 4, 2) := by decide +kernel
theorem dX8_linked_19 : decode cX8_linked 19 = .ok (.iconst 4, 1) := by decide +kernel
theorem dX8_linked_20 : decode cX8_linked 20 = .ok (.if_icmp .ge 53, 3) := by decide +kernel
theorem dX8_linked_23 : decode cX8_linked 23 = .ok (.iload_n 2, 1) := by decide +kernel
theorem dX8_linked_24 : decode cX8_linked 24 = .ok (.aload_n 0, 1) := by decide +kernel
theorem dX8_linked_25 : decode cX8_linked 25 = .ok (.iload_n 1, 1) := by decide +kernel
theorem dX8_linked_26 : decode cX8_linked 26 = .ok (.bipush 6, 2) := by decide +kernel
theorem dX8_linked_28 : decode cX8_linked 28 = .ok (.iload 4, 2) := by decide +kernel
theorem dX8_linked_30 : decode cX8_linked 30 = .ok (.iadd, 1) := by decide +kernel
theorem dX8_linked_31 : decode cX8_linked 31 = .ok (.invokevirtual 82, 3) := by decide +kernel
theorem dX8_linked_34 : decode cX8_linked 34 = .ok (.aload_n 0, 1) := by decide +kernel
theorem dX8_linked_35 : decode cX8_linked 35 = .ok (.iload_n 3, 1) := by decide +kernel
theorem dX8_linked_36 : decode cX8_linked 36 = .ok (.iconst 1, 1) := by decide +kernel
theorem dX8_linked_37 : decode cX8_linked 37 = .ok (.invokevirtual 82, 3) := by decide +kernel
theorem dX8_linked_40 : decode cX8_linked 40 = .ok (.if_icmp .ne 24, 3) := by decide +kernel
theorem dX8_linked_43 : decode cX8_linked 43 = .ok (.aload_n 0, 1) := by decide +kernel
theorem dX8_linked_44 : decode cX8_linked 44 = .ok (.iload_n 1, 1) := by decide +kernel
theorem dX8_linked_45 : decode cX8_linked 45 = .ok (.iconst 0, 1) := by decide +kernel
theorem dX8_linked_46 : decode cX8_linked 46 = .ok (.invokevirtual 82, 3) := by decide +kernel
theorem dX8_linked_49 : decode cX8_linked 49 = .ok (.aload_n 0, 1) := by decide +kernel
theorem dX8_linked_50 : decode cX8_linked 50 = .ok (.iload_n 3, 1) := by decide +kernel
theorem dX8_linked_51 : decode cX8_linked 51 = .ok (.iconst 0, 1) := by decide +kernel
theorem dX8_linked_52 : decode cX8_linked 52 = .ok (.invokevirtual 82, 3) := by decide +kernel
theorem dX8_linked_55 : decode cX8_linked 55 = .ok (.if_icmp .ne 9, 3) := by decide +kernel
theorem dX8_linked_58 : decode cX8_linked 58 = .ok (.iconst 1, 1) := by decide +kernel
theorem dX8_linked_59 : decode cX8_linked 59 = .ok (.iload_n 3, 1) := by decide +kernel
theorem dX8_linked_60 : decode cX8_linked 60 = .ok (.ishl, 1) := by decide +kernel
theorem dX8_linked_61 : decode cX8_linked 61 = .ok (.goto 4, 3) := by decide +kernel
theorem dX8_linked_64 : decode cX8_linked 64 = .ok (.iconst 0, 1) := by decide +kernel
theorem dX8_linked_65 : decode cX8_linked 65 = .ok (.ior, 1) := by decide +kernel
theorem dX8_linked_66 : decode cX8_linked 66 = .ok (.istore_n 2, 1) := by decide +kernel
theorem dX8_linked_67 : decode cX8_linked 67 = .ok (.iinc 4 1, 3) := by decide +kernel
theorem dX8_linked_70 : decode cX8_linked 70 = .ok (.goto (-53), 3) := by decide +kernel
theorem dX8_linked_73 : decode cX8_linked 73 = .ok (.iinc 3 1, 3) := by decide +kernel
theorem dX8_linked_76 : decode cX8_linked 76 = .ok (.goto (-72), 3) := by decide +kernel
theorem dX8_linked_79 : decode cX8_linked 79 = .ok (.iload_n 2, 1) := by decide +kernel
theorem dX8_linked_80 : decode cX8_linked 80 = .ok (.ireturn, 1) := by decide +kernel
set_option maxRecDepth 20000 in
theorem ggX8_page_X8_isPage : GoodIn wsX8_page wsX8_isPage := goodIn_r _ [9, 10, 11, 12, 8, 13, 42, 43, 44, 45, 46, 47, 48, 49, 50, 51, 52, 53, 54, 55, 56, 57, 58] (by decide +kernel) (by decide +kernel)
set_option maxRecDepth 20000 in
theorem gX8_page_X8_isPage : GoodIn wsX8_page (wsV RX8 165 RX8 yX8_isPage wsX8_isPage) := goodIn_app (goodIn_of _ (by decide +kernel)) ggX8_page_X8_isPage
set_option maxRecDepth 20000 in
theorem ggX8_page_X8_in : GoodIn wsX8_page wsX8_in := goodIn_r _ [13] (by decide +kernel) (by decide +kernel)
set_option maxRecDepth 20000 in
theorem gX8_page_X8_in : GoodIn wsX8_page (va_wsS RX8 70 yX8_in wsX8_in) := goodIn_app (goodIn_of _ (by decide +kernel)) ggX8_page_X8_in
set_option maxRecDepth 20000 in
theorem ggX8_page_X8_of : GoodIn wsX8_page wsX8_of := goodIn_r _ [17, 10, 18, 19, 8, 20, 42, 43, 44, 45, 46, 47, 48, 49, 50, 51, 52, 53, 54, 55, 56, 57, 58] (by decide +kernel) (by decide +kernel)
set_option maxRecDepth 20000 in
theorem gX8_page_X8_of : GoodIn wsX8_page (wsV RX8 82 RX8 yX8_of wsX8_of) := goodIn_app (goodIn_of _ (by decide +kernel)) ggX8_page_X8_of
set_option maxRecDepth 20000 in
theorem ggX8_page_X8_lengthOf : GoodIn wsX8_page wsX8_lengthOf := goodIn_r _ [24, 25, 26, 27, 8, 28, 14, 15, 16, 17, 10, 18, 19, 20, 29, 30, 31, 32, 42, 43, 44, 45, 46, 47, 48, 49, 50, 51, 52, 53, 54, 55, 56, 57, 58] (by decide +kernel) (by decide +kernel)
set_option maxRecDepth 20000 in
theorem gX8_page_X8_lengthOf : GoodIn wsX8_page (wsV RX8 170 RX8 yX8_lengthOf wsX8_lengthOf) := goodIn_app (goodIn_of _ (by decide +kernel)) ggX8_page_X8_lengthOf
set_option maxRecDepth 20000 in
theorem ggX8_page_X8_lacks : GoodIn wsX8_page wsX8_lacks := goodIn_r _ [32, 14, 15, 16, 8, 17, 10, 18, 19, 20, 42, 43, 44, 45, 46, 47, 48, 49, 50, 51, 52, 53, 54, 55, 56, 57, 58] (by decide +kernel) (by decide +kernel)
set_option maxRecDepth 20000 in
theorem gX8_page_X8_lacks : GoodIn wsX8_page (wsV RX8 160 RX8 yX8_lacks wsX8_lacks) := goodIn_app (goodIn_of _ (by decide +kernel)) ggX8_page_X8_lacks
set_option maxRecDepth 20000 in
theorem ggX8_page_X8_sure : GoodIn wsX8_page wsX8_sure := goodIn_r _ [36, 37, 14, 15, 16, 8, 17, 10, 18, 19, 20, 11, 12, 13, 42, 43, 44, 45, 46, 47, 48, 49, 50, 51, 52, 53, 54, 55, 56, 57, 58] (by decide +kernel) (by decide +kernel)
set_option maxRecDepth 20000 in
theorem gX8_page_X8_sure : GoodIn wsX8_page (wsV RX8 173 RX8 yX8_sure wsX8_sure) := goodIn_app (goodIn_of _ (by decide +kernel)) ggX8_page_X8_sure
set_option maxRecDepth 20000 in
theorem ggX8_page_X8_linked : GoodIn wsX8_page wsX8_linked := goodIn_r _ [41, 10, 14, 15, 16, 8, 17, 18, 19, 20, 42, 43, 44, 45, 46, 47, 48, 49, 50, 51, 52, 53, 54, 55, 56, 57, 58] (by decide +kernel) (by decide +kernel)
set_option maxRecDepth 20000 in
theorem gX8_page_X8_linked : GoodIn wsX8_page (wsV RX8 176 RX8 yX8_linked wsX8_linked) := goodIn_app (goodIn_of _ (by decide +kernel)) ggX8_page_X8_linked
theorem dX8_page_0 : decode cX8_page 0 = .ok (.aload_n 0, 1) := by decide +kernel
theorem dX8_page_1 : decode cX8_page 1 = .ok (.iconst 0, 1) := by decide +kernel
theorem dX8_page_2 : decode cX8_page 2 = .ok (.putfield 48, 3) := by decide +kernel
theorem dX8_page_5 : decode cX8_page 5 = .ok (.aload_n 0, 1) := by decide +kernel
theorem dX8_page_6 : decode cX8_page 6 = .ok (.iload_n 1, 1) := by decide +kernel
theorem dX8_page_7 : decode cX8_page 7 = .ok (.invokevirtual 165, 3) := by decide +kernel
theorem dX8_page_10 : decode cX8_page 10 = .ok (.ifCond .ne 6, 3) := by decide +kernel
theorem dX8_page_13 : decode cX8_page 13 = .ok (.ldc 156, 2) := by decide +kernel
theorem dX8_page_15 : decode cX8_page 15 = .ok (.ireturn, 1) := by decide +kernel
theorem dX8_page_16 : decode cX8_page 16 = .ok (.iload_n 2, 1) := by decide +kernel
theorem dX8_page_17 : decode cX8_page 17 = .ok (.i2l, 1) := by decide +kernel
theorem dX8_page_18 : decode cX8_page 18 = .ok (.lconst 0, 1) := by decide +kernel
theorem dX8_page_19 : decode cX8_page 19 = .ok (.ldc2_w 168, 3) := by decide +kernel
theorem dX8_page_22 : decode cX8_page 22 = .ok (.invokestatic 70, 3) := by decide +kernel
theorem dX8_page_25 : decode cX8_page 25 = .ok (.ifCond .ne 6, 3) := by decide +kernel
theorem dX8_page_28 : decode cX8_page 28 = .ok (.ldc 74, 2) := by decide +kernel
theorem dX8_page_30 : decode cX8_page 30 = .ok (.ireturn, 1) := by decide +kernel
theorem dX8_page_31 : decode cX8_page 31 = .ok (.iload_n 2, 1) := by decide +kernel
theorem dX8_page_32 : decode cX8_page 32 = .ok (.iconst 5, 1) := by decide +kernel
theorem dX8_page_33 : decode cX8_page 33 = .ok (.if_icmp .ge 10, 3) := by decide +kernel
theorem dX8_page_36 : decode cX8_page 36 = .ok (.aload_n 0, 1) := by decide +kernel
theorem dX8_page_37 : decode cX8_page 37 = .ok (.iload_n 1, 1) := by decide +kernel
theorem dX8_page_38 : decode cX8_page 38 = .ok (.iload_n 2, 1) := by decide +kernel
theorem dX8_page_39 : decode cX8_page 39 = .ok (.invokevirtual 82, 3) := by decide +kernel
theorem dX8_page_42 : decode cX8_page 42 = .ok (.ireturn, 1) := by decide +kernel
theorem dX8_page_43 : decode cX8_page 43 = .ok (.iload_n 2, 1) := by decide +kernel
theorem dX8_page_44 : decode cX8_page 44 = .ok (.iconst 5, 1) := by decide +kernel
theorem dX8_page_45 : decode cX8_page 45 = .ok (.if_icmp .ne 11, 3) := by decide +kernel
theorem dX8_page_48 : decode cX8_page 48 = .ok (.aload_n 0, 1) := by decide +kernel
theorem dX8_page_49 : decode cX8_page 49 = .ok (.iload_n 1, 1) := by decide +kernel
theorem dX8_page_50 : decode cX8_page 50 = .ok (.invokevirtual 170, 3) := by decide +kernel
theorem dX8_page_53 : decode cX8_page 53 = .ok (.goto 36, 3) := by decide +kernel
theorem dX8_page_56 : decode cX8_page 56 = .ok (.iload_n 2, 1) := by decide +kernel
theorem dX8_page_57 : decode cX8_page 57 = .ok (.bipush 6, 2) := by decide +kernel
theorem dX8_page_59 : decode cX8_page 59 = .ok (.if_icmp .ne 11, 3) := by decide +kernel
theorem dX8_page_62 : decode cX8_page 62 = .ok (.aload_n 0, 1) := by decide +kernel
theorem dX8_page_63 : decode cX8_page 63 = .ok (.iload_n 1, 1) := by decide +kernel
theorem dX8_page_64 : decode cX8_page 64 = .ok (.invokevirtual 160, 3) := by decide +kernel
theorem dX8_page_67 : decode cX8_page 67 = .ok (.goto 22, 3) := by decide +kernel
theorem dX8_page_70 : decode cX8_page 70 = .ok (.iload_n 2, 1) := by decide +kernel
theorem dX8_page_71 : decode cX8_page 71 = .ok (.bipush 7, 2) := by decide +kernel
theorem dX8_page_73 : decode cX8_page 73 = .ok (.if_icmp .ne 11, 3) := by decide +kernel
theorem dX8_page_76 : decode cX8_page 76 = .ok (.aload_n 0, 1) := by decide +kernel
theorem dX8_page_77 : decode cX8_page 77 = .ok (.iload_n 1, 1) := by decide +kernel
theorem dX8_page_78 : decode cX8_page 78 = .ok (.invokevirtual 173, 3) := by decide +kernel
theorem dX8_page_81 : decode cX8_page 81 = .ok (.goto 8, 3) := by decide +kernel
theorem dX8_page_84 : decode cX8_page 84 = .ok (.aload_n 0, 1) := by decide +kernel
theorem dX8_page_85 : decode cX8_page 85 = .ok (.iload_n 1, 1) := by decide +kernel
theorem dX8_page_86 : decode cX8_page 86 = .ok (.invokevirtual 176, 3) := by decide +kernel
theorem dX8_page_89 : decode cX8_page 89 = .ok (.ireturn, 1) := by decide +kernel
set_option maxRecDepth 20000 in
theorem ggX8_letter_X8_isPage : GoodIn wsX8_letter wsX8_isPage := goodIn_r _ [10, 11, 12, 13, 9, 14, 22, 23, 24, 25, 26, 27, 28, 29, 30, 31, 32, 33, 34, 35, 36, 37, 38] (by decide +kernel) (by decide +kernel)
set_option maxRecDepth 20000 in
theorem gX8_letter_X8_isPage : GoodIn wsX8_letter (wsV RX8 165 RX8 yX8_isPage wsX8_isPage) := goodIn_app (goodIn_of _ (by decide +kernel)) ggX8_letter_X8_isPage
set_option maxRecDepth 20000 in
theorem ggX8_letter_X8_in : GoodIn wsX8_letter wsX8_in := goodIn_r _ [14] (by decide +kernel) (by decide +kernel)
set_option maxRecDepth 20000 in
theorem gX8_letter_X8_in : GoodIn wsX8_letter (va_wsS RX8 70 yX8_in wsX8_in) := goodIn_app (goodIn_of _ (by decide +kernel)) ggX8_letter_X8_in
set_option maxRecDepth 20000 in
theorem ggX8_letter_X8_of : GoodIn wsX8_letter wsX8_of := goodIn_r _ [18, 11, 19, 20, 9, 21, 22, 23, 24, 25, 26, 27, 28, 29, 30, 31, 32, 33, 34, 35, 36, 37, 38] (by decide +kernel) (by decide +kernel)
set_option maxRecDepth 20000 in
theorem gX8_letter_X8_of : GoodIn wsX8_letter (wsV RX8 82 RX8 yX8_of wsX8_of) := goodIn_app (goodIn_of _ (by decide +kernel)) ggX8_letter_X8_of
theorem dX8_letter_0 : decode cX8_letter 0 = .ok (.aload_n 0, 1) := by decide +kernel
theorem dX8_letter_1 : decode cX8_letter 1 = .ok (.iconst 0, 1) := by decide +kernel
theorem dX8_letter_2 : decode cX8_letter 2 = .ok (.putfield 48, 3) := by decide +kernel
theorem dX8_letter_5 : decode cX8_letter 5 = .ok (.aload_n 0, 1) := by decide +kernel
theorem dX8_letter_6 : decode cX8_letter 6 = .ok (.iload_n 1, 1) := by decide +kernel
theorem dX8_letter_7 : decode cX8_letter 7 = .ok (.invokevirtual 165, 3) := by decide +kernel
theorem dX8_letter_10 : decode cX8_letter 10 = .ok (.ifCond .ne 6, 3) := by decide +kernel
theorem dX8_letter_13 : decode cX8_letter 13 = .ok (.ldc 156, 2) := by decide +kernel
theorem dX8_letter_15 : decode cX8_letter 15 = .ok (.ireturn, 1) := by decide +kernel
theorem dX8_letter_16 : decode cX8_letter 16 = .ok (.iload_n 2, 1) := by decide +kernel
theorem dX8_letter_17 : decode cX8_letter 17 = .ok (.i2l, 1) := by decide +kernel
theorem dX8_letter_18 : decode cX8_letter 18 = .ok (.lconst 0, 1) := by decide +kernel
theorem dX8_letter_19 : decode cX8_letter 19 = .ok (.ldc2_w 179, 3) := by decide +kernel
theorem dX8_letter_22 : decode cX8_letter 22 = .ok (.invokestatic 70, 3) := by decide +kernel
theorem dX8_letter_25 : decode cX8_letter 25 = .ok (.ifCond .eq 32, 3) := by decide +kernel
theorem dX8_letter_28 : decode cX8_letter 28 = .ok (.iload_n 3, 1) := by decide +kernel
theorem dX8_letter_29 : decode cX8_letter 29 = .ok (.i2l, 1) := by decide +kernel
theorem dX8_letter_30 : decode cX8_letter 30 = .ok (.lconst 0, 1) := by decide +kernel
theorem dX8_letter_31 : decode cX8_letter 31 = .ok (.ldc2_w 102, 3) := by decide +kernel
theorem dX8_letter_34 : decode cX8_letter 34 = .ok (.invokestatic 70, 3) := by decide +kernel
theorem dX8_letter_37 : decode cX8_letter 37 = .ok (.ifCond .eq 20, 3) := by decide +kernel
theorem dX8_letter_40 : decode cX8_letter 40 = .ok (.aload_n 0, 1) := by decide +kernel
theorem dX8_letter_41 : decode cX8_letter 41 = .ok (.iload_n 1, 1) := by decide +kernel
theorem dX8_letter_42 : decode cX8_letter 42 = .ok (.bipush 10, 2) := by decide +kernel
theorem dX8_letter_44 : decode cX8_letter 44 = .ok (.bipush 8, 2) := by decide +kernel
theorem dX8_letter_46 : decode cX8_letter 46 = .ok (.iload_n 2, 1) := by decide +kernel
theorem dX8_letter_47 : decode cX8_letter 47 = .ok (.imul, 1) := by decide +kernel
theorem dX8_letter_48 : decode cX8_letter 48 = .ok (.iadd, 1) := by decide +kernel
theorem dX8_letter_49 : decode cX8_letter 49 = .ok (.iload_n 3, 1) := by decide +kernel
theorem dX8_letter_50 : decode cX8_letter 50 = .ok (.iadd, 1) := by decide +kernel
theorem dX8_letter_51 : decode cX8_letter 51 = .ok (.invokevirtual 82, 3) := by decide +kernel
theorem dX8_letter_54 : decode cX8_letter 54 = .ok (.goto 5, 3) := by decide +kernel
theorem dX8_letter_57 : decode cX8_letter 57 = .ok (.ldc 74, 2) := by decide +kernel
theorem dX8_letter_59 : decode cX8_letter 59 = .ok (.ireturn, 1) := by decide +kernel
set_option maxRecDepth 20000 in
theorem ggX8_link_X8_isPage : GoodIn wsX8_link wsX8_isPage := goodIn_r _ [9, 10, 11, 12, 8, 13, 21, 22, 23, 24, 25, 26, 27, 28, 29, 30, 31, 32, 33, 34, 35, 36, 37] (by decide +kernel) (by decide +kernel)
set_option maxRecDepth 20000 in
theorem gX8_link_X8_isPage : GoodIn wsX8_link (wsV RX8 165 RX8 yX8_isPage wsX8_isPage) := goodIn_app (goodIn_of _ (by decide +kernel)) ggX8_link_X8_isPage
set_option maxRecDepth 20000 in
theorem ggX8_link_X8_in : GoodIn wsX8_link wsX8_in := goodIn_r _ [13] (by decide +kernel) (by decide +kernel)
set_option maxRecDepth 20000 in
theorem gX8_link_X8_in : GoodIn wsX8_link (va_wsS RX8 70 yX8_in wsX8_in) := goodIn_app (goodIn_of _ (by decide +kernel)) ggX8_link_X8_in
set_option maxRecDepth 20000 in
theorem ggX8_link_X8_of : GoodIn wsX8_link wsX8_of := goodIn_r _ [17, 10, 18, 19, 8, 20, 21, 22, 23, 24, 25, 26, 27, 28, 29, 30, 31, 32, 33, 34, 35, 36, 37] (by decide +kernel) (by decide +kernel)
set_option maxRecDepth 20000 in
theorem gX8_link_X8_of : GoodIn wsX8_link (wsV RX8 82 RX8 yX8_of wsX8_of) := goodIn_app (goodIn_of _ (by decide +kernel)) ggX8_link_X8_of
theorem dX8_link_0 : decode cX8_link 0 = .ok (.aload_n 0, 1) := by decide +kernel
theorem dX8_link_1 : decode cX8_link 1 = .ok (.iconst 0, 1) := by decide +kernel
theorem dX8_link_2 : decode cX8_link 2 = .ok (.putfield 48, 3) := by decide +kernel
theorem dX8_link_5 : decode cX8_link 5 = .ok (.aload_n 0, 1) := by decide +kernel
theorem dX8_link_6 : decode cX8_link 6 = .ok (.iload_n 1, 1) := by decide +kernel
theorem dX8_link_7 : decode cX8_link 7 = .ok (.invokevirtual 165, 3) := by decide +kernel
theorem dX8_link_10 : decode cX8_link 10 = .ok (.ifCond .ne 6, 3) := by decide +kernel
theorem dX8_link_13 : decode cX8_link 13 = .ok (.ldc 156, 2) := by decide +kernel
theorem dX8_link_15 : decode cX8_link 15 = .ok (.ireturn, 1) := by decide +kernel
theorem dX8_link_16 : decode cX8_link 16 = .ok (.iload_n 2, 1) := by decide +kernel
theorem dX8_link_17 : decode cX8_link 17 = .ok (.i2l, 1) := by decide +kernel
theorem dX8_link_18 : decode cX8_link 18 = .ok (.lconst 0, 1) := by decide +kernel
theorem dX8_link_19 : decode cX8_link 19 = .ok (.ldc2_w 115, 3) := by decide +kernel
theorem dX8_link_22 : decode cX8_link 22 = .ok (.invokestatic 70, 3) := by decide +kernel
theorem dX8_link_25 : decode cX8_link 25 = .ok (.ifCond .eq 15, 3) := by decide +kernel
theorem dX8_link_28 : decode cX8_link 28 = .ok (.aload_n 0, 1) := by decide +kernel
theorem dX8_link_29 : decode cX8_link 29 = .ok (.iload_n 1, 1) := by decide +kernel
theorem dX8_link_30 : decode cX8_link 30 = .ok (.bipush 6, 2) := by decide +kernel
theorem dX8_link_32 : decode cX8_link 32 = .ok (.iload_n 2, 1) := by decide +kernel
theorem dX8_link_33 : decode cX8_link 33 = .ok (.iadd, 1) := by decide +kernel
theorem dX8_link_34 : decode cX8_link 34 = .ok (.invokevirtual 82, 3) := by decide +kernel
theorem dX8_link_37 : decode cX8_link 37 = .ok (.goto 5, 3) := by decide +kernel
theorem dX8_link_40 : decode cX8_link 40 = .ok (.ldc 74, 2) := by decide +kernel
theorem dX8_link_42 : decode cX8_link 42 = .ok (.ireturn, 1) := by decide +kernel
set_option maxRecDepth 20000 in
theorem ggX8_far_X8_isPage : GoodIn wsX8_far wsX8_isPage := goodIn_r _ [8, 3, 9, 10, 7, 11, 23, 24, 25, 26, 27, 28, 29, 30, 31, 32, 33, 34, 35, 36, 37, 38, 39] (by decide +kernel) (by decide +kernel)
set_option maxRecDepth 20000 in
theorem gX8_far_X8_isPage : GoodIn wsX8_far (wsV RX8 165 RX8 yX8_isPage wsX8_isPage) := goodIn_app (goodIn_of _ (by decide +kernel)) ggX8_far_X8_isPage
set_option maxRecDepth 20000 in
theorem ggX8_far_X8_linked : GoodIn wsX8_far wsX8_linked := goodIn_r _ [15, 3, 16, 17, 18, 7, 19, 20, 21, 22, 23, 24, 25, 26, 27, 28, 29, 30, 31, 32, 33, 34, 35, 36, 37, 38, 39] (by decide +kernel) (by decide +kernel)
set_option maxRecDepth 20000 in
theorem gX8_far_X8_linked : GoodIn wsX8_far (wsV RX8 176 RX8 yX8_linked wsX8_linked) := goodIn_app (goodIn_of _ (by decide +kernel)) ggX8_far_X8_linked
theorem dX8_far_0 : decode cX8_far 0 = .ok (.aload_n 0, 1) := by decide +kernel
theorem dX8_far_1 : decode cX8_far 1 = .ok (.iconst 0, 1) := by decide +kernel
theorem dX8_far_2 : decode cX8_far 2 = .ok (.putfield 48, 3) := by decide +kernel
theorem dX8_far_5 : decode cX8_far 5 = .ok (.aload_n 0, 1) := by decide +kernel
theorem dX8_far_6 : decode cX8_far 6 = .ok (.iload_n 1, 1) := by decide +kernel
theorem dX8_far_7 : decode cX8_far 7 = .ok (.invokevirtual 165, 3) := by decide +kernel
theorem dX8_far_10 : decode cX8_far 10 = .ok (.ifCond .eq 11, 3) := by decide +kernel
theorem dX8_far_13 : decode cX8_far 13 = .ok (.aload_n 0, 1) := by decide +kernel
theorem dX8_far_14 : decode cX8_far 14 = .ok (.iload_n 2, 1) := by decide +kernel
theorem dX8_far_15 : decode cX8_far 15 = .ok (.invokevirtual 165, 3) := by decide +kernel
theorem dX8_far_18 : decode cX8_far 18 = .ok (.ifCond .ne 6, 3) := by decide +kernel
theorem dX8_far_21 : decode cX8_far 21 = .ok (.ldc 156, 2) := by decide +kernel
theorem dX8_far_23 : decode cX8_far 23 = .ok (.ireturn, 1) := by decide +kernel
theorem dX8_far_24 : decode cX8_far 24 = .ok (.iconst 1, 1) := by decide +kernel
theorem dX8_far_25 : decode cX8_far 25 = .ok (.iload_n 1, 1) := by decide +kernel
theorem dX8_far_26 : decode cX8_far 26 = .ok (.ishl, 1) := by decide +kernel
theorem dX8_far_27 : decode cX8_far 27 = .ok (.istore_n 3, 1) := by decide +kernel
theorem dX8_far_28 : decode cX8_far 28 = .ok (.iconst 0, 1) := by decide +kernel
theorem dX8_far_29 : decode cX8_far 29 = .ok (.istore 4, 2) := by decide +kernel
theorem dX8_far_31 : decode cX8_far 31 = .ok (.iload 4, 2) := by decide +kernel
theorem dX8_far_33 : decode cX8_far 33 = .ok (.bipush 10, 2) := by decide +kernel
theorem dX8_far_35 : decode cX8_far 35 = .ok (.if_icmp .ge 72, 3) := by decide +kernel
theorem dX8_far_38 : decode cX8_far 38 = .ok (.iload_n 3, 1) := by decide +kernel
theorem dX8_far_39 : decode cX8_far 39 = .ok (.iload_n 2, 1) := by decide +kernel
theorem dX8_far_40 : decode cX8_far 40 = .ok (.ishr, 1) := by decide +kernel
theorem dX8_far_41 : decode cX8_far 41 = .ok (.iconst 1, 1) := by decide +kernel
theorem dX8_far_42 : decode cX8_far 42 = .ok (.iand, 1) := by decide +kernel
theorem dX8_far_43 : decode cX8_far 43 = .ok (.iconst 1, 1) := by decide +kernel
theorem dX8_far_44 : decode cX8_far 44 = .ok (.if_icmp .ne 6, 3) := by decide +kernel
theorem dX8_far_47 : decode cX8_far 47 = .ok (.iload 4, 2) := by decide +kernel
theorem dX8_far_49 : decode cX8_far 49 = .ok (.ireturn, 1) := by decide +kernel
theorem dX8_far_50 : decode cX8_far 50 = .ok (.iload_n 3, 1) := by decide +kernel
theorem dX8_far_51 : decode cX8_far 51 = .ok (.istore 5, 2) := by decide +kernel
theorem dX8_far_53 : decode cX8_far 53 = .ok (.iconst 0, 1) := by decide +kernel
theorem dX8_far_54 : decode cX8_far 54 = .ok (.istore 6, 2) := by decide +kernel
theorem dX8_far_56 : decode cX8_far 56 = .ok (.iload 6, 2) := by decide +kernel
theorem dX8_far_58 : decode cX8_far 58 = .ok (.aload_n 0, 1) := by decide +kernel
theorem dX8_far_59 : decode cX8_far 59 = .ok (.getfield 7, 3) := by decide +kernel
theorem dX8_far_62 : decode cX8_far 62 = .ok (.iconst 0, 1) := by decide +kernel
theorem dX8_far_63 : decode cX8_far 63 = .ok (.iaload, 1) := by decide +kernel
theorem dX8_far_64 : decode cX8_far 64 = .ok (.if_icmp .ge 34, 3) := by decide +kernel
theorem dX8_far_67 : decode cX8_far 67 = .ok (.iload 5, 2) := by decide +kernel
theorem dX8_far_69 : decode cX8_far 69 = .ok (.iload_n 3, 1) := by decide +kernel
theorem dX8_far_70 : decode cX8_far 70 = .ok (.iload 6, 2) := by decide +kernel
theorem dX8_far_72 : decode cX8_far 72 = .ok (.ishr, 1) := by decide +kernel
theorem dX8_far_73 : decode cX8_far 73 = .ok (.iconst 1, 1) := by decide +kernel
theorem dX8_far_74 : decode cX8_far 74 = .ok (.iand, 1) := by decide +kernel
theorem dX8_far_75 : decode cX8_far 75 = .ok (.iconst 1, 1) := by decide +kernel
theorem dX8_far_76 : decode cX8_far 76 = .ok (.if_icmp .ne 12, 3) := by decide +kernel
theorem dX8_far_79 : decode cX8_far 79 = .ok (.aload_n 0, 1) := by decide +kernel
theorem dX8_far_80 : decode cX8_far 80 = .ok (.iload 6, 2) := by decide +kernel
theorem dX8_far_82 : decode cX8_far 82 = .ok (.invokevirtual 176, 3) := by decide +kernel
theorem dX8_far_85 : decode cX8_far 85 = .ok (.goto 4, 3) := by decide +kernel
theorem dX8_far_88 : decode cX8_far 88 = .ok (.iconst 0, 1) := by decide +kernel
theorem dX8_far_89 : decode cX8_far 89 = .ok (.ior, 1) := by decide +kernel
theorem dX8_far_90 : decode cX8_far 90 = .ok (.istore 5, 2) := by decide +kernel
theorem dX8_far_92 : decode cX8_far 92 = .ok (.iinc 6 1, 3) := by decide +kernel
theorem dX8_far_95 : decode cX8_far 95 = .ok (.goto (-39), 3) := by decide +kernel
theorem dX8_far_98 : decode cX8_far 98 = .ok (.iload 5, 2) := by decide +kernel
theorem dX8_far_100 : decode cX8_far 100 = .ok (.istore_n 3, 1) := by decide +kernel
theorem dX8_far_101 : decode cX8_far 101 = .ok (.iinc 4 1, 3) := by decide +kernel
theorem dX8_far_104 : decode cX8_far 104 = .ok (.goto (-73), 3) := by decide +kernel
theorem dX8_far_107 : decode cX8_far 107 = .ok (.iconst (-1), 1) := by decide +kernel
theorem dX8_far_108 : decode cX8_far 108 = .ok (.ireturn, 1) := by decide +kernel
set_option maxRecDepth 20000 in
theorem ggX8_find_X8_pageOf : GoodIn wsX8_find wsX8_pageOf := goodIn_r _ [6, 7, 8, 9, 10, 5, 11, 12, 13, 14, 15, 16, 17, 18, 19, 20, 21, 22, 23, 24, 25, 26, 27, 28, 29, 30, 31] (by decide +kernel) (by decide +kernel)
set_option maxRecDepth 20000 in
theorem gX8_find_X8_pageOf : GoodIn wsX8_find (wsV RX8 104 RX8 yX8_pageOf wsX8_pageOf) := goodIn_app (goodIn_of _ (by decide +kernel)) ggX8_find_X8_pageOf
theorem dX8_find_0 : decode cX8_find 0 = .ok (.aload_n 0, 1) := by decide +kernel
theorem dX8_find_1 : decode cX8_find 1 = .ok (.iconst 0, 1) := by decide +kernel
theorem dX8_find_2 : decode cX8_find 2 = .ok (.putfield 48, 3) := by decide +kernel
theorem dX8_find_5 : decode cX8_find 5 = .ok (.aload_n 0, 1) := by decide +kernel
theorem dX8_find_6 : decode cX8_find 6 = .ok (.iload_n 1, 1) := by decide +kernel
theorem dX8_find_7 : decode cX8_find 7 = .ok (.iload_n 2, 1) := by decide +kernel
theorem dX8_find_8 : decode cX8_find 8 = .ok (.iload_n 3, 1) := by decide +kernel
theorem dX8_find_9 : decode cX8_find 9 = .ok (.invokevirtual 104, 3) := by decide +kernel
theorem dX8_find_12 : decode cX8_find 12 = .ok (.ireturn, 1) := by decide +kernel
set_option maxRecDepth 20000 in
theorem ggX8_weight_X8_isPage : GoodIn wsX8_weight wsX8_isPage := goodIn_r _ [10, 5, 11, 12, 9, 13, 27, 28, 29, 30, 31, 32, 33, 34, 35, 36, 37, 38, 39, 40, 41, 42, 43] (by decide +kernel) (by decide +kernel)
set_option maxRecDepth 20000 in
theorem gX8_weight_X8_isPage : GoodIn wsX8_weight (wsV RX8 165 RX8 yX8_isPage wsX8_isPage) := goodIn_app (goodIn_of _ (by decide +kernel)) ggX8_weight_X8_isPage
set_option maxRecDepth 20000 in
theorem ggX8_weight_X8_in : GoodIn wsX8_weight wsX8_in := goodIn_r _ [13] (by decide +kernel) (by decide +kernel)
set_option maxRecDepth 20000 in
theorem gX8_weight_X8_in : GoodIn wsX8_weight (va_wsS RX8 70 yX8_in wsX8_in) := goodIn_app (goodIn_of _ (by decide +kernel)) ggX8_weight_X8_in
set_option maxRecDepth 20000 in
theorem ggX8_weight_X8_notes : GoodIn wsX8_weight wsX8_notes := goodIn_r _ [17, 18, 19, 5, 27, 28, 29, 30, 31, 32, 33, 34, 35, 36, 37, 38, 39, 40, 41, 42, 43] (by decide +kernel) (by decide +kernel)
set_option maxRecDepth 20000 in
theorem gX8_weight_X8_notes : GoodIn wsX8_weight (wsV RX8 126 RX8 yX8_notes wsX8_notes) := goodIn_app (goodIn_of _ (by decide +kernel)) ggX8_weight_X8_notes
set_option maxRecDepth 20000 in
theorem ggX8_weight_X8_of : GoodIn wsX8_weight wsX8_of := goodIn_r _ [23, 5, 24, 25, 9, 26, 27, 28, 29, 30, 31, 32, 33, 34, 35, 36, 37, 38, 39, 40, 41, 42, 43] (by decide +kernel) (by decide +kernel)
set_option maxRecDepth 20000 in
theorem gX8_weight_X8_of : GoodIn wsX8_weight (wsV RX8 82 RX8 yX8_of wsX8_of) := goodIn_app (goodIn_of _ (by decide +kernel)) ggX8_weight_X8_of
set_option maxRecDepth 20000 in
theorem ggX8_weight_X8_at : GoodIn wsX8_weight wsX8_at := goodIn_r _ [26] (by decide +kernel) (by decide +kernel)
set_option maxRecDepth 20000 in
theorem gX8_weight_X8_at : GoodIn wsX8_weight (va_wsS RX8 52 yX8_at wsX8_at) := goodIn_app (goodIn_of _ (by decide +kernel)) ggX8_weight_X8_at
theorem dX8_weight_0 : decode cX8_weight 0 = .ok (.aload_n 0, 1) := by decide +kernel
theorem dX8_weight_1 : decode cX8_weight 1 = .ok (.iconst 0, 1) := by decide +kernel
theorem dX8_weight_2 : decode cX8_weight 2 = .ok (.putfield 48, 3) := by decide +kernel
theorem dX8_weight_5 : decode cX8_weight 5 = .ok (.aload_n 0, 1) := by decide +kernel
theorem dX8_weight_6 : decode cX8_weight 6 = .ok (.iload_n 1, 1) := by decide +kernel
theorem dX8_weight_7 : decode cX8_weight 7 = .ok (.invokevirtual 165, 3) := by decide +kernel
theorem dX8_weight_10 : decode cX8_weight 10 = .ok (.ifCond .ne 6, 3) := by decide +kernel
theorem dX8_weight_13 : decode cX8_weight 13 = .ok (.ldc 156, 2) := by decide +kernel
theorem dX8_weight_15 : decode cX8_weight 15 = .ok (.ireturn, 1) := by decide +kernel
theorem dX8_weight_16 : decode cX8_weight 16 = .ok (.iload_n 2, 1) := by decide +kernel
theorem dX8_weight_17 : decode cX8_weight 17 = .ok (.i2l, 1) := by decide +kernel
theorem dX8_weight_18 : decode cX8_weight 18 = .ok (.lconst 1, 1) := by decide +kernel
theorem dX8_weight_19 : decode cX8_weight 19 = .ok (.ldc2_w 100, 3) := by decide +kernel
theorem dX8_weight_22 : decode cX8_weight 22 = .ok (.invokestatic 70, 3) := by decide +kernel
theorem dX8_weight_25 : decode cX8_weight 25 = .ok (.ifCond .ne 6, 3) := by decide +kernel
theorem dX8_weight_28 : decode cX8_weight 28 = .ok (.ldc 74, 2) := by decide +kernel
theorem dX8_weight_30 : decode cX8_weight 30 = .ok (.ireturn, 1) := by decide +kernel
theorem dX8_weight_31 : decode cX8_weight 31 = .ok (.aload_n 0, 1) := by decide +kernel
theorem dX8_weight_32 : decode cX8_weight 32 = .ok (.invokevirtual 126, 3) := by decide +kernel
theorem dX8_weight_35 : decode cX8_weight 35 = .ok (.aload_n 0, 1) := by decide +kernel
theorem dX8_weight_36 : decode cX8_weight 36 = .ok (.iload_n 1, 1) := by decide +kernel
theorem dX8_weight_37 : decode cX8_weight 37 = .ok (.iconst 4, 1) := by decide +kernel
theorem dX8_weight_38 : decode cX8_weight 38 = .ok (.invokevirtual 82, 3) := by decide +kernel
theorem dX8_weight_41 : decode cX8_weight 41 = .ok (.istore_n 3, 1) := by decide +kernel
theorem dX8_weight_42 : decode cX8_weight 42 = .ok (.aload_n 0, 1) := by decide +kernel
theorem dX8_weight_43 : decode cX8_weight 43 = .ok (.getfield 7, 3) := by decide +kernel
theorem dX8_weight_46 : decode cX8_weight 46 = .ok (.iload_n 1, 1) := by decide +kernel
theorem dX8_weight_47 : decode cX8_weight 47 = .ok (.invokestatic 52, 3) := by decide +kernel
theorem dX8_weight_50 : decode cX8_weight 50 = .ok (.iconst 4, 1) := by decide +kernel
theorem dX8_weight_51 : decode cX8_weight 51 = .ok (.iadd, 1) := by decide +kernel
theorem dX8_weight_52 : decode cX8_weight 52 = .ok (.iload_n 2, 1) := by decide +kernel
theorem dX8_weight_53 : decode cX8_weight 53 = .ok (.iastore, 1) := by decide +kernel
theorem dX8_weight_54 : decode cX8_weight 54 = .ok (.iload_n 3, 1) := by decide +kernel
theorem dX8_weight_55 : decode cX8_weight 55 = .ok (.ireturn, 1) := by decide +kernel
set_option maxRecDepth 20000 in
theorem ggX8_drop_X8_isPage : GoodIn wsX8_drop wsX8_isPage := goodIn_r _ [8, 3, 9, 10, 7, 11, 25, 26, 27, 28, 29, 30, 31, 32, 33, 34, 35, 36, 37, 38, 39, 40, 41] (by decide +kernel) (by decide +kernel)
set_option maxRecDepth 20000 in
theorem gX8_drop_X8_isPage : GoodIn wsX8_drop (wsV RX8 165 RX8 yX8_isPage wsX8_isPage) := goodIn_app (goodIn_of _ (by decide +kernel)) ggX8_drop_X8_isPage
set_option maxRecDepth 20000 in
theorem ggX8_drop_X8_notes : GoodIn wsX8_drop wsX8_notes := goodIn_r _ [15, 16, 17, 3, 25, 26, 27, 28, 29, 30, 31, 32, 33, 34, 35, 36, 37, 38, 39, 40, 41] (by decide +kernel) (by decide +kernel)
set_option maxRecDepth 20000 in
theorem gX8_drop_X8_notes : GoodIn wsX8_drop (wsV RX8 126 RX8 yX8_notes wsX8_notes) := goodIn_app (goodIn_of _ (by decide +kernel)) ggX8_drop_X8_notes
set_option maxRecDepth 20000 in
theorem ggX8_drop_X8_goes : GoodIn wsX8_drop wsX8_goes := goodIn_r _ [21, 3, 22, 23, 7, 24, 25, 26, 27, 28, 29, 30, 31, 32, 33, 34, 35, 36, 37, 38, 39, 40, 41] (by decide +kernel) (by decide +kernel)
set_option maxRecDepth 20000 in
theorem gX8_drop_X8_goes : GoodIn wsX8_drop (wsV RX8 90 RX8 yX8_goes wsX8_goes) := goodIn_app (goodIn_of _ (by decide +kernel)) ggX8_drop_X8_goes
theorem dX8_drop_0 : decode cX8_drop 0 = .ok (.aload_n 0, 1) := by decide +kernel
theorem dX8_drop_1 : decode cX8_drop 1 = .ok (.iconst 0, 1) := by decide +kernel
theorem dX8_drop_2 : decode cX8_drop 2 = .ok (.putfield 48, 3) := by decide +kernel
theorem dX8_drop_5 : decode cX8_drop 5 = .ok (.aload_n 0, 1) := by decide +kernel
theorem dX8_drop_6 : decode cX8_drop 6 = .ok (.iload_n 1, 1) := by decide +kernel
theorem dX8_drop_7 : decode cX8_drop 7 = .ok (.invokevirtual 165, 3) := by decide +kernel
theorem dX8_drop_10 : decode cX8_drop 10 = .ok (.ifCond .ne 6, 3) := by decide +kernel
theorem dX8_drop_13 : decode cX8_drop 13 = .ok (.ldc 156, 2) := by decide +kernel
theorem dX8_drop_15 : decode cX8_drop 15 = .ok (.ireturn, 1) := by decide +kernel
theorem dX8_drop_16 : decode cX8_drop 16 = .ok (.aload_n 0, 1) := by decide +kernel
theorem dX8_drop_17 : decode cX8_drop 17 = .ok (.invokevirtual 126, 3) := by decide +kernel
theorem dX8_drop_20 : decode cX8_drop 20 = .ok (.aload_n 0, 1) := by decide +kernel
theorem dX8_drop_21 : decode cX8_drop 21 = .ok (.iload_n 1, 1) := by decide +kernel
theorem dX8_drop_22 : decode cX8_drop 22 = .ok (.invokevirtual 90, 3) := by decide +kernel
theorem dX8_drop_25 : decode cX8_drop 25 = .ok (.aload_n 0, 1) := by decide +kernel
theorem dX8_drop_26 : decode cX8_drop 26 = .ok (.getfield 7, 3) := by decide +kernel
theorem dX8_drop_29 : decode cX8_drop 29 = .ok (.iconst 0, 1) := by decide +kernel
theorem dX8_drop_30 : decode cX8_drop 30 = .ok (.iaload, 1) := by decide +kernel
theorem dX8_drop_31 : decode cX8_drop 31 = .ok (.ireturn, 1) := by decide +kernel
theorem dX8_draw_0 : decode cX8_draw 0 = .ok (.aload_n 0, 1) := by decide +kernel
theorem dX8_draw_1 : decode cX8_draw 1 = .ok (.aload_n 0, 1) := by decide +kernel
theorem dX8_draw_2 : decode cX8_draw 2 = .ok (.getfield 181, 3) := by decide +kernel
theorem dX8_draw_5 : decode cX8_draw 5 = .ok (.ldc2_w 185, 3) := by decide +kernel
theorem dX8_draw_8 : decode cX8_draw 8 = .ok (.lmul, 1) := by decide +kernel
theorem dX8_draw_9 : decode cX8_draw 9 = .ok (.ldc2_w 187, 3) := by decide +kernel
theorem dX8_draw_12 : decode cX8_draw 12 = .ok (.ladd, 1) := by decide +kernel
theorem dX8_draw_13 : decode cX8_draw 13 = .ok (.ldc2_w 189, 3) := by decide +kernel
theorem dX8_draw_16 : decode cX8_draw 16 = .ok (.lrem, 1) := by decide +kernel
theorem dX8_draw_17 : decode cX8_draw 17 = .ok (.putfield 181, 3) := by decide +kernel
theorem dX8_draw_20 : decode cX8_draw 20 = .ok (.aload_n 0, 1) := by decide +kernel
theorem dX8_draw_21 : decode cX8_draw 21 = .ok (.getfield 181, 3) := by decide +kernel
theorem dX8_draw_24 : decode cX8_draw 24 = .ok (.ldc2_w 191, 3) := by decide +kernel
theorem dX8_draw_27 : decode cX8_draw 27 = .ok (.ldiv, 1) := by decide +kernel
theorem dX8_draw_28 : decode cX8_draw 28 = .ok (.iload_n 1, 1) := by decide +kernel
theorem dX8_draw_29 : decode cX8_draw 29 = .ok (.i2l, 1) := by decide +kernel
theorem dX8_draw_30 : decode cX8_draw 30 = .ok (.lrem, 1) := by decide +kernel
theorem dX8_draw_31 : decode cX8_draw 31 = .ok (.l2i, 1) := by decide +kernel
theorem dX8_draw_32 : decode cX8_draw 32 = .ok (.ireturn, 1) := by decide +kernel
set_option maxRecDepth 20000 in
theorem ggX8_drifts_X8_draw : GoodIn wsX8_drifts wsX8_draw := goodIn_r _ [6, 7, 8, 9, 10, 11, 102, 103, 104, 105, 106, 107, 108, 109, 110, 111, 112, 113, 114, 115, 116, 117, 118] (by decide +kernel) (by decide +kernel)
set_option maxRecDepth 20000 in
theorem gX8_drifts_X8_draw : GoodIn wsX8_drifts (wsV RX8 193 RX8 yX8_draw wsX8_draw) := goodIn_app (goodIn_of _ (by decide +kernel)) ggX8_drifts_X8_draw
set_option maxRecDepth 20000 in
theorem ggX8_drifts_X8_codeOf : GoodIn wsX8_drifts wsX8_codeOf := goodIn_r _ [14, 15, 16, 5, 17] (by decide +kernel) (by decide +kernel)
set_option maxRecDepth 20000 in
theorem gX8_drifts_X8_codeOf : GoodIn wsX8_drifts (va_wsS RX8 59 yX8_codeOf wsX8_codeOf) := goodIn_app (goodIn_of _ (by decide +kernel)) ggX8_drifts_X8_codeOf
set_option maxRecDepth 20000 in
theorem ggX8_drifts_X8_laid : GoodIn wsX8_drifts wsX8_laid := goodIn_r _ [20, 12, 13, 5, 14, 15, 16, 17, 21, 22, 23, 24, 25, 26] (by decide +kernel) (by decide +kernel)
set_option maxRecDepth 20000 in
theorem gX8_drifts_X8_laid : GoodIn wsX8_drifts (va_wsS RX8 147 yX8_laid wsX8_laid) := goodIn_app (goodIn_of _ (by decide +kernel)) ggX8_drifts_X8_laid
set_option maxRecDepth 20000 in
theorem ggX8_drifts_X8_comes : GoodIn wsX8_drifts wsX8_comes := goodIn_r _ [30, 31, 32, 33, 34, 5, 35, 36, 37, 38, 39, 40, 41, 42, 43, 44, 45, 46, 47, 1, 48, 49, 50, 51, 52, 53, 54, 12, 13, 14, 15, 16, 17, 24, 25, 26, 55, 56, 57, 58, 59, 60, 61, 62, 63, 64, 65, 66, 67, 68, 69, 70, 71, 72, 73, 74, 75, 76, 77, 78, 79, 80, 81, 82, 83, 84, 85, 86, 87, 88, 89, 90, 91, 92, 93, 94, 95, 96, 97, 98, 99, 100, 101, 102, 103, 104, 105, 106, 107, 108, 109, 110, 111, 112, 113, 114, 115, 116, 117, 118] (by decide +kernel) (by decide +kernel)
set_option maxRecDepth 20000 in
theorem gX8_drifts_X8_comes : GoodIn wsX8_drifts (wsV RX8 139 RX8 yX8_comes wsX8_comes) := goodIn_app (goodIn_of _ (by decide +kernel)) ggX8_drifts_X8_comes
theorem dX8_drifts_0 : decode cX8_drifts 0 = .ok (.aload_n 0, 1) := by decide +kernel
theorem dX8_drifts_1 : decode cX8_drifts 1 = .ok (.iconst 4, 1) := by decide +kernel
theorem dX8_drifts_2 : decode cX8_drifts 2 = .ok (.invokevirtual 193, 3) := by decide +kernel
theorem dX8_drifts_5 : decode cX8_drifts 5 = .ok (.istore_n 1, 1) := by decide +kernel
theorem dX8_drifts_6 : decode cX8_drifts 6 = .ok (.aload_n 0, 1) := by decide +kernel
theorem dX8_drifts_7 : decode cX8_drifts 7 = .ok (.bipush 8, 2) := by decide +kernel
theorem dX8_drifts_9 : decode cX8_drifts 9 = .ok (.invokevirtual 193, 3) := by decide +kernel
theorem dX8_drifts_12 : decode cX8_drifts 12 = .ok (.istore_n 2, 1) := by decide +kernel
theorem dX8_drifts_13 : decode cX8_drifts 13 = .ok (.aload_n 0, 1) := by decide +kernel
theorem dX8_drifts_14 : decode cX8_drifts 14 = .ok (.getfield 13, 3) := by decide +kernel
theorem dX8_drifts_17 : decode cX8_drifts 17 = .ok (.iconst 0, 1) := by decide +kernel
theorem dX8_drifts_18 : decode cX8_drifts 18 = .ok (.iload_n 1, 1) := by decide +kernel
theorem dX8_drifts_19 : decode cX8_drifts 19 = .ok (.invokestatic 59, 3) := by decide +kernel
theorem dX8_drifts_22 : decode cX8_drifts 22 = .ok (.iastore, 1) := by decide +kernel
theorem dX8_drifts_23 : decode cX8_drifts 23 = .ok (.aload_n 0, 1) := by decide +kernel
theorem dX8_drifts_24 : decode cX8_drifts 24 = .ok (.getfield 13, 3) := by decide +kernel
theorem dX8_drifts_27 : decode cX8_drifts 27 = .ok (.iconst 1, 1) := by decide +kernel
theorem dX8_drifts_28 : decode cX8_drifts 28 = .ok (.iload_n 2, 1) := by decide +kernel
theorem dX8_drifts_29 : decode cX8_drifts 29 = .ok (.invokestatic 59, 3) := by decide +kernel
theorem dX8_drifts_32 : decode cX8_drifts 32 = .ok (.iastore, 1) := by decide +kernel
theorem dX8_drifts_33 : decode cX8_drifts 33 = .ok (.iconst 2, 1) := by decide +kernel
theorem dX8_drifts_34 : decode cX8_drifts 34 = .ok (.istore_n 3, 1) := by decide +kernel
theorem dX8_drifts_35 : decode cX8_drifts 35 = .ok (.iload_n 3, 1) := by decide +kernel
theorem dX8_drifts_36 : decode cX8_drifts 36 = .ok (.bipush 10, 2) := by decide +kernel
theorem dX8_drifts_38 : decode cX8_drifts 38 = .ok (.if_icmp .ge 25, 3) := by decide +kernel
theorem dX8_drifts_41 : decode cX8_drifts 41 = .ok (.aload_n 0, 1) := by decide +kernel
theorem dX8_drifts_42 : decode cX8_drifts 42 = .ok (.getfield 13, 3) := by decide +kernel
theorem dX8_drifts_45 : decode cX8_drifts 45 = .ok (.iload_n 3, 1) := by decide +kernel
theorem dX8_drifts_46 : decode cX8_drifts 46 = .ok (.iload_n 2, 1) := by decide +kernel
theorem dX8_drifts_47 : decode cX8_drifts 47 = .ok (.aload_n 0, 1) := by decide +kernel
theorem dX8_drifts_48 : decode cX8_drifts 48 = .ok (.bipush 10, 2) := by decide +kernel
theorem dX8_drifts_50 : decode cX8_drifts 50 = .ok (.invokevirtual 193, 3) := by decide +kernel
theorem dX8_drifts_53 : decode cX8_drifts 53 = .ok (.invokestatic 147, 3) := by decide +kernel
theorem dX8_drifts_56 : decode cX8_drifts 56 = .ok (.iastore, 1) := by decide +kernel
theorem dX8_drifts_57 : decode cX8_drifts 57 = .ok (.iinc 3 1, 3) := by decide +kernel
theorem dX8_drifts_60 : decode cX8_drifts 60 = .ok (.goto (-25), 3) := by decide +kernel
theorem dX8_drifts_63 : decode cX8_drifts 63 = .ok (.aload_n 0, 1) := by decide +kernel
theorem dX8_drifts_64 : decode cX8_drifts 64 = .ok (.bipush 80, 2) := by decide +kernel
theorem dX8_drifts_66 : decode cX8_drifts 66 = .ok (.invokevirtual 193, 3) := by decide +kernel
theorem dX8_drifts_69 : decode cX8_drifts 69 = .ok (.istore_n 3, 1) := by decide +kernel
theorem dX8_drifts_70 : decode cX8_drifts 70 = .ok (.aload_n 0, 1) := by decide +kernel
theorem dX8_drifts_71 : decode cX8_drifts 71 = .ok (.getfield 13, 3) := by decide +kernel
theorem dX8_drifts_74 : decode cX8_drifts 74 = .ok (.iload_n 3, 1) := by decide +kernel
theorem dX8_drifts_75 : decode cX8_drifts 75 = .ok (.bipush 8, 2) := by decide +kernel
theorem dX8_drifts_77 : decode cX8_drifts 77 = .ok (.idiv, 1) := by decide +kernel
theorem dX8_drifts_78 : decode cX8_drifts 78 = .ok (.dup2, 1) := by decide +kernel
theorem dX8_drifts_79 : decode cX8_drifts 79 = .ok (.iaload, 1) := by decide +kernel
theorem dX8_drifts_80 : decode cX8_drifts 80 = .ok (.iconst 1, 1) := by decide +kernel
theorem dX8_drifts_81 : decode cX8_drifts 81 = .ok (.iload_n 3, 1) := by decide +kernel
theorem dX8_drifts_82 : decode cX8_drifts 82 = .ok (.bipush 8, 2) := by decide +kernel
theorem dX8_drifts_84 : decode cX8_drifts 84 = .ok (.irem, 1) := by decide +kernel
theorem dX8_drifts_85 : decode cX8_drifts 85 = .ok (.ishl, 1) := by decide +kernel
theorem dX8_drifts_86 : decode cX8_drifts 86 = .ok (.ixor, 1) := by decide +kernel
theorem dX8_drifts_87 : decode cX8_drifts 87 = .ok (.iastore, 1) := by decide +kernel
theorem dX8_drifts_88 : decode cX8_drifts 88 = .ok (.aload_n 0, 1) := by decide +kernel
theorem dX8_drifts_89 : decode cX8_drifts 89 = .ok (.invokevirtual 139, 3) := by decide +kernel
theorem dX8_drifts_92 : decode cX8_drifts 92 = .ok (.pop, 1) := by decide +kernel
theorem dX8_drifts_93 : decode cX8_drifts 93 = .ok (.return_, 1) := by decide +kernel
set_option maxRecDepth 20000 in
theorem ggX8_drift_X8_in : GoodIn wsX8_drift wsX8_in := goodIn_r _ [8] (by decide +kernel) (by decide +kernel)
set_option maxRecDepth 20000 in
theorem gX8_drift_X8_in : GoodIn wsX8_drift (va_wsS RX8 70 yX8_in wsX8_in) := goodIn_app (goodIn_of _ (by decide +kernel)) ggX8_drift_X8_in
set_option maxRecDepth 20000 in
theorem ggX8_drift_X8_drifts : GoodIn wsX8_drift wsX8_drifts := goodIn_r _ [12, 13, 14, 15, 16, 7, 17, 18, 19, 20, 21, 22, 23, 24, 25, 26, 27, 28, 29, 30, 31, 32, 33, 34, 35, 36, 37, 38, 39, 40, 41, 4, 42, 43, 44, 45, 46, 47, 48, 49, 50, 51, 52, 53, 54, 55, 56, 57, 58, 59, 60, 61, 62, 63, 64, 65, 66, 67, 68, 5, 6, 8, 69, 70, 71, 72, 73, 74, 75, 76, 77, 78, 79, 80, 81, 82, 83, 84, 85, 86, 87, 88, 89, 90, 91, 92, 93, 94, 95, 96, 97, 98, 99, 100, 101, 102, 103, 104, 105, 106, 107, 108, 109, 110, 111, 112, 113, 114, 115, 116, 117, 118, 119, 120, 121, 122, 123, 124, 125] (by decide +kernel) (by decide +kernel)
set_option maxRecDepth 20000 in
theorem gX8_drift_X8_drifts : GoodIn wsX8_drift (wsV RX8 196 RX8 yX8_drifts wsX8_drifts) := goodIn_app (goodIn_of _ (by decide +kernel)) ggX8_drift_X8_drifts
theorem dX8_drift_0 : decode cX8_drift 0 = .ok (.aload_n 0, 1) := by decide +kernel
theorem dX8_drift_1 : decode cX8_drift 1 = .ok (.iconst 0, 1) := by decide +kernel
theorem dX8_drift_2 : decode cX8_drift 2 = .ok (.putfield 48, 3) := by decide +kernel
theorem dX8_drift_5 : decode cX8_drift 5 = .ok (.iload_n 1, 1) := by decide +kernel
theorem dX8_drift_6 : decode cX8_drift 6 = .ok (.i2l, 1) := by decide +kernel
theorem dX8_drift_7 : decode cX8_drift 7 = .ok (.lconst 1, 1) := by decide +kernel
theorem dX8_drift_8 : decode cX8_drift 8 = .ok (.ldc2_w 145, 3) := by decide +kernel
theorem dX8_drift_11 : decode cX8_drift 11 = .ok (.invokestatic 70, 3) := by decide +kernel
theorem dX8_drift_14 : decode cX8_drift 14 = .ok (.ifCond .ne 6, 3) := by decide +kernel
theorem dX8_drift_17 : decode cX8_drift 17 = .ok (.ldc 74, 2) := by decide +kernel
theorem dX8_drift_19 : decode cX8_drift 19 = .ok (.ireturn, 1) := by decide +kernel
theorem dX8_drift_20 : decode cX8_drift 20 = .ok (.iconst 0, 1) := by decide +kernel
theorem dX8_drift_21 : decode cX8_drift 21 = .ok (.istore_n 2, 1) := by decide +kernel
theorem dX8_drift_22 : decode cX8_drift 22 = .ok (.iload_n 2, 1) := by decide +kernel
theorem dX8_drift_23 : decode cX8_drift 23 = .ok (.iload_n 1, 1) := by decide +kernel
theorem dX8_drift_24 : decode cX8_drift 24 = .ok (.if_icmp .ge 13, 3) := by decide +kernel
theorem dX8_drift_27 : decode cX8_drift 27 = .ok (.aload_n 0, 1) := by decide +kernel
theorem dX8_drift_28 : decode cX8_drift 28 = .ok (.invokevirtual 196, 3) := by decide +kernel
theorem dX8_drift_31 : decode cX8_drift 31 = .ok (.iinc 2 1, 3) := by decide +kernel
theorem dX8_drift_34 : decode cX8_drift 34 = .ok (.goto (-12), 3) := by decide +kernel
theorem dX8_drift_37 : decode cX8_drift 37 = .ok (.aload_n 0, 1) := by decide +kernel
theorem dX8_drift_38 : decode cX8_drift 38 = .ok (.getfield 7, 3) := by decide +kernel
theorem dX8_drift_41 : decode cX8_drift 41 = .ok (.iconst 0, 1) := by decide +kernel
theorem dX8_drift_42 : decode cX8_drift 42 = .ok (.iaload, 1) := by decide +kernel
theorem dX8_drift_43 : decode cX8_drift 43 = .ok (.ireturn, 1) := by decide +kernel
set_option maxRecDepth 20000 in
theorem ggX8_undo_X8_in : GoodIn wsX8_undo wsX8_in := goodIn_r _ [11] (by decide +kernel) (by decide +kernel)
set_option maxRecDepth 20000 in
theorem gX8_undo_X8_in : GoodIn wsX8_undo (va_wsS RX8 70 yX8_in wsX8_in) := goodIn_app (goodIn_of _ (by decide +kernel)) ggX8_undo_X8_in
theorem dX8_undo_0 : decode cX8_undo 0 = .ok (.aload_n 0, 1) := by decide +kernel
theorem dX8_undo_1 : decode cX8_undo 1 = .ok (.iconst 0, 1) := by decide +kernel
theorem dX8_undo_2 : decode cX8_undo 2 = .ok (.putfield 48, 3) := by decide +kernel
theorem dX8_undo_5 : decode cX8_undo 5 = .ok (.iload_n 1, 1) := by decide +kernel
theorem dX8_undo_6 : decode cX8_undo 6 = .ok (.i2l, 1) := by decide +kernel
theorem dX8_undo_7 : decode cX8_undo 7 = .ok (.lconst 1, 1) := by decide +kernel
theorem dX8_undo_8 : decode cX8_undo 8 = .ok (.ldc2_w 145, 3) := by decide +kernel
theorem dX8_undo_11 : decode cX8_undo 11 = .ok (.invokestatic 70, 3) := by decide +kernel
theorem dX8_undo_14 : decode cX8_undo 14 = .ok (.ifCond .ne 6, 3) := by decide +kernel
theorem dX8_undo_17 : decode cX8_undo 17 = .ok (.ldc 74, 2) := by decide +kernel
theorem dX8_undo_19 : decode cX8_undo 19 = .ok (.ireturn, 1) := by decide +kernel
theorem dX8_undo_20 : decode cX8_undo 20 = .ok (.iload_n 1, 1) := by decide +kernel
theorem dX8_undo_21 : decode cX8_undo 21 = .ok (.aload_n 0, 1) := by decide +kernel
theorem dX8_undo_22 : decode cX8_undo 22 = .ok (.getfield 133, 3) := by decide +kernel
theorem dX8_undo_25 : decode cX8_undo 25 = .ok (.if_icmp .le 6, 3) := by decide +kernel
theorem dX8_undo_28 : decode cX8_undo 28 = .ok (.ldc 199, 2) := by decide +kernel
theorem dX8_undo_30 : decode cX8_undo 30 = .ok (.ireturn, 1) := by decide +kernel
theorem dX8_undo_31 : decode cX8_undo 31 = .ok (.aload_n 0, 1) := by decide +kernel
theorem dX8_undo_32 : decode cX8_undo 32 = .ok (.dup, 1) := by decide +kernel
theorem dX8_undo_33 : decode cX8_undo 33 = .ok (.getfield 133, 3) := by decide +kernel
theorem dX8_undo_36 : decode cX8_undo 36 = .ok (.iload_n 1, 1) := by decide +kernel
theorem dX8_undo_37 : decode cX8_undo 37 = .ok (.isub, 1) := by decide +kernel
theorem dX8_undo_38 : decode cX8_undo 38 = .ok (.putfield 133, 3) := by decide +kernel
theorem dX8_undo_41 : decode cX8_undo 41 = .ok (.iconst 0, 1) := by decide +kernel
theorem dX8_undo_42 : decode cX8_undo 42 = .ok (.istore_n 2, 1) := by decide +kernel
theorem dX8_undo_43 : decode cX8_undo 43 = .ok (.iload_n 2, 1) := by decide +kernel
theorem dX8_undo_44 : decode cX8_undo 44 = .ok (.sipush 508, 3) := by decide +kernel
theorem dX8_undo_47 : decode cX8_undo 47 = .ok (.if_icmp .ge 30, 3) := by decide +kernel
theorem dX8_undo_50 : decode cX8_undo 50 = .ok (.aload_n 0, 1) := by decide +kernel
theorem dX8_undo_51 : decode cX8_undo 51 = .ok (.getfield 7, 3) := by decide +kernel
theorem dX8_undo_54 : decode cX8_undo 54 = .ok (.iload_n 2, 1) := by decide +kernel
theorem dX8_undo_55 : decode cX8_undo 55 = .ok (.aload_n 0, 1) := by decide +kernel
theorem dX8_undo_56 : decode cX8_undo 56 = .ok (.getfield 19, 3) := by decide +kernel
theorem dX8_undo_59 : decode cX8_undo 59 = .ok (.sipush 508, 3) := by decide +kernel
theorem dX8_undo_62 : decode cX8_undo 62 = .ok (.aload_n 0, 1) := by decide +kernel
theorem dX8_undo_63 : decode cX8_undo 63 = .ok (.getfield 133, 3) := by decide +kernel
theorem dX8_undo_66 : decode cX8_undo 66 = .ok (.imul, 1) := by decide +kernel
theorem dX8_undo_67 : decode cX8_undo 67 = .ok (.iload_n 2, 1) := by decide +kernel
theorem dX8_undo_68 : decode cX8_undo 68 = .ok (.iadd, 1) := by decide +kernel
theorem dX8_undo_69 : decode cX8_undo 69 = .ok (.iaload, 1) := by decide +kernel
theorem dX8_undo_70 : decode cX8_undo 70 = .ok (.iastore, 1) := by decide +kernel
theorem dX8_undo_71 : decode cX8_undo 71 = .ok (.iinc 2 1, 3) := by decide +kernel
theorem dX8_undo_74 : decode cX8_undo 74 = .ok (.goto (-31), 3) := by decide +kernel
theorem dX8_undo_77 : decode cX8_undo 77 = .ok (.aload_n 0, 1) := by decide +kernel
theorem dX8_undo_78 : decode cX8_undo 78 = .ok (.getfield 7, 3) := by decide +kernel
theorem dX8_undo_81 : decode cX8_undo 81 = .ok (.iconst 1, 1) := by decide +kernel
theorem dX8_undo_82 : decode cX8_undo 82 = .ok (.iaload, 1) := by decide +kernel
theorem dX8_undo_83 : decode cX8_undo 83 = .ok (.ireturn, 1) := by decide +kernel
set_option maxRecDepth 20000 in
theorem ggX8_isBetter_X8_of : GoodIn wsX8_isBetter wsX8_of := goodIn_r _ [7, 8, 9, 10, 6, 11, 24, 25, 26, 27, 28, 29, 30, 31, 32, 33, 34, 35, 36, 37, 38, 39, 40] (by decide +kernel) (by decide +kernel)
set_option maxRecDepth 20000 in
theorem gX8_isBetter_X8_of : GoodIn wsX8_isBetter (wsV RX8 82 RX8 yX8_of wsX8_of) := goodIn_app (goodIn_of _ (by decide +kernel)) ggX8_isBetter_X8_of
set_option maxRecDepth 20000 in
theorem ggX8_isBetter_X8_lengthOf : GoodIn wsX8_isBetter wsX8_lengthOf := goodIn_r _ [15, 16, 17, 18, 6, 19, 3, 4, 5, 7, 8, 9, 10, 11, 20, 21, 22, 23, 24, 25, 26, 27, 28, 29, 30, 31, 32, 33, 34, 35, 36, 37, 38, 39, 40] (by decide +kernel) (by decide +kernel)
set_option maxRecDepth 20000 in
theorem gX8_isBetter_X8_lengthOf : GoodIn wsX8_isBetter (wsV RX8 170 RX8 yX8_lengthOf wsX8_lengthOf) := goodIn_app (goodIn_of _ (by decide +kernel)) ggX8_isBetter_X8_lengthOf
theorem dX8_isBetter_0 : decode cX8_isBetter 0 = .ok (.iload_n 1, 1) := by decide +kernel
theorem dX8_isBetter_1 : decode cX8_isBetter 1 = .ok (.iconst 1, 1) := by decide +kernel
theorem dX8_isBetter_2 : decode cX8_isBetter 2 = .ok (.if_icmp .ne 48, 3) := by decide +kernel
theorem dX8_isBetter_5 : decode cX8_isBetter 5 = .ok (.aload_n 0, 1) := by decide +kernel
theorem dX8_isBetter_6 : decode cX8_isBetter 6 = .ok (.iload_n 2, 1) := by decide +kernel
theorem dX8_isBetter_7 : decode cX8_isBetter 7 = .ok (.iconst 4, 1) := by decide +kernel
theorem dX8_isBetter_8 : decode cX8_isBetter 8 = .ok (.invokevirtual 82, 3) := by decide +kernel
theorem dX8_isBetter_11 : decode cX8_isBetter 11 = .ok (.iload 4, 2) := by decide +kernel
theorem dX8_isBetter_13 : decode cX8_isBetter 13 = .ok (.aload_n 0, 1) := by decide +kernel
theorem dX8_isBetter_14 : decode cX8_isBetter 14 = .ok (.getfield 42, 3) := by decide +kernel
theorem dX8_isBetter_17 : decode cX8_isBetter 17 = .ok (.iload_n 2, 1) := by decide +kernel
theorem dX8_isBetter_18 : decode cX8_isBetter 18 = .ok (.iaload, 1) := by decide +kernel
theorem dX8_isBetter_19 : decode cX8_isBetter 19 = .ok (.isub, 1) := by decide +kernel
theorem dX8_isBetter_20 : decode cX8_isBetter 20 = .ok (.iconst 1, 1) := by decide +kernel
theorem dX8_isBetter_21 : decode cX8_isBetter 21 = .ok (.iadd, 1) := by decide +kernel
theorem dX8_isBetter_22 : decode cX8_isBetter 22 = .ok (.imul, 1) := by decide +kernel
theorem dX8_isBetter_23 : decode cX8_isBetter 23 = .ok (.aload_n 0, 1) := by decide +kernel
theorem dX8_isBetter_24 : decode cX8_isBetter 24 = .ok (.iload_n 3, 1) := by decide +kernel
theorem dX8_isBetter_25 : decode cX8_isBetter 25 = .ok (.iconst 4, 1) := by decide +kernel
theorem dX8_isBetter_26 : decode cX8_isBetter 26 = .ok (.invokevirtual 82, 3) := by decide +kernel
theorem dX8_isBetter_29 : decode cX8_isBetter 29 = .ok (.iload 4, 2) := by decide +kernel
theorem dX8_isBetter_31 : decode cX8_isBetter 31 = .ok (.aload_n 0, 1) := by decide +kernel
theorem dX8_isBetter_32 : decode cX8_isBetter 32 = .ok (.getfield 42, 3) := by decide +kernel
theorem dX8_isBetter_35 : decode cX8_isBetter 35 = .ok (.iload_n 3, 1) := by decide +kernel
theorem dX8_isBetter_36 : decode cX8_isBetter 36 = .ok (.iaload, 1) := by decide +kernel
theorem dX8_isBetter_37 : decode cX8_isBetter 37 = .ok (.isub, 1) := by decide +kernel
theorem dX8_isBetter_38 : decode cX8_isBetter 38 = .ok (.iconst 1, 1) := by decide +kernel
theorem dX8_isBetter_39 : decode cX8_isBetter 39 = .ok (.iadd, 1) := by decide +kernel
theorem dX8_isBetter_40 : decode cX8_isBetter 40 = .ok (.imul, 1) := by decide +kernel
theorem dX8_isBetter_41 : decode cX8_isBetter 41 = .ok (.if_icmp .le 7, 3) := by decide +kernel
theorem dX8_isBetter_44 : decode cX8_isBetter 44 = .ok (.iconst 1, 1) := by decide +kernel
theorem dX8_isBetter_45 : decode cX8_isBetter 45 = .ok (.goto 4, 3) := by decide +kernel
theorem dX8_isBetter_48 : decode cX8_isBetter 48 = .ok (.iconst 0, 1) := by decide +kernel
theorem dX8_isBetter_49 : decode cX8_isBetter 49 = .ok (.ireturn, 1) := by decide +kernel
theorem dX8_isBetter_50 : decode cX8_isBetter 50 = .ok (.aload_n 0, 1) := by decide +kernel
theorem dX8_isBetter_51 : decode cX8_isBetter 51 = .ok (.getfield 39, 3) := by decide +kernel
theorem dX8_isBetter_54 : decode cX8_isBetter 54 = .ok (.iload_n 2, 1) := by decide +kernel
theorem dX8_isBetter_55 : decode cX8_isBetter 55 = .ok (.iaload, 1) := by decide +kernel
theorem dX8_isBetter_56 : decode cX8_isBetter 56 = .ok (.iconst 1, 1) := by decide +kernel
theorem dX8_isBetter_57 : decode cX8_isBetter 57 = .ok (.iadd, 1) := by decide +kernel
theorem dX8_isBetter_58 : decode cX8_isBetter 58 = .ok (.aload_n 0, 1) := by decide +kernel
theorem dX8_isBetter_59 : decode cX8_isBetter 59 = .ok (.iload_n 2, 1) := by decide +kernel
theorem dX8_isBetter_60 : decode cX8_isBetter 60 = .ok (.invokevirtual 170, 3) := by decide +kernel
theorem dX8_isBetter_63 : decode cX8_isBetter 63 = .ok (.imul, 1) := by decide +kernel
theorem dX8_isBetter_64 : decode cX8_isBetter 64 = .ok (.istore 5, 2) := by decide +kernel
theorem dX8_isBetter_66 : decode cX8_isBetter 66 = .ok (.aload_n 0, 1) := by decide +kernel
theorem dX8_isBetter_67 : decode cX8_isBetter 67 = .ok (.getfield 39, 3) := by decide +kernel
theorem dX8_isBetter_70 : decode cX8_isBetter 70 = .ok (.iload_n 3, 1) := by decide +kernel
theorem dX8_isBetter_71 : decode cX8_isBetter 71 = .ok (.iaload, 1) := by decide +kernel
theorem dX8_isBetter_72 : decode cX8_isBetter 72 = .ok (.iconst 1, 1) := by decide +kernel
theorem dX8_isBetter_73 : decode cX8_isBetter 73 = .ok (.iadd, 1) := by decide +kernel
theorem dX8_isBetter_74 : decode cX8_isBetter 74 = .ok (.aload_n 0, 1) := by decide +kernel
theorem dX8_isBetter_75 : decode cX8_isBetter 75 = .ok (.iload_n 3, 1) := by decide +kernel
theorem dX8_isBetter_76 : decode cX8_isBetter 76 = .ok (.invokevirtual 170, 3) := by decide +kernel
theorem dX8_isBetter_79 : decode cX8_isBetter 79 = .ok (.imul, 1) := by decide +kernel
theorem dX8_isBetter_80 : decode cX8_isBetter 80 = .ok (.istore 6, 2) := by decide +kernel
theorem dX8_isBetter_82 : decode cX8_isBetter 82 = .ok (.iload_n 1, 1) := by decide +kernel
theorem dX8_isBetter_83 : decode cX8_isBetter 83 = .ok (.iconst 2, 1) := by decide +kernel
theorem dX8_isBetter_84 : decode cX8_isBetter 84 = .ok (.if_icmp .ne 32, 3) := by decide +kernel
theorem dX8_isBetter_87 : decode cX8_isBetter 87 = .ok (.iload 5, 2) := by decide +kernel
theorem dX8_isBetter_89 : decode cX8_isBetter 89 = .ok (.aload_n 0, 1) := by decide +kernel
theorem dX8_isBetter_90 : decode cX8_isBetter 90 = .ok (.iload_n 3, 1) := by decide +kernel
theorem dX8_isBetter_91 : decode cX8_isBetter 91 = .ok (.iconst 4, 1) := by decide +kernel
theorem dX8_isBetter_92 : decode cX8_isBetter 92 = .ok (.invokevirtual 82, 3) := by decide +kernel
theorem dX8_isBetter_95 : decode cX8_isBetter 95 = .ok (.imul, 1) := by decide +kernel
theorem dX8_isBetter_96 : decode cX8_isBetter 96 = .ok (.iload 6, 2) := by decide +kernel
theorem dX8_isBetter_98 : decode cX8_isBetter 98 = .ok (.aload_n 0, 1) := by decide +kernel
theorem dX8_isBetter_99 : decode cX8_isBetter 99 = .ok (.iload_n 2, 1) := by decide +kernel
theorem dX8_isBetter_100 : decode cX8_isBetter 100 = .ok (.iconst 4, 1) := by decide +kernel
theorem dX8_isBetter_101 : decode cX8_isBetter 101 = .ok (.invokevirtual 82, 3) := by decide +kernel
theorem dX8_isBetter_104 : decode cX8_isBetter 104 = .ok (.imul, 1) := by decide +kernel
theorem dX8_isBetter_105 : decode cX8_isBetter 105 = .ok (.if_icmp .ge 7, 3) := by decide +kernel
theorem dX8_isBetter_108 : decode cX8_isBetter 108 = .ok (.iconst 1, 1) := by decide +kernel
theorem dX8_isBetter_109 : decode cX8_isBetter 109 = .ok (.goto 19, 3) := by decide +kernel
theorem dX8_isBetter_112 : decode cX8_isBetter 112 = .ok (.iconst 0, 1) := by decide +kernel
theorem dX8_isBetter_113 : decode cX8_isBetter 113 = .ok (.goto 15, 3) := by decide +kernel
theorem dX8_isBetter_116 : decode cX8_isBetter 116 = .ok (.iload 5, 2) := by decide +kernel
theorem dX8_isBetter_118 : decode cX8_isBetter 118 = .ok (.iload 6, 2) := by decide +kernel
theorem dX8_isBetter_120 : decode cX8_isBetter 120 = .ok (.if_icmp .ge 7, 3) := by decide +kernel
theorem dX8_isBetter_123 : decode cX8_isBetter 123 = .ok (.iconst 1, 1) := by decide +kernel
theorem dX8_isBetter_124 : decode cX8_isBetter 124 = .ok (.goto 4, 3) := by decide +kernel
theorem dX8_isBetter_127 : decode cX8_isBetter 127 = .ok (.iconst 0, 1) := by decide +kernel
theorem dX8_isBetter_128 : decode cX8_isBetter 128 = .ok (.ireturn, 1) := by decide +kernel
set_option maxRecDepth 20000 in
theorem ggX8_sends_X8_isBetter : GoodIn wsX8_sends wsX8_isBetter := goodIn_r _ [10, 2, 1, 11, 12, 13, 9, 14, 4, 15, 16, 17, 18, 19, 20, 21, 22, 23, 24, 25, 26, 27, 28, 29, 34, 35, 36, 37, 38, 39, 40, 41, 42, 43, 44, 45, 46, 47, 48, 49, 50] (by decide +kernel) (by decide +kernel)
set_option maxRecDepth 20000 in
theorem gX8_sends_X8_isBetter : GoodIn wsX8_sends (wsV RX8 200 RX8 yX8_isBetter wsX8_isBetter) := goodIn_app (goodIn_of _ (by decide +kernel)) ggX8_sends_X8_isBetter
set_option maxRecDepth 20000 in
theorem ggX8_sends_X8_lengthOf : GoodIn wsX8_sends wsX8_lengthOf := goodIn_r _ [21, 22, 23, 24, 9, 25, 11, 12, 13, 14, 4, 15, 16, 17, 26, 27, 28, 29, 34, 35, 36, 37, 38, 39, 40, 41, 42, 43, 44, 45, 46, 47, 48, 49, 50] (by decide +kernel) (by decide +kernel)
set_option maxRecDepth 20000 in
theorem gX8_sends_X8_lengthOf : GoodIn wsX8_sends (wsV RX8 170 RX8 yX8_lengthOf wsX8_lengthOf) := goodIn_app (goodIn_of _ (by decide +kernel)) ggX8_sends_X8_lengthOf
set_option maxRecDepth 20000 in
theorem ggX8_sends_X8_waited : GoodIn wsX8_sends wsX8_waited := goodIn_r _ [33, 3, 2, 34, 35, 36, 37, 38, 39, 40, 41, 42, 43, 44, 45, 46, 47, 48, 49, 50] (by decide +kernel) (by decide +kernel)
set_option maxRecDepth 20000 in
theorem gX8_sends_X8_waited : GoodIn wsX8_sends (wsV RX8 204 RX8 yX8_waited wsX8_waited) := goodIn_app (goodIn_of _ (by decide +kernel)) ggX8_sends_X8_waited
theorem dX8_sends_0 : decode cX8_sends 0 = .ok (.iconst 0, 1) := by decide +kernel
theorem dX8_sends_1 : decode cX8_sends 1 = .ok (.istore_n 3, 1) := by decide +kernel
theorem dX8_sends_2 : decode cX8_sends 2 = .ok (.iload_n 3, 1) := by decide +kernel
theorem dX8_sends_3 : decode cX8_sends 3 = .ok (.bipush 10, 2) := by decide +kernel
theorem dX8_sends_5 : decode cX8_sends 5 = .ok (.if_icmp .ge 30, 3) := by decide +kernel
theorem dX8_sends_8 : decode cX8_sends 8 = .ok (.aload_n 0, 1) := by decide +kernel
theorem dX8_sends_9 : decode cX8_sends 9 = .ok (.getfield 39, 3) := by decide +kernel
theorem dX8_sends_12 : decode cX8_sends 12 = .ok (.iload_n 3, 1) := by decide +kernel
theorem dX8_sends_13 : decode cX8_sends 13 = .ok (.iconst 0, 1) := by decide +kernel
theorem dX8_sends_14 : decode cX8_sends 14 = .ok (.iastore, 1) := by decide +kernel
theorem dX8_sends_15 : decode cX8_sends 15 = .ok (.aload_n 0, 1) := by decide +kernel
theorem dX8_sends_16 : decode cX8_sends 16 = .ok (.getfield 42, 3) := by decide +kernel
theorem dX8_sends_19 : decode cX8_sends 19 = .ok (.iload_n 3, 1) := by decide +kernel
theorem dX8_sends_20 : decode cX8_sends 20 = .ok (.iconst 0, 1) := by decide +kernel
theorem dX8_sends_21 : decode cX8_sends 21 = .ok (.iastore, 1) := by decide +kernel
theorem dX8_sends_22 : decode cX8_sends 22 = .ok (.aload_n 0, 1) := by decide +kernel
theorem dX8_sends_23 : decode cX8_sends 23 = .ok (.getfield 45, 3) := by decide +kernel
theorem dX8_sends_26 : decode cX8_sends 26 = .ok (.iload_n 3, 1) := by decide +kernel
theorem dX8_sends_27 : decode cX8_sends 27 = .ok (.iconst 0, 1) := by decide +kernel
theorem dX8_sends_28 : decode cX8_sends 28 = .ok (.iastore, 1) := by decide +kernel
theorem dX8_sends_29 : decode cX8_sends 29 = .ok (.iinc 3 1, 3) := by decide +kernel
theorem dX8_sends_32 : decode cX8_sends 32 = .ok (.goto (-30), 3) := by decide +kernel
theorem dX8_sends_35 : decode cX8_sends 35 = .ok (.iconst 0, 1) := by decide +kernel
theorem dX8_sends_36 : decode cX8_sends 36 = .ok (.istore_n 3, 1) := by decide +kernel
theorem dX8_sends_37 : decode cX8_sends 37 = .ok (.iconst 0, 1) := by decide +kernel
theorem dX8_sends_38 : decode cX8_sends 38 = .ok (.istore 4, 2) := by decide +kernel
theorem dX8_sends_40 : decode cX8_sends 40 = .ok (.iload 4, 2) := by decide +kernel
theorem dX8_sends_42 : decode cX8_sends 42 = .ok (.iload_n 2, 1) := by decide +kernel
theorem dX8_sends_43 : decode cX8_sends 43 = .ok (.if_icmp .ge 118, 3) := by decide +kernel
theorem dX8_sends_46 : decode cX8_sends 46 = .ok (.iload_n 1, 1) := by decide +kernel
theorem dX8_sends_47 : decode cX8_sends 47 = .ok (.ifCond .ne 15, 3) := by decide +kernel
theorem dX8_sends_50 : decode cX8_sends 50 = .ok (.iload 4, 2) := by decide +kernel
theorem dX8_sends_52 : decode cX8_sends 52 = .ok (.aload_n 0, 1) := by decide +kernel
theorem dX8_sends_53 : decode cX8_sends 53 = .ok (.getfield 7, 3) := by decide +kernel
theorem dX8_sends_56 : decode cX8_sends 56 = .ok (.iconst 0, 1) := by decide +kernel
theorem dX8_sends_57 : decode cX8_sends 57 = .ok (.iaload, 1) := by decide +kernel
theorem dX8_sends_58 : decode cX8_sends 58 = .ok (.irem, 1) := by decide +kernel
theorem dX8_sends_59 : decode cX8_sends 59 = .ok (.goto 4, 3) := by decide +kernel
theorem dX8_sends_62 : decode cX8_sends 62 = .ok (.iconst 0, 1) := by decide +kernel
theorem dX8_sends_63 : decode cX8_sends 63 = .ok (.istore 5, 2) := by decide +kernel
theorem dX8_sends_65 : decode cX8_sends 65 = .ok (.iconst 1, 1) := by decide +kernel
theorem dX8_sends_66 : decode cX8_sends 66 = .ok (.istore 6, 2) := by decide +kernel
theorem dX8_sends_68 : decode cX8_sends 68 = .ok (.iload 6, 2) := by decide +kernel
theorem dX8_sends_70 : decode cX8_sends 70 = .ok (.aload_n 0, 1) := by decide +kernel
theorem dX8_sends_71 : decode cX8_sends 71 = .ok (.getfield 7, 3) := by decide +kernel
theorem dX8_sends_74 : decode cX8_sends 74 = .ok (.iconst 0, 1) := by decide +kernel
theorem dX8_sends_75 : decode cX8_sends 75 = .ok (.iaload, 1) := by decide +kernel
theorem dX8_sends_76 : decode cX8_sends 76 = .ok (.if_icmp .ge 35, 3) := by decide +kernel
theorem dX8_sends_79 : decode cX8_sends 79 = .ok (.iload_n 1, 1) := by decide +kernel
theorem dX8_sends_80 : decode cX8_sends 80 = .ok (.ifCond .le 31, 3) := by decide +kernel
theorem dX8_sends_83 : decode cX8_sends 83 = .ok (.aload_n 0, 1) := by decide +kernel
theorem dX8_sends_84 : decode cX8_sends 84 = .ok (.iload_n 1, 1) := by decide +kernel
theorem dX8_sends_85 : decode cX8_sends 85 = .ok (.iload 6, 2) := by decide +kernel
theorem dX8_sends_87 : decode cX8_sends 87 = .ok (.iload 5, 2) := by decide +kernel
theorem dX8_sends_89 : decode cX8_sends 89 = .ok (.iload_n 3, 1) := by decide +kernel
theorem dX8_sends_90 : decode cX8_sends 90 = .ok (.invokevirtual 200, 3) := by decide +kernel
theorem dX8_sends_93 : decode cX8_sends 93 = .ok (.ifCond .eq 8, 3) := by decide +kernel
theorem dX8_sends_96 : decode cX8_sends 96 = .ok (.iload 6, 2) := by decide +kernel
theorem dX8_sends_98 : decode cX8_sends 98 = .ok (.goto 5, 3) := by decide +kernel
theorem dX8_sends_101 : decode cX8_sends 101 = .ok (.iload 5, 2) := by decide +kernel
theorem dX8_sends_103 : decode cX8_sends 103 = .ok (.istore 5, 2) := by decide +kernel
theorem dX8_sends_105 : decode cX8_sends 105 = .ok (.iinc 6 1, 3) := by decide +kernel
theorem dX8_sends_108 : decode cX8_sends 108 = .ok (.goto (-40), 3) := by decide +kernel
theorem dX8_sends_111 : decode cX8_sends 111 = .ok (.aload_n 0, 1) := by decide +kernel
theorem dX8_sends_112 : decode cX8_sends 112 = .ok (.getfield 36, 3) := by decide +kernel
theorem dX8_sends_115 : decode cX8_sends 115 = .ok (.iload 4, 2) := by decide +kernel
theorem dX8_sends_117 : decode cX8_sends 117 = .ok (.iload 5, 2) := by decide +kernel
theorem dX8_sends_119 : decode cX8_sends 119 = .ok (.iastore, 1) := by decide +kernel
theorem dX8_sends_120 : decode cX8_sends 120 = .ok (.iload_n 3, 1) := by decide +kernel
theorem dX8_sends_121 : decode cX8_sends 121 = .ok (.aload_n 0, 1) := by decide +kernel
theorem dX8_sends_122 : decode cX8_sends 122 = .ok (.iload 5, 2) := by decide +kernel
theorem dX8_sends_124 : decode cX8_sends 124 = .ok (.invokevirtual 170, 3) := by decide +kernel
theorem dX8_sends_127 : decode cX8_sends 127 = .ok (.iadd, 1) := by decide +kernel
theorem dX8_sends_128 : decode cX8_sends 128 = .ok (.istore_n 3, 1) := by decide +kernel
theorem dX8_sends_129 : decode cX8_sends 129 = .ok (.aload_n 0, 1) := by decide +kernel
theorem dX8_sends_130 : decode cX8_sends 130 = .ok (.iload 5, 2) := by decide +kernel
theorem dX8_sends_132 : decode cX8_sends 132 = .ok (.iload_n 3, 1) := by decide +kernel
theorem dX8_sends_133 : decode cX8_sends 133 = .ok (.invokevirtual 204, 3) := by decide +kernel
theorem dX8_sends_136 : decode cX8_sends 136 = .ok (.aload_n 0, 1) := by decide +kernel
theorem dX8_sends_137 : decode cX8_sends 137 = .ok (.getfield 42, 3) := by decide +kernel
theorem dX8_sends_140 : decode cX8_sends 140 = .ok (.iload 5, 2) := by decide +kernel
theorem dX8_sends_142 : decode cX8_sends 142 = .ok (.iload_n 3, 1) := by decide +kernel
theorem dX8_sends_143 : decode cX8_sends 143 = .ok (.iastore, 1) := by decide +kernel
theorem dX8_sends_144 : decode cX8_sends 144 = .ok (.aload_n 0, 1) := by decide +kernel
theorem dX8_sends_145 : decode cX8_sends 145 = .ok (.getfield 39, 3) := by decide +kernel
theorem dX8_sends_148 : decode cX8_sends 148 = .ok (.iload 5, 2) := by decide +kernel
theorem dX8_sends_150 : decode cX8_sends 150 = .ok (.dup2, 1) := by decide +kernel
theorem dX8_sends_151 : decode cX8_sends 151 = .ok (.iaload, 1) := by decide +kernel
theorem dX8_sends_152 : decode cX8_sends 152 = .ok (.iconst 1, 1) := by decide +kernel
theorem dX8_sends_153 : decode cX8_sends 153 = .ok (.iadd, 1) := by decide +kernel
theorem dX8_sends_154 : decode cX8_sends 154 = .ok (.iastore, 1) := by decide +kernel
theorem dX8_sends_155 : decode cX8_sends 155 = .ok (.iinc 4 1, 3) := by decide +kernel
theorem dX8_sends_158 : decode cX8_sends 158 = .ok (.goto (-118), 3) := by decide +kernel
theorem dX8_sends_161 : decode cX8_sends 161 = .ok (.iconst 0, 1) := by decide +kernel
theorem dX8_sends_162 : decode cX8_sends 162 = .ok (.istore 4, 2) := by decide +kernel
theorem dX8_sends_164 : decode cX8_sends 164 = .ok (.iload 4, 2) := by decide +kernel
theorem dX8_sends_166 : decode cX8_sends 166 = .ok (.aload_n 0, 1) := by decide +kernel
theorem dX8_sends_167 : decode cX8_sends 167 = .ok (.getfield 7, 3) := by decide +kernel
theorem dX8_sends_170 : decode cX8_sends 170 = .ok (.iconst 0, 1) := by decide +kernel
theorem dX8_sends_171 : decode cX8_sends 171 = .ok (.iaload, 1) := by decide +kernel
theorem dX8_sends_172 : decode cX8_sends 172 = .ok (.if_icmp .ge 16, 3) := by decide +kernel
theorem dX8_sends_175 : decode cX8_sends 175 = .ok (.aload_n 0, 1) := by decide +kernel
theorem dX8_sends_176 : decode cX8_sends 176 = .ok (.iload 4, 2) := by decide +kernel
theorem dX8_sends_178 : decode cX8_sends 178 = .ok (.iload_n 3, 1) := by decide +kernel
theorem dX8_sends_179 : decode cX8_sends 179 = .ok (.invokevirtual 204, 3) := by decide +kernel
theorem dX8_sends_182 : decode cX8_sends 182 = .ok (.iinc 4 1, 3) := by decide +kernel
theorem dX8_sends_185 : decode cX8_sends 185 = .ok (.goto (-21), 3) := by decide +kernel
theorem dX8_sends_188 : decode cX8_sends 188 = .ok (.return_, 1) := by decide +kernel
theorem dX8_waited_0 : decode cX8_waited 0 = .ok (.aload_n 0, 1) := by decide +kernel
theorem dX8_waited_1 : decode cX8_waited 1 = .ok (.getfield 45, 3) := by decide +kernel
theorem dX8_waited_4 : decode cX8_waited 4 = .ok (.iload_n 1, 1) := by decide +kernel
theorem dX8_waited_5 : decode cX8_waited 5 = .ok (.iload_n 2, 1) := by decide +kernel
theorem dX8_waited_6 : decode cX8_waited 6 = .ok (.aload_n 0, 1) := by decide +kernel
theorem dX8_waited_7 : decode cX8_waited 7 = .ok (.getfield 42, 3) := by decide +kernel
theorem dX8_waited_10 : decode cX8_waited 10 = .ok (.iload_n 1, 1) := by decide +kernel
theorem dX8_waited_11 : decode cX8_waited 11 = .ok (.iaload, 1) := by decide +kernel
theorem dX8_waited_12 : decode cX8_waited 12 = .ok (.isub, 1) := by decide +kernel
theorem dX8_waited_13 : decode cX8_waited 13 = .ok (.aload_n 0, 1) := by decide +kernel
theorem dX8_waited_14 : decode cX8_waited 14 = .ok (.getfield 45, 3) := by decide +kernel
theorem dX8_waited_17 : decode cX8_waited 17 = .ok (.iload_n 1, 1) := by decide +kernel
theorem dX8_waited_18 : decode cX8_waited 18 = .ok (.iaload, 1) := by decide +kernel
theorem dX8_waited_19 : decode cX8_waited 19 = .ok (.if_icmp .le 14, 3) := by decide +kernel
theorem dX8_waited_22 : decode cX8_waited 22 = .ok (.iload_n 2, 1) := by decide +kernel
theorem dX8_waited_23 : decode cX8_waited 23 = .ok (.aload_n 0, 1) := by decide +kernel
theorem dX8_waited_24 : decode cX8_waited 24 = .ok (.getfield 42, 3) := by decide +kernel
theorem dX8_waited_27 : decode cX8_waited 27 = .ok (.iload_n 1, 1) := by decide +kernel
theorem dX8_waited_28 : decode cX8_waited 28 = .ok (.iaload, 1) := by decide +kernel
theorem dX8_waited_29 : decode cX8_waited 29 = .ok (.isub, 1) := by decide +kernel
theorem dX8_waited_30 : decode cX8_waited 30 = .ok (.goto 9, 3) := by decide +kernel
theorem dX8_waited_33 : decode cX8_waited 33 = .ok (.aload_n 0, 1) := by decide +kernel
theorem dX8_waited_34 : decode cX8_waited 34 = .ok (.getfield 45, 3) := by decide +kernel
theorem dX8_waited_37 : decode cX8_waited 37 = .ok (.iload_n 1, 1) := by decide +kernel
theorem dX8_waited_38 : decode cX8_waited 38 = .ok (.iaload, 1) := by decide +kernel
theorem dX8_waited_39 : decode cX8_waited 39 = .ok (.iastore, 1) := by decide +kernel
theorem dX8_waited_40 : decode cX8_waited 40 = .ok (.return_, 1) := by decide +kernel
set_option maxRecDepth 20000 in
theorem ggX8_sent_X8_in : GoodIn wsX8_sent wsX8_in := goodIn_r _ [10] (by decide +kernel) (by decide +kernel)
set_option maxRecDepth 20000 in
theorem gX8_sent_X8_in : GoodIn wsX8_sent (va_wsS RX8 70 yX8_in wsX8_in) := goodIn_app (goodIn_of _ (by decide +kernel)) ggX8_sent_X8_in
set_option maxRecDepth 20000 in
theorem ggX8_sent_X8_sends : GoodIn wsX8_sent wsX8_sends := goodIn_r _ [14, 15, 16, 17, 5, 6, 18, 19, 20, 9, 21, 22, 23, 24, 25, 26, 27, 28, 29, 30, 31, 32, 33, 34, 35, 36, 37, 38, 39, 40, 41, 42, 43, 44, 45, 46, 47, 48, 49, 50, 51, 52, 53, 54, 55, 56, 57, 58, 59, 60, 61] (by decide +kernel) (by decide +kernel)
set_option maxRecDepth 20000 in
theorem gX8_sent_X8_sends : GoodIn wsX8_sent (wsV RX8 209 RX8 yX8_sends wsX8_sends) := goodIn_app (goodIn_of _ (by decide +kernel)) ggX8_sent_X8_sends
theorem dX8_sent_0 : decode cX8_sent 0 = .ok (.aload_n 0, 1) := by decide +kernel
theorem dX8_sent_1 : decode cX8_sent 1 = .ok (.iconst 0, 1) := by decide +kernel
theorem dX8_sent_2 : decode cX8_sent 2 = .ok (.putfield 48, 3) := by decide +kernel
theorem dX8_sent_5 : decode cX8_sent 5 = .ok (.iload_n 1, 1) := by decide +kernel
theorem dX8_sent_6 : decode cX8_sent 6 = .ok (.i2l, 1) := by decide +kernel
theorem dX8_sent_7 : decode cX8_sent 7 = .ok (.lconst 0, 1) := by decide +kernel
theorem dX8_sent_8 : decode cX8_sent 8 = .ok (.ldc2_w 115, 3) := by decide +kernel
theorem dX8_sent_11 : decode cX8_sent 11 = .ok (.invokestatic 70, 3) := by decide +kernel
theorem dX8_sent_14 : decode cX8_sent 14 = .ok (.ifCond .eq 15, 3) := by decide +kernel
theorem dX8_sent_17 : decode cX8_sent 17 = .ok (.iload_n 2, 1) := by decide +kernel
theorem dX8_sent_18 : decode cX8_sent 18 = .ok (.i2l, 1) := by decide +kernel
theorem dX8_sent_19 : decode cX8_sent 19 = .ok (.lconst 0, 1) := by decide +kernel
theorem dX8_sent_20 : decode cX8_sent 20 = .ok (.ldc2_w 207, 3) := by decide +kernel
theorem dX8_sent_23 : decode cX8_sent 23 = .ok (.invokestatic 70, 3) := by decide +kernel
theorem dX8_sent_26 : decode cX8_sent 26 = .ok (.ifCond .ne 6, 3) := by decide +kernel
theorem dX8_sent_29 : decode cX8_sent 29 = .ok (.ldc 74, 2) := by decide +kernel
theorem dX8_sent_31 : decode cX8_sent 31 = .ok (.ireturn, 1) := by decide +kernel
theorem dX8_sent_32 : decode cX8_sent 32 = .ok (.aload_n 0, 1) := by decide +kernel
theorem dX8_sent_33 : decode cX8_sent 33 = .ok (.getfield 7, 3) := by decide +kernel
theorem dX8_sent_36 : decode cX8_sent 36 = .ok (.iconst 0, 1) := by decide +kernel
theorem dX8_sent_37 : decode cX8_sent 37 = .ok (.iaload, 1) := by decide +kernel
theorem dX8_sent_38 : decode cX8_sent 38 = .ok (.ifCond .ne 5, 3) := by decide +kernel
theorem dX8_sent_41 : decode cX8_sent 41 = .ok (.iconst (-1), 1) := by decide +kernel
theorem dX8_sent_42 : decode cX8_sent 42 = .ok (.ireturn, 1) := by decide +kernel
theorem dX8_sent_43 : decode cX8_sent 43 = .ok (.aload_n 0, 1) := by decide +kernel
theorem dX8_sent_44 : decode cX8_sent 44 = .ok (.iload_n 1, 1) := by decide +kernel
theorem dX8_sent_45 : decode cX8_sent 45 = .ok (.iload_n 2, 1) := by decide +kernel
theorem dX8_sent_46 : decode cX8_sent 46 = .ok (.iconst 1, 1) := by decide +kernel
theorem dX8_sent_47 : decode cX8_sent 47 = .ok (.iadd, 1) := by decide +kernel
theorem dX8_sent_48 : decode cX8_sent 48 = .ok (.invokevirtual 209, 3) := by decide +kernel
theorem dX8_sent_51 : decode cX8_sent 51 = .ok (.aload_n 0, 1) := by decide +kernel
theorem dX8_sent_52 : decode cX8_sent 52 = .ok (.getfield 36, 3) := by decide +kernel
theorem dX8_sent_55 : decode cX8_sent 55 = .ok (.iload_n 2, 1) := by decide +kernel
theorem dX8_sent_56 : decode cX8_sent 56 = .ok (.iaload, 1) := by decide +kernel
theorem dX8_sent_57 : decode cX8_sent 57 = .ok (.ireturn, 1) := by decide +kernel
set_option maxRecDepth 20000 in
theorem ggX8_waits_X8_isPage : GoodIn wsX8_waits wsX8_isPage := goodIn_r _ [11, 12, 13, 14, 10, 15, 50, 51, 52, 53, 54, 55, 56, 57, 58, 59, 60, 61, 62, 63, 64, 65, 66] (by decide +kernel) (by decide +kernel)
set_option maxRecDepth 20000 in
theorem gX8_waits_X8_isPage : GoodIn wsX8_waits (wsV RX8 165 RX8 yX8_isPage wsX8_isPage) := goodIn_app (goodIn_of _ (by decide +kernel)) ggX8_waits_X8_isPage
set_option maxRecDepth 20000 in
theorem ggX8_waits_X8_in : GoodIn wsX8_waits wsX8_in := goodIn_r _ [15] (by decide +kernel) (by decide +kernel)
set_option maxRecDepth 20000 in
theorem gX8_waits_X8_in : GoodIn wsX8_waits (va_wsS RX8 70 yX8_in wsX8_in) := goodIn_app (goodIn_of _ (by decide +kernel)) ggX8_waits_X8_in
set_option maxRecDepth 20000 in
theorem ggX8_waits_X8_sends : GoodIn wsX8_waits wsX8_sends := goodIn_r _ [19, 20, 21, 6, 12, 22, 23, 24, 25, 10, 26, 27, 28, 29, 30, 31, 32, 33, 34, 35, 36, 37, 38, 39, 40, 41, 42, 43, 44, 45, 46, 47, 48, 49, 50, 51, 52, 53, 54, 55, 56, 57, 58, 59, 60, 61, 62, 63, 64, 65, 66] (by decide +kernel) (by decide +kernel)
set_option maxRecDepth 20000 in
theorem gX8_waits_X8_sends : GoodIn wsX8_waits (wsV RX8 209 RX8 yX8_sends wsX8_sends) := goodIn_app (goodIn_of _ (by decide +kernel)) ggX8_waits_X8_sends
theorem dX8_waits_0 : decode cX8_waits 0 = .ok (.aload_n 0, 1) := by decide +kernel
theorem dX8_waits_1 : decode cX8_waits 1 = .ok (.iconst 0, 1) := by decide +kernel
theorem dX8_waits_2 : decode cX8_waits 2 = .ok (.putfield 48, 3) := by decide +kernel
theorem dX8_waits_5 : decode cX8_waits 5 = .ok (.aload_n 0, 1) := by decide +kernel
theorem dX8_waits_6 : decode cX8_waits 6 = .ok (.iload_n 1, 1) := by decide +kernel
theorem dX8_waits_7 : decode cX8_waits 7 = .ok (.invokevirtual 165, 3) := by decide +kernel
theorem dX8_waits_10 : decode cX8_waits 10 = .ok (.ifCond .ne 6, 3) := by decide +kernel
theorem dX8_waits_13 : decode cX8_waits 13 = .ok (.ldc 156, 2) := by decide +kernel
theorem dX8_waits_15 : decode cX8_waits 15 = .ok (.ireturn, 1) := by decide +kernel
theorem dX8_waits_16 : decode cX8_waits 16 = .ok (.iload_n 2, 1) := by decide +kernel
theorem dX8_waits_17 : decode cX8_waits 17 = .ok (.i2l, 1) := by decide +kernel
theorem dX8_waits_18 : decode cX8_waits 18 = .ok (.lconst 0, 1) := by decide +kernel
theorem dX8_waits_19 : decode cX8_waits 19 = .ok (.ldc2_w 115, 3) := by decide +kernel
theorem dX8_waits_22 : decode cX8_waits 22 = .ok (.invokestatic 70, 3) := by decide +kernel
theorem dX8_waits_25 : decode cX8_waits 25 = .ok (.ifCond .eq 15, 3) := by decide +kernel
theorem dX8_waits_28 : decode cX8_waits 28 = .ok (.iload_n 3, 1) := by decide +kernel
theorem dX8_waits_29 : decode cX8_waits 29 = .ok (.i2l, 1) := by decide +kernel
theorem dX8_waits_30 : decode cX8_waits 30 = .ok (.lconst 1, 1) := by decide +kernel
theorem dX8_waits_31 : decode cX8_waits 31 = .ok (.ldc2_w 212, 3) := by decide +kernel
theorem dX8_waits_34 : decode cX8_waits 34 = .ok (.invokestatic 70, 3) := by decide +kernel
theorem dX8_waits_37 : decode cX8_waits 37 = .ok (.ifCond .ne 6, 3) := by decide +kernel
theorem dX8_waits_40 : decode cX8_waits 40 = .ok (.ldc 74, 2) := by decide +kernel
theorem dX8_waits_42 : decode cX8_waits 42 = .ok (.ireturn, 1) := by decide +kernel
theorem dX8_waits_43 : decode cX8_waits 43 = .ok (.aload_n 0, 1) := by decide +kernel
theorem dX8_waits_44 : decode cX8_waits 44 = .ok (.iload_n 2, 1) := by decide +kernel
theorem dX8_waits_45 : decode cX8_waits 45 = .ok (.iload_n 3, 1) := by decide +kernel
theorem dX8_waits_46 : decode cX8_waits 46 = .ok (.invokevirtual 209, 3) := by decide +kernel
theorem dX8_waits_49 : decode cX8_waits 49 = .ok (.aload_n 0, 1) := by decide +kernel
theorem dX8_waits_50 : decode cX8_waits 50 = .ok (.getfield 45, 3) := by decide +kernel
theorem dX8_waits_53 : decode cX8_waits 53 = .ok (.iload_n 1, 1) := by decide +kernel
theorem dX8_waits_54 : decode cX8_waits 54 = .ok (.iaload, 1) := by decide +kernel
theorem dX8_waits_55 : decode cX8_waits 55 = .ok (.ireturn, 1) := by decide +kernel
set_option maxRecDepth 20000 in
theorem ggX8_worstBy_X8_sends : GoodIn wsX8_worstBy wsX8_sends := goodIn_r _ [7, 8, 9, 2, 1, 10, 11, 12, 13, 6, 14, 15, 16, 17, 18, 19, 20, 21, 22, 23, 24, 25, 26, 27, 28, 29, 30, 31, 32, 33, 34, 35, 36, 37, 38, 39, 40, 41, 42, 43, 44, 45, 46, 47, 48, 49, 50, 51, 52, 53, 54] (by decide +kernel) (by decide +kernel)
set_option maxRecDepth 20000 in
theorem gX8_worstBy_X8_sends : GoodIn wsX8_worstBy (wsV RX8 209 RX8 yX8_sends wsX8_sends) := goodIn_app (goodIn_of _ (by decide +kernel)) ggX8_worstBy_X8_sends
set_option maxRecDepth 20000 in
theorem ggX8_worstBy_X8_of : GoodIn wsX8_worstBy wsX8_of := goodIn_r _ [18, 1, 19, 20, 6, 21, 38, 39, 40, 41, 42, 43, 44, 45, 46, 47, 48, 49, 50, 51, 52, 53, 54] (by decide +kernel) (by decide +kernel)
set_option maxRecDepth 20000 in
theorem gX8_worstBy_X8_of : GoodIn wsX8_worstBy (wsV RX8 82 RX8 yX8_of wsX8_of) := goodIn_app (goodIn_of _ (by decide +kernel)) ggX8_worstBy_X8_of
theorem dX8_worstBy_0 : decode cX8_worstBy 0 = .ok (.aload_n 0, 1) := by decide +kernel
theorem dX8_worstBy_1 : decode cX8_worstBy 1 = .ok (.iload_n 1, 1) := by decide +kernel
theorem dX8_worstBy_2 : decode cX8_worstBy 2 = .ok (.iload_n 2, 1) := by decide +kernel
theorem dX8_worstBy_3 : decode cX8_worstBy 3 = .ok (.invokevirtual 209, 3) := by decide +kernel
theorem dX8_worstBy_6 : decode cX8_worstBy 6 = .ok (.iconst 0, 1) := by decide +kernel
theorem dX8_worstBy_7 : decode cX8_worstBy 7 = .ok (.istore_n 3, 1) := by decide +kernel
theorem dX8_worstBy_8 : decode cX8_worstBy 8 = .ok (.iconst 0, 1) := by decide +kernel
theorem dX8_worstBy_9 : decode cX8_worstBy 9 = .ok (.istore 4, 2) := by decide +kernel
theorem dX8_worstBy_11 : decode cX8_worstBy 11 = .ok (.iload 4, 2) := by decide +kernel
theorem dX8_worstBy_13 : decode cX8_worstBy 13 = .ok (.aload_n 0, 1) := by decide +kernel
theorem dX8_worstBy_14 : decode cX8_worstBy 14 = .ok (.getfield 7, 3) := by decide +kernel
theorem dX8_worstBy_17 : decode cX8_worstBy 17 = .ok (.iconst 0, 1) := by decide +kernel
theorem dX8_worstBy_18 : decode cX8_worstBy 18 = .ok (.iaload, 1) := by decide +kernel
theorem dX8_worstBy_19 : decode cX8_worstBy 19 = .ok (.if_icmp .ge 39, 3) := by decide +kernel
theorem dX8_worstBy_22 : decode cX8_worstBy 22 = .ok (.aload_n 0, 1) := by decide +kernel
theorem dX8_worstBy_23 : decode cX8_worstBy 23 = .ok (.iload 4, 2) := by decide +kernel
theorem dX8_worstBy_25 : decode cX8_worstBy 25 = .ok (.iconst 4, 1) := by decide +kernel
theorem dX8_worstBy_26 : decode cX8_worstBy 26 = .ok (.invokevirtual 82, 3) := by decide +kernel
theorem dX8_worstBy_29 : decode cX8_worstBy 29 = .ok (.aload_n 0, 1) := by decide +kernel
theorem dX8_worstBy_30 : decode cX8_worstBy 30 = .ok (.getfield 45, 3) := by decide +kernel
theorem dX8_worstBy_33 : decode cX8_worstBy 33 = .ok (.iload 4, 2) := by decide +kernel
theorem dX8_worstBy_35 : decode cX8_worstBy 35 = .ok (.iaload, 1) := by decide +kernel
theorem dX8_worstBy_36 : decode cX8_worstBy 36 = .ok (.imul, 1) := by decide +kernel
theorem dX8_worstBy_37 : decode cX8_worstBy 37 = .ok (.istore 5, 2) := by decide +kernel
theorem dX8_worstBy_39 : decode cX8_worstBy 39 = .ok (.iload 5, 2) := by decide +kernel
theorem dX8_worstBy_41 : decode cX8_worstBy 41 = .ok (.iload_n 3, 1) := by decide +kernel
theorem dX8_worstBy_42 : decode cX8_worstBy 42 = .ok (.if_icmp .le 8, 3) := by decide +kernel
theorem dX8_worstBy_45 : decode cX8_worstBy 45 = .ok (.iload 5, 2) := by decide +kernel
theorem dX8_worstBy_47 : decode cX8_worstBy 47 = .ok (.goto 4, 3) := by decide +kernel
theorem dX8_worstBy_50 : decode cX8_worstBy 50 = .ok (.iload_n 3, 1) := by decide +kernel
theorem dX8_worstBy_51 : decode cX8_worstBy 51 = .ok (.istore_n 3, 1) := by decide +kernel
theorem dX8_worstBy_52 : decode cX8_worstBy 52 = .ok (.iinc 4 1, 3) := by decide +kernel
theorem dX8_worstBy_55 : decode cX8_worstBy 55 = .ok (.goto (-44), 3) := by decide +kernel
theorem dX8_worstBy_58 : decode cX8_worstBy 58 = .ok (.iload_n 3, 1) := by decide +kernel
theorem dX8_worstBy_59 : decode cX8_worstBy 59 = .ok (.ireturn, 1) := by decide +kernel
set_option maxRecDepth 20000 in
theorem ggX8_bestRule_X8_in : GoodIn wsX8_bestRule wsX8_in := goodIn_r _ [8] (by decide +kernel) (by decide +kernel)
set_option maxRecDepth 20000 in
theorem gX8_bestRule_X8_in : GoodIn wsX8_bestRule (va_wsS RX8 70 yX8_in wsX8_in) := goodIn_app (goodIn_of _ (by decide +kernel)) ggX8_bestRule_X8_in
set_option maxRecDepth 20000 in
theorem ggX8_bestRule_X8_worstBy : GoodIn wsX8_bestRule wsX8_worstBy := goodIn_r _ [12, 4, 13, 14, 15, 16, 7, 17, 18, 19, 20, 21, 22, 23, 24, 25, 26, 27, 28, 29, 30, 31, 32, 33, 34, 35, 36, 37, 38, 39, 40, 41, 42, 43, 44, 45, 46, 47, 48, 49, 50, 51, 52, 53, 54, 55, 56, 57, 58, 59, 60, 61, 62, 63, 64] (by decide +kernel) (by decide +kernel)
set_option maxRecDepth 20000 in
theorem gX8_bestRule_X8_worstBy : GoodIn wsX8_bestRule (wsV RX8 214 RX8 yX8_worstBy wsX8_worstBy) := goodIn_app (goodIn_of _ (by decide +kernel)) ggX8_bestRule_X8_worstBy
theorem dX8_bestRule_0 : decode cX8_bestRule 0 = .ok (.aload_n 0, 1) := by decide +kernel
theorem dX8_bestRule_1 : decode cX8_bestRule 1 = .ok (.iconst 0, 1) := by decide +kernel
theorem dX8_bestRule_2 : decode cX8_bestRule 2 = .ok (.putfield 48, 3) := by decide +kernel
theorem dX8_bestRule_5 : decode cX8_bestRule 5 = .ok (.iload_n 1, 1) := by decide +kernel
theorem dX8_bestRule_6 : decode cX8_bestRule 6 = .ok (.i2l, 1) := by decide +kernel
theorem dX8_bestRule_7 : decode cX8_bestRule 7 = .ok (.lconst 1, 1) := by decide +kernel
theorem dX8_bestRule_8 : decode cX8_bestRule 8 = .ok (.ldc2_w 212, 3) := by decide +kernel
theorem dX8_bestRule_11 : decode cX8_bestRule 11 = .ok (.invokestatic 70, 3) := by decide +kernel
theorem dX8_bestRule_14 : decode cX8_bestRule 14 = .ok (.ifCond .ne 6, 3) := by decide +kernel
theorem dX8_bestRule_17 : decode cX8_bestRule 17 = .ok (.ldc 74, 2) := by decide +kernel
theorem dX8_bestRule_19 : decode cX8_bestRule 19 = .ok (.ireturn, 1) := by decide +kernel
theorem dX8_bestRule_20 : decode cX8_bestRule 20 = .ok (.aload_n 0, 1) := by decide +kernel
theorem dX8_bestRule_21 : decode cX8_bestRule 21 = .ok (.getfield 7, 3) := by decide +kernel
theorem dX8_bestRule_24 : decode cX8_bestRule 24 = .ok (.iconst 0, 1) := by decide +kernel
theorem dX8_bestRule_25 : decode cX8_bestRule 25 = .ok (.iaload, 1) := by decide +kernel
theorem dX8_bestRule_26 : decode cX8_bestRule 26 = .ok (.ifCond .ne 5, 3) := by decide +kernel
theorem dX8_bestRule_29 : decode cX8_bestRule 29 = .ok (.iconst (-1), 1) := by decide +kernel
theorem dX8_bestRule_30 : decode cX8_bestRule 30 = .ok (.ireturn, 1) := by decide +kernel
theorem dX8_bestRule_31 : decode cX8_bestRule 31 = .ok (.iconst 3, 1) := by decide +kernel
theorem dX8_bestRule_32 : decode cX8_bestRule 32 = .ok (.istore_n 2, 1) := by decide +kernel
theorem dX8_bestRule_33 : decode cX8_bestRule 33 = .ok (.iconst 2, 1) := by decide +kernel
theorem dX8_bestRule_34 : decode cX8_bestRule 34 = .ok (.istore_n 3, 1) := by decide +kernel
theorem dX8_bestRule_35 : decode cX8_bestRule 35 = .ok (.iload_n 3, 1) := by decide +kernel
theorem dX8_bestRule_36 : decode cX8_bestRule 36 = .ok (.ifCond .lt 30, 3) := by decide +kernel
theorem dX8_bestRule_39 : decode cX8_bestRule 39 = .ok (.aload_n 0, 1) := by decide +kernel
theorem dX8_bestRule_40 : decode cX8_bestRule 40 = .ok (.iload_n 3, 1) := by decide +kernel
theorem dX8_bestRule_41 : decode cX8_bestRule 41 = .ok (.iload_n 1, 1) := by decide +kernel
theorem dX8_bestRule_42 : decode cX8_bestRule 42 = .ok (.invokevirtual 214, 3) := by decide +kernel
theorem dX8_bestRule_45 : decode cX8_bestRule 45 = .ok (.aload_n 0, 1) := by decide +kernel
theorem dX8_bestRule_46 : decode cX8_bestRule 46 = .ok (.iload_n 2, 1) := by decide +kernel
theorem dX8_bestRule_47 : decode cX8_bestRule 47 = .ok (.iload_n 1, 1) := by decide +kernel
theorem dX8_bestRule_48 : decode cX8_bestRule 48 = .ok (.invokevirtual 214, 3) := by decide +kernel
theorem dX8_bestRule_51 : decode cX8_bestRule 51 = .ok (.if_icmp .gt 7, 3) := by decide +kernel
theorem dX8_bestRule_54 : decode cX8_bestRule 54 = .ok (.iload_n 3, 1) := by decide +kernel
theorem dX8_bestRule_55 : decode cX8_bestRule 55 = .ok (.goto 4, 3) := by decide +kernel
theorem dX8_bestRule_58 : decode cX8_bestRule 58 = .ok (.iload_n 2, 1) := by decide +kernel
theorem dX8_bestRule_59 : decode cX8_bestRule 59 = .ok (.istore_n 2, 1) := by decide +kernel
theorem dX8_bestRule_60 : decode cX8_bestRule 60 = .ok (.iinc 3 (-1), 3) := by decide +kernel
theorem dX8_bestRule_63 : decode cX8_bestRule 63 = .ok (.goto (-28), 3) := by decide +kernel
theorem dX8_bestRule_66 : decode cX8_bestRule 66 = .ok (.iload_n 2, 1) := by decide +kernel
theorem dX8_bestRule_67 : decode cX8_bestRule 67 = .ok (.ireturn, 1) := by decide +kernel
set_option maxRecDepth 20000 in
theorem ggX8_wrong_X8_isPage : GoodIn wsX8_wrong wsX8_isPage := goodIn_r _ [7, 8, 9, 10, 6, 11, 19, 20, 21, 22, 23, 24, 25, 26, 27, 28, 29, 30, 31, 32, 33, 34, 35] (by decide +kernel) (by decide +kernel)
set_option maxRecDepth 20000 in
theorem gX8_wrong_X8_isPage : GoodIn wsX8_wrong (wsV RX8 165 RX8 yX8_isPage wsX8_isPage) := goodIn_app (goodIn_of _ (by decide +kernel)) ggX8_wrong_X8_isPage
set_option maxRecDepth 20000 in
theorem ggX8_wrong_X8_of : GoodIn wsX8_wrong wsX8_of := goodIn_r _ [15, 8, 16, 17, 6, 18, 19, 20, 21, 22, 23, 24, 25, 26, 27, 28, 29, 30, 31, 32, 33, 34, 35] (by decide +kernel) (by decide +kernel)
set_option maxRecDepth 20000 in
theorem gX8_wrong_X8_of : GoodIn wsX8_wrong (wsV RX8 82 RX8 yX8_of wsX8_of) := goodIn_app (goodIn_of _ (by decide +kernel)) ggX8_wrong_X8_of
theorem dX8_wrong_0 : decode cX8_wrong 0 = .ok (.iconst 0, 1) := by decide +kernel
theorem dX8_wrong_1 : decode cX8_wrong 1 = .ok (.istore_n 1, 1) := by decide +kernel
theorem dX8_wrong_2 : decode cX8_wrong 2 = .ok (.iload_n 1, 1) := by decide +kernel
theorem dX8_wrong_3 : decode cX8_wrong 3 = .ok (.aload_n 0, 1) := by decide +kernel
theorem dX8_wrong_4 : decode cX8_wrong 4 = .ok (.getfield 150, 3) := by decide +kernel
theorem dX8_wrong_7 : decode cX8_wrong 7 = .ok (.if_icmp .ge 87, 3) := by decide +kernel
theorem dX8_wrong_10 : decode cX8_wrong 10 = .ok (.aload_n 0, 1) := by decide +kernel
theorem dX8_wrong_11 : decode cX8_wrong 11 = .ok (.getfield 33, 3) := by decide +kernel
theorem dX8_wrong_14 : decode cX8_wrong 14 = .ok (.iconst 4, 1) := by decide +kernel
theorem dX8_wrong_15 : decode cX8_wrong 15 = .ok (.iload_n 1, 1) := by decide +kernel
theorem dX8_wrong_16 : decode cX8_wrong 16 = .ok (.imul, 1) := by decide +kernel
theorem dX8_wrong_17 : decode cX8_wrong 17 = .ok (.iaload, 1) := by decide +kernel
theorem dX8_wrong_18 : decode cX8_wrong 18 = .ok (.istore_n 2, 1) := by decide +kernel
theorem dX8_wrong_19 : decode cX8_wrong 19 = .ok (.aload_n 0, 1) := by decide +kernel
theorem dX8_wrong_20 : decode cX8_wrong 20 = .ok (.iload_n 2, 1) := by decide +kernel
theorem dX8_wrong_21 : decode cX8_wrong 21 = .ok (.invokevirtual 165, 3) := by decide +kernel
theorem dX8_wrong_24 : decode cX8_wrong 24 = .ok (.ifCond .eq 38, 3) := by decide +kernel
theorem dX8_wrong_27 : decode cX8_wrong 27 = .ok (.aload_n 0, 1) := by decide +kernel
theorem dX8_wrong_28 : decode cX8_wrong 28 = .ok (.iload_n 2, 1) := by decide +kernel
theorem dX8_wrong_29 : decode cX8_wrong 29 = .ok (.bipush 10, 2) := by decide +kernel
theorem dX8_wrong_31 : decode cX8_wrong 31 = .ok (.bipush 8, 2) := by decide +kernel
theorem dX8_wrong_33 : decode cX8_wrong 33 = .ok (.aload_n 0, 1) := by decide +kernel
theorem dX8_wrong_34 : decode cX8_wrong 34 = .ok (.getfield 33, 3) := by decide +kernel
theorem dX8_wrong_37 : decode cX8_wrong 37 = .ok (.iconst 4, 1) := by decide +kernel
theorem dX8_wrong_38 : decode cX8_wrong 38 = .ok (.iload_n 1, 1) := by decide +kernel
theorem dX8_wrong_39 : decode cX8_wrong 39 = .ok (.imul, 1) := by decide +kernel
theorem dX8_wrong_40 : decode cX8_wrong 40 = .ok (.iconst 1, 1) := by decide +kernel
theorem dX8_wrong_41 : decode cX8_wrong 41 = .ok (.iadd, 1) := by decide +kernel
theorem dX8_wrong_42 : decode cX8_wrong 42 = .ok (.iaload, 1) := by decide +kernel
theorem dX8_wrong_43 : decode cX8_wrong 43 = .ok (.imul, 1) := by decide +kernel
theorem dX8_wrong_44 : decode cX8_wrong 44 = .ok (.iadd, 1) := by decide +kernel
theorem dX8_wrong_45 : decode cX8_wrong 45 = .ok (.aload_n 0, 1) := by decide +kernel
theorem dX8_wrong_46 : decode cX8_wrong 46 = .ok (.getfield 33, 3) := by decide +kernel
theorem dX8_wrong_49 : decode cX8_wrong 49 = .ok (.iconst 4, 1) := by decide +kernel
theorem dX8_wrong_50 : decode cX8_wrong 50 = .ok (.iload_n 1, 1) := by decide +kernel
theorem dX8_wrong_51 : decode cX8_wrong 51 = .ok (.imul, 1) := by decide +kernel
theorem dX8_wrong_52 : decode cX8_wrong 52 = .ok (.iconst 2, 1) := by decide +kernel
theorem dX8_wrong_53 : decode cX8_wrong 53 = .ok (.iadd, 1) := by decide +kernel
theorem dX8_wrong_54 : decode cX8_wrong 54 = .ok (.iaload, 1) := by decide +kernel
theorem dX8_wrong_55 : decode cX8_wrong 55 = .ok (.iadd, 1) := by decide +kernel
theorem dX8_wrong_56 : decode cX8_wrong 56 = .ok (.invokevirtual 82, 3) := by decide +kernel
theorem dX8_wrong_59 : decode cX8_wrong 59 = .ok (.goto 4, 3) := by decide +kernel
theorem dX8_wrong_62 : decode cX8_wrong 62 = .ok (.iconst (-1), 1) := by decide +kernel
theorem dX8_wrong_63 : decode cX8_wrong 63 = .ok (.istore_n 3, 1) := by decide +kernel
theorem dX8_wrong_64 : decode cX8_wrong 64 = .ok (.iload_n 3, 1) := by decide +kernel
theorem dX8_wrong_65 : decode cX8_wrong 65 = .ok (.iconst (-1), 1) := by decide +kernel
theorem dX8_wrong_66 : decode cX8_wrong 66 = .ok (.if_icmp .eq 20, 3) := by decide +kernel
theorem dX8_wrong_69 : decode cX8_wrong 69 = .ok (.iload_n 3, 1) := by decide +kernel
theorem dX8_wrong_70 : decode cX8_wrong 70 = .ok (.bipush 127, 2) := by decide +kernel
theorem dX8_wrong_72 : decode cX8_wrong 72 = .ok (.iand, 1) := by decide +kernel
theorem dX8_wrong_73 : decode cX8_wrong 73 = .ok (.aload_n 0, 1) := by decide +kernel
theorem dX8_wrong_74 : decode cX8_wrong 74 = .ok (.getfield 33, 3) := by decide +kernel
theorem dX8_wrong_77 : decode cX8_wrong 77 = .ok (.iconst 4, 1) := by decide +kernel
theorem dX8_wrong_78 : decode cX8_wrong 78 = .ok (.iload_n 1, 1) := by decide +kernel
theorem dX8_wrong_79 : decode cX8_wrong 79 = .ok (.imul, 1) := by decide +kernel
theorem dX8_wrong_80 : decode cX8_wrong 80 = .ok (.iconst 3, 1) := by decide +kernel
theorem dX8_wrong_81 : decode cX8_wrong 81 = .ok (.iadd, 1) := by decide +kernel
theorem dX8_wrong_82 : decode cX8_wrong 82 = .ok (.iaload, 1) := by decide +kernel
theorem dX8_wrong_83 : decode cX8_wrong 83 = .ok (.if_icmp .eq 5, 3) := by decide +kernel
theorem dX8_wrong_86 : decode cX8_wrong 86 = .ok (.iload_n 1, 1) := by decide +kernel
theorem dX8_wrong_87 : decode cX8_wrong 87 = .ok (.ireturn, 1) := by decide +kernel
theorem dX8_wrong_88 : decode cX8_wrong 88 = .ok (.iinc 1 1, 3) := by decide +kernel
theorem dX8_wrong_91 : decode cX8_wrong 91 = .ok (.goto (-89), 3) := by decide +kernel
theorem dX8_wrong_94 : decode cX8_wrong 94 = .ok (.iconst (-1), 1) := by decide +kernel
theorem dX8_wrong_95 : decode cX8_wrong 95 = .ok (.ireturn, 1) := by decide +kernel
set_option maxRecDepth 20000 in
theorem ggX8_write_X8_isPage : GoodIn wsX8_write wsX8_isPage := goodIn_r _ [14, 15, 16, 17, 13, 18, 19, 20, 21, 22, 23, 24, 25, 26, 27, 28, 29, 30, 31, 32, 33, 34, 35] (by decide +kernel) (by decide +kernel)
set_option maxRecDepth 20000 in
theorem gX8_write_X8_isPage : GoodIn wsX8_write (wsV RX8 165 RX8 yX8_isPage wsX8_isPage) := goodIn_app (goodIn_of _ (by decide +kernel)) ggX8_write_X8_isPage
set_option maxRecDepth 20000 in
theorem ggX8_write_X8_in : GoodIn wsX8_write wsX8_in := goodIn_r _ [18] (by decide +kernel) (by decide +kernel)
set_option maxRecDepth 20000 in
theorem gX8_write_X8_in : GoodIn wsX8_write (va_wsS RX8 70 yX8_in wsX8_in) := goodIn_app (goodIn_of _ (by decide +kernel)) ggX8_write_X8_in
theorem dX8_write_0 : decode cX8_write 0 = .ok (.aload_n 0, 1) := by decide +kernel
theorem dX8_write_1 : decode cX8_write 1 = .ok (.iconst 0, 1) := by decide +kernel
theorem dX8_write_2 : decode cX8_write 2 = .ok (.putfield 48, 3) := by decide +kernel
theorem dX8_write_5 : decode cX8_write 5 = .ok (.aload_n 0, 1) := by decide +kernel
theorem dX8_write_6 : decode cX8_write 6 = .ok (.iload_n 1, 1) := by decide +kernel
theorem dX8_write_7 : decode cX8_write 7 = .ok (.invokevirtual 165, 3) := by decide +kernel
theorem dX8_write_10 : decode cX8_write 10 = .ok (.ifCond .ne 6, 3) := by decide +kernel
theorem dX8_write_13 : decode cX8_write 13 = .ok (.ldc 156, 2) := by decide +kernel
theorem dX8_write_15 : decode cX8_write 15 = .ok (.ireturn, 1) := by decide +kernel
theorem dX8_write_16 : decode cX8_write 16 = .ok (.iload_n 2, 1) := by decide +kernel
theorem dX8_write_17 : decode cX8_write 17 = .ok (.i2l, 1) := by decide +kernel
theorem dX8_write_18 : decode cX8_write 18 = .ok (.lconst 0, 1) := by decide +kernel
theorem dX8_write_19 : decode cX8_write 19 = .ok (.ldc2_w 179, 3) := by decide +kernel
theorem dX8_write_22 : decode cX8_write 22 = .ok (.invokestatic 70, 3) := by decide +kernel
theorem dX8_write_25 : decode cX8_write 25 = .ok (.ifCond .eq 28, 3) := by decide +kernel
theorem dX8_write_28 : decode cX8_write 28 = .ok (.iload_n 3, 1) := by decide +kernel
theorem dX8_write_29 : decode cX8_write 29 = .ok (.i2l, 1) := by decide +kernel
theorem dX8_write_30 : decode cX8_write 30 = .ok (.lconst 0, 1) := by decide +kernel
theorem dX8_write_31 : decode cX8_write 31 = .ok (.ldc2_w 102, 3) := by decide +kernel
theorem dX8_write_34 : decode cX8_write 34 = .ok (.invokestatic 70, 3) := by decide +kernel
theorem dX8_write_37 : decode cX8_write 37 = .ok (.ifCond .eq 16, 3) := by decide +kernel
theorem dX8_write_40 : decode cX8_write 40 = .ok (.iload 4, 2) := by decide +kernel
theorem dX8_write_42 : decode cX8_write 42 = .ok (.i2l, 1) := by decide +kernel
theorem dX8_write_43 : decode cX8_write 43 = .ok (.lconst 0, 1) := by decide +kernel
theorem dX8_write_44 : decode cX8_write 44 = .ok (.ldc2_w 163, 3) := by decide +kernel
theorem dX8_write_47 : decode cX8_write 47 = .ok (.invokestatic 70, 3) := by decide +kernel
theorem dX8_write_50 : decode cX8_write 50 = .ok (.ifCond .ne 6, 3) := by decide +kernel
theorem dX8_write_53 : decode cX8_write 53 = .ok (.ldc 74, 2) := by decide +kernel
theorem dX8_write_55 : decode cX8_write 55 = .ok (.ireturn, 1) := by decide +kernel
theorem dX8_write_56 : decode cX8_write 56 = .ok (.aload_n 0, 1) := by decide +kernel
theorem dX8_write_57 : decode cX8_write 57 = .ok (.getfield 150, 3) := by decide +kernel
theorem dX8_write_60 : decode cX8_write 60 = .ok (.bipush 20, 2) := by decide +kernel
theorem dX8_write_62 : decode cX8_write 62 = .ok (.if_icmp .ne 6, 3) := by decide +kernel
theorem dX8_write_65 : decode cX8_write 65 = .ok (.ldc 217, 2) := by decide +kernel
theorem dX8_write_67 : decode cX8_write 67 = .ok (.ireturn, 1) := by decide +kernel
theorem dX8_write_68 : decode cX8_write 68 = .ok (.aload_n 0, 1) := by decide +kernel
theorem dX8_write_69 : decode cX8_write 69 = .ok (.getfield 33, 3) := by decide +kernel
theorem dX8_write_72 : decode cX8_write 72 = .ok (.iconst 4, 1) := by decide +kernel
theorem dX8_write_73 : decode cX8_write 73 = .ok (.aload_n 0, 1) := by decide +kernel
theorem dX8_write_74 : decode cX8_write 74 = .ok (.getfield 150, 3) := by decide +kernel
theorem dX8_write_77 : decode cX8_write 77 = .ok (.imul, 1) := by decide +kernel
theorem dX8_write_78 : decode cX8_write 78 = .ok (.iload_n 1, 1) := by decide +kernel
theorem dX8_write_79 : decode cX8_write 79 = .ok (.iastore, 1) := by decide +kernel
theorem dX8_write_80 : decode cX8_write 80 = .ok (.aload_n 0, 1) := by decide +kernel
theorem dX8_write_81 : decode cX8_write 81 = .ok (.getfield 33, 3) := by decide +kernel
theorem dX8_write_84 : decode cX8_write 84 = .ok (.iconst 4, 1) := by decide +kernel
theorem dX8_write_85 : decode cX8_write 85 = .ok (.aload_n 0, 1) := by decide +kernel
theorem dX8_write_86 : decode cX8_write 86 = .ok (.getfield 150, 3) := by decide +kernel
theorem dX8_write_89 : decode cX8_write 89 = .ok (.imul, 1) := by decide +kernel
theorem dX8_write_90 : decode cX8_write 90 = .ok (.iconst 1, 1) := by decide +kernel
theorem dX8_write_91 : decode cX8_write 91 = .ok (.iadd, 1) := by decide +kernel
theorem dX8_write_92 : decode cX8_write 92 = .ok (.iload_n 2, 1) := by decide +kernel
theorem dX8_write_93 : decode cX8_write 93 = .ok (.iastore, 1) := by decide +kernel
theorem dX8_write_94 : decode cX8_write 94 = .ok (.aload_n 0, 1) := by decide +kernel
theorem dX8_write_95 : decode cX8_write 95 = .ok (.getfield 33, 3) := by decide +kernel
theorem dX8_write_98 : decode cX8_write 98 = .ok (.iconst 4, 1) := by decide +kernel
theorem dX8_write_99 : decode cX8_write 99 = .ok (.aload_n 0, 1) := by decide +kernel
theorem dX8_write_100 : decode cX8_write 100 = .ok (.getfield 150, 3) := by decide +kernel
theorem dX8_write_103 : decode cX8_write 103 = .ok (.imul, 1) := by decide +kernel
theorem dX8_write_104 : decode cX8_write 104 = .ok (.iconst 2, 1) := by decide +kernel
theorem dX8_write_105 : decode cX8_write 105 = .ok (.iadd, 1) := by decide +kernel
theorem dX8_write_106 : decode cX8_write 106 = .ok (.iload_n 3, 1) := by decide +kernel
theorem dX8_write_107 : decode cX8_write 107 = .ok (.iastore, 1) := by decide +kernel
theorem dX8_write_108 : decode cX8_write 108 = .ok (.aload_n 0, 1) := by decide +kernel
theorem dX8_write_109 : decode cX8_write 109 = .ok (.getfield 33, 3) := by decide +kernel
theorem dX8_write_112 : decode cX8_write 112 = .ok (.iconst 4, 1) := by decide +kernel
theorem dX8_write_113 : decode cX8_write 113 = .ok (.aload_n 0, 1) := by decide +kernel
theorem dX8_write_114 : decode cX8_write 114 = .ok (.getfield 150, 3) := by decide +kernel
theorem dX8_write_117 : decode cX8_write 117 = .ok (.imul, 1) := by decide +kernel
theorem dX8_write_118 : decode cX8_write 118 = .ok (.iconst 3, 1) := by decide +kernel
theorem dX8_write_119 : decode cX8_write 119 = .ok (.iadd, 1) := by decide +kernel
theorem dX8_write_120 : decode cX8_write 120 = .ok (.iload 4, 2) := by decide +kernel
theorem dX8_write_122 : decode cX8_write 122 = .ok (.iastore, 1) := by decide +kernel
theorem dX8_write_123 : decode cX8_write 123 = .ok (.aload_n 0, 1) := by decide +kernel
theorem dX8_write_124 : decode cX8_write 124 = .ok (.dup, 1) := by decide +kernel
theorem dX8_write_125 : decode cX8_write 125 = .ok (.getfield 150, 3) := by decide +kernel
theorem dX8_write_128 : decode cX8_write 128 = .ok (.iconst 1, 1) := by decide +kernel
theorem dX8_write_129 : decode cX8_write 129 = .ok (.iadd, 1) := by decide +kernel
theorem dX8_write_130 : decode cX8_write 130 = .ok (.putfield 150, 3) := by decide +kernel
theorem dX8_write_133 : decode cX8_write 133 = .ok (.aload_n 0, 1) := by decide +kernel
theorem dX8_write_134 : decode cX8_write 134 = .ok (.getfield 150, 3) := by decide +kernel
theorem dX8_write_137 : decode cX8_write 137 = .ok (.ireturn, 1) := by decide +kernel
theorem dX8_tear_0 : decode cX8_tear 0 = .ok (.aload_n 0, 1) := by decide +kernel
theorem dX8_tear_1 : decode cX8_tear 1 = .ok (.iconst 0, 1) := by decide +kernel
theorem dX8_tear_2 : decode cX8_tear 2 = .ok (.putfield 48, 3) := by decide +kernel
theorem dX8_tear_5 : decode cX8_tear 5 = .ok (.aload_n 0, 1) := by decide +kernel
theorem dX8_tear_6 : decode cX8_tear 6 = .ok (.getfield 150, 3) := by decide +kernel
theorem dX8_tear_9 : decode cX8_tear 9 = .ok (.istore_n 1, 1) := by decide +kernel
theorem dX8_tear_10 : decode cX8_tear 10 = .ok (.aload_n 0, 1) := by decide +kernel
theorem dX8_tear_11 : decode cX8_tear 11 = .ok (.iconst 0, 1) := by decide +kernel
theorem dX8_tear_12 : decode cX8_tear 12 = .ok (.putfield 150, 3) := by decide +kernel
theorem dX8_tear_15 : decode cX8_tear 15 = .ok (.iload_n 1, 1) := by decide +kernel
theorem dX8_tear_16 : decode cX8_tear 16 = .ok (.ireturn, 1) := by decide +kernel
theorem dX8_seed_0 : decode cX8_seed 0 = .ok (.aload_n 0, 1) := by decide +kernel
theorem dX8_seed_1 : decode cX8_seed 1 = .ok (.iconst 0, 1) := by decide +kernel
theorem dX8_seed_2 : decode cX8_seed 2 = .ok (.putfield 48, 3) := by decide +kernel
theorem dX8_seed_5 : decode cX8_seed 5 = .ok (.iload_n 1, 1) := by decide +kernel
theorem dX8_seed_6 : decode cX8_seed 6 = .ok (.ifCond .ge 6, 3) := by decide +kernel
theorem dX8_seed_9 : decode cX8_seed 9 = .ok (.ldc 74, 2) := by decide +kernel
theorem dX8_seed_11 : decode cX8_seed 11 = .ok (.ireturn, 1) := by decide +kernel
theorem dX8_seed_12 : decode cX8_seed 12 = .ok (.aload_n 0, 1) := by decide +kernel
theorem dX8_seed_13 : decode cX8_seed 13 = .ok (.getfield 181, 3) := by decide +kernel
theorem dX8_seed_16 : decode cX8_seed 16 = .ok (.l2i, 1) := by decide +kernel
theorem dX8_seed_17 : decode cX8_seed 17 = .ok (.istore_n 2, 1) := by decide +kernel
theorem dX8_seed_18 : decode cX8_seed 18 = .ok (.aload_n 0, 1) := by decide +kernel
theorem dX8_seed_19 : decode cX8_seed 19 = .ok (.iload_n 1, 1) := by decide +kernel
theorem dX8_seed_20 : decode cX8_seed 20 = .ok (.i2l, 1) := by decide +kernel
theorem dX8_seed_21 : decode cX8_seed 21 = .ok (.putfield 181, 3) := by decide +kernel
theorem dX8_seed_24 : decode cX8_seed 24 = .ok (.iload_n 2, 1) := by decide +kernel
theorem dX8_seed_25 : decode cX8_seed 25 = .ok (.ireturn, 1) := by decide +kernel
set_option maxRecDepth 20000 in
theorem ggX8_keep_X8_in : GoodIn wsX8_keep wsX8_in := goodIn_r _ [12] (by decide +kernel) (by decide +kernel)
set_option maxRecDepth 20000 in
theorem gX8_keep_X8_in : GoodIn wsX8_keep (va_wsS RX8 70 yX8_in wsX8_in) := goodIn_app (goodIn_of _ (by decide +kernel)) ggX8_keep_X8_in
theorem dX8_keep_0 : decode cX8_keep 0 = .ok (.aload_n 0, 1) := by decide +kernel
theorem dX8_keep_1 : decode cX8_keep 1 = .ok (.iconst 0, 1) := by decide +kernel
theorem dX8_keep_2 : decode cX8_keep 2 = .ok (.putfield 48, 3) := by decide +kernel
theorem dX8_keep_5 : decode cX8_keep 5 = .ok (.iload_n 1, 1) := by decide +kernel
theorem dX8_keep_6 : decode cX8_keep 6 = .ok (.i2l, 1) := by decide +kernel
theorem dX8_keep_7 : decode cX8_keep 7 = .ok (.lconst 0, 1) := by decide +kernel
theorem dX8_keep_8 : decode cX8_keep 8 = .ok (.lconst 1, 1) := by decide +kernel
theorem dX8_keep_9 : decode cX8_keep 9 = .ok (.invokestatic 70, 3) := by decide +kernel
theorem dX8_keep_12 : decode cX8_keep 12 = .ok (.ifCond .ne 6, 3) := by decide +kernel
theorem dX8_keep_15 : decode cX8_keep 15 = .ok (.ldc 156, 2) := by decide +kernel
theorem dX8_keep_17 : decode cX8_keep 17 = .ok (.ireturn, 1) := by decide +kernel
theorem dX8_keep_18 : decode cX8_keep 18 = .ok (.iconst 0, 1) := by decide +kernel
theorem dX8_keep_19 : decode cX8_keep 19 = .ok (.istore_n 2, 1) := by decide +kernel
theorem dX8_keep_20 : decode cX8_keep 20 = .ok (.iload_n 2, 1) := by decide +kernel
theorem dX8_keep_21 : decode cX8_keep 21 = .ok (.sipush 508, 3) := by decide +kernel
theorem dX8_keep_24 : decode cX8_keep 24 = .ok (.if_icmp .ge 27, 3) := by decide +kernel
theorem dX8_keep_27 : decode cX8_keep 27 = .ok (.aload_n 0, 1) := by decide +kernel
theorem dX8_keep_28 : decode cX8_keep 28 = .ok (.getfield 22, 3) := by decide +kernel
theorem dX8_keep_31 : decode cX8_keep 31 = .ok (.sipush 508, 3) := by decide +kernel
theorem dX8_keep_34 : decode cX8_keep 34 = .ok (.iload_n 1, 1) := by decide +kernel
theorem dX8_keep_35 : decode cX8_keep 35 = .ok (.imul, 1) := by decide +kernel
theorem dX8_keep_36 : decode cX8_keep 36 = .ok (.iload_n 2, 1) := by decide +kernel
theorem dX8_keep_37 : decode cX8_keep 37 = .ok (.iadd, 1) := by decide +kernel
theorem dX8_keep_38 : decode cX8_keep 38 = .ok (.aload_n 0, 1) := by decide +kernel
theorem dX8_keep_39 : decode cX8_keep 39 = .ok (.getfield 7, 3) := by decide +kernel
theorem dX8_keep_42 : decode cX8_keep 42 = .ok (.iload_n 2, 1) := by decide +kernel
theorem dX8_keep_43 : decode cX8_keep 43 = .ok (.iaload, 1) := by decide +kernel
theorem dX8_keep_44 : decode cX8_keep 44 = .ok (.iastore, 1) := by decide +kernel
theorem dX8_keep_45 : decode cX8_keep 45 = .ok (.iinc 2 1, 3) := by decide +kernel
theorem dX8_keep_48 : decode cX8_keep 48 = .ok (.goto (-28), 3) := by decide +kernel
theorem dX8_keep_51 : decode cX8_keep 51 = .ok (.aload_n 0, 1) := by decide +kernel
theorem dX8_keep_52 : decode cX8_keep 52 = .ok (.getfield 25, 3) := by decide +kernel
theorem dX8_keep_55 : decode cX8_keep 55 = .ok (.iload_n 1, 1) := by decide +kernel
theorem dX8_keep_56 : decode cX8_keep 56 = .ok (.aload_n 0, 1) := by decide +kernel
theorem dX8_keep_57 : decode cX8_keep 57 = .ok (.getfield 181, 3) := by decide +kernel
theorem dX8_keep_60 : decode cX8_keep 60 = .ok (.lastore, 1) := by decide +kernel
theorem dX8_keep_61 : decode cX8_keep 61 = .ok (.aload_n 0, 1) := by decide +kernel
theorem dX8_keep_62 : decode cX8_keep 62 = .ok (.getfield 29, 3) := by decide +kernel
theorem dX8_keep_65 : decode cX8_keep 65 = .ok (.iload_n 1, 1) := by decide +kernel
theorem dX8_keep_66 : decode cX8_keep 66 = .ok (.iconst 1, 1) := by decide +kernel
theorem dX8_keep_67 : decode cX8_keep 67 = .ok (.bastore, 1) := by decide +kernel
theorem dX8_keep_68 : decode cX8_keep 68 = .ok (.aload_n 0, 1) := by decide +kernel
theorem dX8_keep_69 : decode cX8_keep 69 = .ok (.iconst 0, 1) := by decide +kernel
theorem dX8_keep_70 : decode cX8_keep 70 = .ok (.putfield 133, 3) := by decide +kernel
theorem dX8_keep_73 : decode cX8_keep 73 = .ok (.iconst 1, 1) := by decide +kernel
theorem dX8_keep_74 : decode cX8_keep 74 = .ok (.ireturn, 1) := by decide +kernel
set_option maxRecDepth 20000 in
theorem ggX8_goBack_X8_in : GoodIn wsX8_goBack wsX8_in := goodIn_r _ [13] (by decide +kernel) (by decide +kernel)
set_option maxRecDepth 20000 in
theorem gX8_goBack_X8_in : GoodIn wsX8_goBack (va_wsS RX8 70 yX8_in wsX8_in) := goodIn_app (goodIn_of _ (by decide +kernel)) ggX8_goBack_X8_in
theorem dX8_goBack_0 : decode cX8_goBack 0 = .ok (.aload_n 0, 1) := by decide +kernel
theorem dX8_goBack_1 : decode cX8_goBack 1 = .ok (.iconst 0, 1) := by decide +kernel
theorem dX8_goBack_2 : decode cX8_goBack 2 = .ok (.putfield 48, 3) := by decide +kernel
theorem dX8_goBack_5 : decode cX8_goBack 5 = .ok (.iload_n 1, 1) := by decide +kernel
theorem dX8_goBack_6 : decode cX8_goBack 6 = .ok (.i2l, 1) := by decide +kernel
theorem dX8_goBack_7 : decode cX8_goBack 7 = .ok (.lconst 0, 1) := by decide +kernel
theorem dX8_goBack_8 : decode cX8_goBack 8 = .ok (.lconst 1, 1) := by decide +kernel
theorem dX8_goBack_9 : decode cX8_goBack 9 = .ok (.invokestatic 70, 3) := by decide +kernel
theorem dX8_goBack_12 : decode cX8_goBack 12 = .ok (.ifCond .ne 6, 3) := by decide +kernel
theorem dX8_goBack_15 : decode cX8_goBack 15 = .ok (.ldc 156, 2) := by decide +kernel
theorem dX8_goBack_17 : decode cX8_goBack 17 = .ok (.ireturn, 1) := by decide +kernel
theorem dX8_goBack_18 : decode cX8_goBack 18 = .ok (.aload_n 0, 1) := by decide +kernel
theorem dX8_goBack_19 : decode cX8_goBack 19 = .ok (.getfield 29, 3) := by decide +kernel
theorem dX8_goBack_22 : decode cX8_goBack 22 = .ok (.iload_n 1, 1) := by decide +kernel
theorem dX8_goBack_23 : decode cX8_goBack 23 = .ok (.baload, 1) := by decide +kernel
theorem dX8_goBack_24 : decode cX8_goBack 24 = .ok (.ifCond .ne 6, 3) := by decide +kernel
theorem dX8_goBack_27 : decode cX8_goBack 27 = .ok (.ldc 199, 2) := by decide +kernel
theorem dX8_goBack_29 : decode cX8_goBack 29 = .ok (.ireturn, 1) := by decide +kernel
theorem dX8_goBack_30 : decode cX8_goBack 30 = .ok (.iconst 0, 1) := by decide +kernel
theorem dX8_goBack_31 : decode cX8_goBack 31 = .ok (.istore_n 2, 1) := by decide +kernel
theorem dX8_goBack_32 : decode cX8_goBack 32 = .ok (.iload_n 2, 1) := by decide +kernel
theorem dX8_goBack_33 : decode cX8_goBack 33 = .ok (.sipush 508, 3) := by decide +kernel
theorem dX8_goBack_36 : decode cX8_goBack 36 = .ok (.if_icmp .ge 27, 3) := by decide +kernel
theorem dX8_goBack_39 : decode cX8_goBack 39 = .ok (.aload_n 0, 1) := by decide +kernel
theorem dX8_goBack_40 : decode cX8_goBack 40 = .ok (.getfield 7, 3) := by decide +kernel
theorem dX8_goBack_43 : decode cX8_goBack 43 = .ok (.iload_n 2, 1) := by decide +kernel
theorem dX8_goBack_44 : decode cX8_goBack 44 = .ok (.aload_n 0, 1) := by decide +kernel
theorem dX8_goBack_45 : decode cX8_goBack 45 = .ok (.getfield 22, 3) := by decide +kernel
theorem dX8_goBack_48 : decode cX8_goBack 48 = .ok (.sipush 508, 3) := by decide +kernel
theorem dX8_goBack_51 : decode cX8_goBack 51 = .ok (.iload_n 1, 1) := by decide +kernel
theorem dX8_goBack_52 : decode cX8_goBack 52 = .ok (.imul, 1) := by decide +kernel
theorem dX8_goBack_53 : decode cX8_goBack 53 = .ok (.iload_n 2, 1) := by decide +kernel
theorem dX8_goBack_54 : decode cX8_goBack 54 = .ok (.iadd, 1) := by decide +kernel
theorem dX8_goBack_55 : decode cX8_goBack 55 = .ok (.iaload, 1) := by decide +kernel
theorem dX8_goBack_56 : decode cX8_goBack 56 = .ok (.iastore, 1) := by decide +kernel
theorem dX8_goBack_57 : decode cX8_goBack 57 = .ok (.iinc 2 1, 3) := by decide +kernel
theorem dX8_goBack_60 : decode cX8_goBack 60 = .ok (.goto (-28), 3) := by decide +kernel
theorem dX8_goBack_63 : decode cX8_goBack 63 = .ok (.aload_n 0, 1) := by decide +kernel
theorem dX8_goBack_64 : decode cX8_goBack 64 = .ok (.aload_n 0, 1) := by decide +kernel
theorem dX8_goBack_65 : decode cX8_goBack 65 = .ok (.getfield 25, 3) := by decide +kernel
theorem dX8_goBack_68 : decode cX8_goBack 68 = .ok (.iload_n 1, 1) := by decide +kernel
theorem dX8_goBack_69 : decode cX8_goBack 69 = .ok (.laload, 1) := by decide +kernel
theorem dX8_goBack_70 : decode cX8_goBack 70 = .ok (.putfield 181, 3) := by decide +kernel
theorem dX8_goBack_73 : decode cX8_goBack 73 = .ok (.aload_n 0, 1) := by decide +kernel
theorem dX8_goBack_74 : decode cX8_goBack 74 = .ok (.iconst 0, 1) := by decide +kernel
theorem dX8_goBack_75 : decode cX8_goBack 75 = .ok (.putfield 133, 3) := by decide +kernel
theorem dX8_goBack_78 : decode cX8_goBack 78 = .ok (.iconst 1, 1) := by decide +kernel
theorem dX8_goBack_79 : decode cX8_goBack 79 = .ok (.ireturn, 1) := by decide +kernel
end
section
theorem dJ6_bitCount_0f7a4_0 : decode cJ6_bitCount_0f7a4 0 = .ok (.iload_n 0, 1) := by decide +kernel
theorem dJ6_bitCount_0f7a4_1 : decode cJ6_bitCount_0f7a4 1 = .ok (.iload_n 0, 1) := by decide +kernel
theorem dJ6_bitCount_0f7a4_2 : decode cJ6_bitCount_0f7a4 2 = .ok (.iconst 1, 1) := by decide +kernel
theorem dJ6_bitCount_0f7a4_3 : decode cJ6_bitCount_0f7a4 3 = .ok (.iushr, 1) := by decide +kernel
theorem dJ6_bitCount_0f7a4_4 : decode cJ6_bitCount_0f7a4 4 = .ok (.ldc_w 265, 3) := by decide +kernel
theorem dJ6_bitCount_0f7a4_7 : decode cJ6_bitCount_0f7a4 7 = .ok (.iand, 1) := by decide +kernel
theorem dJ6_bitCount_0f7a4_8 : decode cJ6_bitCount_0f7a4 8 = .ok (.isub, 1) := by decide +kernel
theorem dJ6_bitCount_0f7a4_9 : decode cJ6_bitCount_0f7a4 9 = .ok (.istore_n 0, 1) := by decide +kernel
theorem dJ6_bitCount_0f7a4_10 : decode cJ6_bitCount_0f7a4 10 = .ok (.iload_n 0, 1) := by decide +kernel
theorem dJ6_bitCount_0f7a4_11 : decode cJ6_bitCount_0f7a4 11 = .ok (.ldc_w 266, 3) := by decide +kernel
theorem dJ6_bitCount_0f7a4_14 : decode cJ6_bitCount_0f7a4 14 = .ok (.iand, 1) := by decide +kernel
theorem dJ6_bitCount_0f7a4_15 : decode cJ6_bitCount_0f7a4 15 = .ok (.iload_n 0, 1) := by decide +kernel
theorem dJ6_bitCount_0f7a4_16 : decode cJ6_bitCount_0f7a4 16 = .ok (.iconst 2, 1) := by decide +kernel
theorem dJ6_bitCount_0f7a4_17 : decode cJ6_bitCount_0f7a4 17 = .ok (.iushr, 1) := by decide +kernel
theorem dJ6_bitCount_0f7a4_18 : decode cJ6_bitCount_0f7a4 18 = .ok (.ldc_w 266, 3) := by decide +kernel
theorem dJ6_bitCount_0f7a4_21 : decode cJ6_bitCount_0f7a4 21 = .ok (.iand, 1) := by decide +kernel
theorem dJ6_bitCount_0f7a4_22 : decode cJ6_bitCount_0f7a4 22 = .ok (.iadd, 1) := by decide +kernel
theorem dJ6_bitCount_0f7a4_23 : decode cJ6_bitCount_0f7a4 23 = .ok (.istore_n 0, 1) := by decide +kernel
theorem dJ6_bitCount_0f7a4_24 : decode cJ6_bitCount_0f7a4 24 = .ok (.iload_n 0, 1) := by decide +kernel
theorem dJ6_bitCount_0f7a4_25 : decode cJ6_bitCount_0f7a4 25 = .ok (.iload_n 0, 1) := by decide +kernel
theorem dJ6_bitCount_0f7a4_26 : decode cJ6_bitCount_0f7a4 26 = .ok (.iconst 4, 1) := by decide +kernel
theorem dJ6_bitCount_0f7a4_27 : decode cJ6_bitCount_0f7a4 27 = .ok (.iushr, 1) := by decide +kernel
theorem dJ6_bitCount_0f7a4_28 : decode cJ6_bitCount_0f7a4 28 = .ok (.iadd, 1) := by decide +kernel
theorem dJ6_bitCount_0f7a4_29 : decode cJ6_bitCount_0f7a4 29 = .ok (.ldc_w 267, 3) := by decide +kernel
theorem dJ6_bitCount_0f7a4_32 : decode cJ6_bitCount_0f7a4 32 = .ok (.iand, 1) := by decide +kernel
theorem dJ6_bitCount_0f7a4_33 : decode cJ6_bitCount_0f7a4 33 = .ok (.istore_n 0, 1) := by decide +kernel
theorem dJ6_bitCount_0f7a4_34 : decode cJ6_bitCount_0f7a4 34 = .ok (.iload_n 0, 1) := by decide +kernel
theorem dJ6_bitCount_0f7a4_35 : decode cJ6_bitCount_0f7a4 35 = .ok (.iload_n 0, 1) := by decide +kernel
theorem dJ6_bitCount_0f7a4_36 : decode cJ6_bitCount_0f7a4 36 = .ok (.bipush 8, 2) := by decide +kernel
theorem dJ6_bitCount_0f7a4_38 : decode cJ6_bitCount_0f7a4 38 = .ok (.iushr, 1) := by decide +kernel
theorem dJ6_bitCount_0f7a4_39 : decode cJ6_bitCount_0f7a4 39 = .ok (.iadd, 1) := by decide +kernel
theorem dJ6_bitCount_0f7a4_40 : decode cJ6_bitCount_0f7a4 40 = .ok (.istore_n 0, 1) := by decide +kernel
theorem dJ6_bitCount_0f7a4_41 : decode cJ6_bitCount_0f7a4 41 = .ok (.iload_n 0, 1) := by decide +kernel
theorem dJ6_bitCount_0f7a4_42 : decode cJ6_bitCount_0f7a4 42 = .ok (.iload_n 0, 1) := by decide +kernel
theorem dJ6_bitCount_0f7a4_43 : decode cJ6_bitCount_0f7a4 43 = .ok (.bipush 16, 2) := by decide +kernel
theorem dJ6_bitCount_0f7a4_45 : decode cJ6_bitCount_0f7a4 45 = .ok (.iushr, 1) := by decide +kernel
theorem dJ6_bitCount_0f7a4_46 : decode cJ6_bitCount_0f7a4 46 = .ok (.iadd, 1) := by decide +kernel
theorem dJ6_bitCount_0f7a4_47 : decode cJ6_bitCount_0f7a4 47 = .ok (.istore_n 0, 1) := by decide +kernel
theorem dJ6_bitCount_0f7a4_48 : decode cJ6_bitCount_0f7a4 48 = .ok (.iload_n 0, 1) := by decide +kernel
theorem dJ6_bitCount_0f7a4_49 : decode cJ6_bitCount_0f7a4 49 = .ok (.bipush 63, 2) := by decide +kernel
theorem dJ6_bitCount_0f7a4_51 : decode cJ6_bitCount_0f7a4 51 = .ok (.iand, 1) := by decide +kernel
theorem dJ6_bitCount_0f7a4_52 : decode cJ6_bitCount_0f7a4 52 = .ok (.ireturn, 1) := by decide +kernel
theorem dJ9_floorMod_7cf53_0 : decode cJ9_floorMod_7cf53 0 = .ok (.iload_n 0, 1) := by decide +kernel
theorem dJ9_floorMod_7cf53_1 : decode cJ9_floorMod_7cf53 1 = .ok (.iload_n 1, 1) := by decide +kernel
theorem dJ9_floorMod_7cf53_2 : decode cJ9_floorMod_7cf53 2 = .ok (.irem, 1) := by decide +kernel
theorem dJ9_floorMod_7cf53_3 : decode cJ9_floorMod_7cf53 3 = .ok (.istore_n 2, 1) := by decide +kernel
theorem dJ9_floorMod_7cf53_4 : decode cJ9_floorMod_7cf53 4 = .ok (.iload_n 0, 1) := by decide +kernel
theorem dJ9_floorMod_7cf53_5 : decode cJ9_floorMod_7cf53 5 = .ok (.iload_n 1, 1) := by decide +kernel
theorem dJ9_floorMod_7cf53_6 : decode cJ9_floorMod_7cf53 6 = .ok (.ixor, 1) := by decide +kernel
theorem dJ9_floorMod_7cf53_7 : decode cJ9_floorMod_7cf53 7 = .ok (.ifCond .ge 11, 3) := by decide +kernel
theorem dJ9_floorMod_7cf53_10 : decode cJ9_floorMod_7cf53 10 = .ok (.iload_n 2, 1) := by decide +kernel
theorem dJ9_floorMod_7cf53_11 : decode cJ9_floorMod_7cf53 11 = .ok (.ifCond .eq 7, 3) := by decide +kernel
theorem dJ9_floorMod_7cf53_14 : decode cJ9_floorMod_7cf53 14 = .ok (.iload_n 2, 1) := by decide +kernel
theorem dJ9_floorMod_7cf53_15 : decode cJ9_floorMod_7cf53 15 = .ok (.iload_n 1, 1) := by decide +kernel
theorem dJ9_floorMod_7cf53_16 : decode cJ9_floorMod_7cf53 16 = .ok (.iadd, 1) := by decide +kernel
theorem dJ9_floorMod_7cf53_17 : decode cJ9_floorMod_7cf53 17 = .ok (.ireturn, 1) := by decide +kernel
theorem dJ9_floorMod_7cf53_18 : decode cJ9_floorMod_7cf53 18 = .ok (.iload_n 2, 1) := by decide +kernel
theorem dJ9_floorMod_7cf53_19 : decode cJ9_floorMod_7cf53 19 = .ok (.ireturn, 1) := by decide +kernel
theorem dJ9_max_7cf53_0 : decode cJ9_max_7cf53 0 = .ok (.iload_n 0, 1) := by decide +kernel
theorem dJ9_max_7cf53_1 : decode cJ9_max_7cf53 1 = .ok (.iload_n 1, 1) := by decide +kernel
theorem dJ9_max_7cf53_2 : decode cJ9_max_7cf53 2 = .ok (.if_icmp .lt 7, 3) := by decide +kernel
theorem dJ9_max_7cf53_5 : decode cJ9_max_7cf53 5 = .ok (.iload_n 0, 1) := by decide +kernel
theorem dJ9_max_7cf53_6 : decode cJ9_max_7cf53 6 = .ok (.goto 4, 3) := by decide +kernel
theorem dJ9_max_7cf53_9 : decode cJ9_max_7cf53 9 = .ok (.iload_n 1, 1) := by decide +kernel
theorem dJ9_max_7cf53_10 : decode cJ9_max_7cf53 10 = .ok (.ireturn, 1) := by decide +kernel
theorem dJ9_min_7cf53_0 : decode cJ9_min_7cf53 0 = .ok (.iload_n 0, 1) := by decide +kernel
theorem dJ9_min_7cf53_1 : decode cJ9_min_7cf53 1 = .ok (.iload_n 1, 1) := by decide +kernel
theorem dJ9_min_7cf53_2 : decode cJ9_min_7cf53 2 = .ok (.if_icmp .gt 7, 3) := by decide +kernel
theorem dJ9_min_7cf53_5 : decode cJ9_min_7cf53 5 = .ok (.iload_n 0, 1) := by decide +kernel
theorem dJ9_min_7cf53_6 : decode cJ9_min_7cf53 6 = .ok (.goto 4, 3) := by decide +kernel
theorem dJ9_min_7cf53_9 : decode cJ9_min_7cf53 9 = .ok (.iload_n 1, 1) := by decide +kernel
theorem dJ9_min_7cf53_10 : decode cJ9_min_7cf53 10 = .ok (.ireturn, 1) := by decide +kernel
theorem dJ7_rangeCheck_23922_0 : decode cJ7_rangeCheck_23922 0 = .ok (.iload_n 1, 1) := by decide +kernel
theorem dJ7_rangeCheck_23922_1 : decode cJ7_rangeCheck_23922 1 = .ok (.iload_n 2, 1) := by decide +kernel
theorem dJ7_rangeCheck_23922_2 : decode cJ7_rangeCheck_23922 2 = .ok (.if_icmp .le 44, 3) := by decide +kernel
theorem dJ7_rangeCheck_23922_5 : decode cJ7_rangeCheck_23922 5 = .ok (.new 43, 3) := by decide +kernel
theorem dJ7_rangeCheck_23922_8 : decode cJ7_rangeCheck_23922 8 = .ok (.dup, 1) := by decide +kernel
theorem dJ7_rangeCheck_23922_9 : decode cJ7_rangeCheck_23922 9 = .ok (.new 45, 3) := by decide +kernel
theorem dJ7_rangeCheck_23922_12 : decode cJ7_rangeCheck_23922 12 = .ok (.dup, 1) := by decide +kernel
theorem dJ7_rangeCheck_23922_13 : decode cJ7_rangeCheck_23922 13 = .ok (.invokespecial 47, 3) := by decide +kernel
theorem dJ7_rangeCheck_23922_16 : decode cJ7_rangeCheck_23922 16 = .ok (.ldc 48, 2) := by decide +kernel
theorem dJ7_rangeCheck_23922_18 : decode cJ7_rangeCheck_23922 18 = .ok (.invokevirtual 50, 3) := by decide +kernel
theorem dJ7_rangeCheck_23922_21 : decode cJ7_rangeCheck_23922 21 = .ok (.iload_n 1, 1) := by decide +kernel
theorem dJ7_rangeCheck_23922_22 : decode cJ7_rangeCheck_23922 22 = .ok (.invokevirtual 54, 3) := by decide +kernel
theorem dJ7_rangeCheck_23922_25 : decode cJ7_rangeCheck_23922 25 = .ok (.ldc 57, 2) := by decide +kernel
theorem dJ7_rangeCheck_23922_27 : decode cJ7_rangeCheck_23922 27 = .ok (.invokevirtual 50, 3) := by decide +kernel
theorem dJ7_rangeCheck_23922_30 : decode cJ7_rangeCheck_23922 30 = .ok (.iload_n 2, 1) := by decide +kernel
theorem dJ7_rangeCheck_23922_31 : decode cJ7_rangeCheck_23922 31 = .ok (.invokevirtual 54, 3) := by decide +kernel
theorem dJ7_rangeCheck_23922_34 : decode cJ7_rangeCheck_23922 34 = .ok (.ldc 59, 2) := by decide +kernel
theorem dJ7_rangeCheck_23922_36 : decode cJ7_rangeCheck_23922 36 = .ok (.invokevirtual 50, 3) := by decide +kernel
theorem dJ7_rangeCheck_23922_39 : decode cJ7_rangeCheck_23922 39 = .ok (.invokevirtual 61, 3) := by decide +kernel
theorem dJ7_rangeCheck_23922_42 : decode cJ7_rangeCheck_23922 42 = .ok (.invokespecial 65, 3) := by decide +kernel
theorem dJ7_rangeCheck_23922_45 : decode cJ7_rangeCheck_23922 45 = .ok (.athrow, 1) := by decide +kernel
theorem dJ7_rangeCheck_23922_46 : decode cJ7_rangeCheck_23922 46 = .ok (.iload_n 1, 1) := by decide +kernel
theorem dJ7_rangeCheck_23922_47 : decode cJ7_rangeCheck_23922 47 = .ok (.ifCond .ge 12, 3) := by decide +kernel
theorem dJ7_rangeCheck_23922_50 : decode cJ7_rangeCheck_23922 50 = .ok (.new 68, 3) := by decide +kernel
theorem dJ7_rangeCheck_23922_53 : decode cJ7_rangeCheck_23922 53 = .ok (.dup, 1) := by decide +kernel
theorem dJ7_rangeCheck_23922_54 : decode cJ7_rangeCheck_23922 54 = .ok (.iload_n 1, 1) := by decide +kernel
theorem dJ7_rangeCheck_23922_55 : decode cJ7_rangeCheck_23922 55 = .ok (.invokespecial 70, 3) := by decide +kernel
theorem dJ7_rangeCheck_23922_58 : decode cJ7_rangeCheck_23922 58 = .ok (.athrow, 1) := by decide +kernel
theorem dJ7_rangeCheck_23922_59 : decode cJ7_rangeCheck_23922 59 = .ok (.iload_n 2, 1) := by decide +kernel
theorem dJ7_rangeCheck_23922_60 : decode cJ7_rangeCheck_23922 60 = .ok (.iload_n 0, 1) := by decide +kernel
theorem dJ7_rangeCheck_23922_61 : decode cJ7_rangeCheck_23922 61 = .ok (.if_icmp .le 12, 3) := by decide +kernel
theorem dJ7_rangeCheck_23922_64 : decode cJ7_rangeCheck_23922 64 = .ok (.new 68, 3) := by decide +kernel
theorem dJ7_rangeCheck_23922_67 : decode cJ7_rangeCheck_23922 67 = .ok (.dup, 1) := by decide +kernel
theorem dJ7_rangeCheck_23922_68 : decode cJ7_rangeCheck_23922 68 = .ok (.iload_n 2, 1) := by decide +kernel
theorem dJ7_rangeCheck_23922_69 : decode cJ7_rangeCheck_23922 69 = .ok (.invokespecial 70, 3) := by decide +kernel
theorem dJ7_rangeCheck_23922_72 : decode cJ7_rangeCheck_23922 72 = .ok (.athrow, 1) := by decide +kernel
theorem dJ7_rangeCheck_23922_73 : decode cJ7_rangeCheck_23922 73 = .ok (.return_, 1) := by decide +kernel
theorem dJ7_fill_53178_0 : decode cJ7_fill_53178 0 = .ok (.iconst 0, 1) := by decide +kernel
theorem dJ7_fill_53178_1 : decode cJ7_fill_53178 1 = .ok (.istore_n 2, 1) := by decide +kernel
theorem dJ7_fill_53178_2 : decode cJ7_fill_53178 2 = .ok (.aload_n 0, 1) := by decide +kernel
theorem dJ7_fill_53178_3 : decode cJ7_fill_53178 3 = .ok (.arraylength, 1) := by decide +kernel
theorem dJ7_fill_53178_4 : decode cJ7_fill_53178 4 = .ok (.istore_n 3, 1) := by decide +kernel
theorem dJ7_fill_53178_5 : decode cJ7_fill_53178 5 = .ok (.iload_n 2, 1) := by decide +kernel
theorem dJ7_fill_53178_6 : decode cJ7_fill_53178 6 = .ok (.iload_n 3, 1) := by decide +kernel
theorem dJ7_fill_53178_7 : decode cJ7_fill_53178 7 = .ok (.if_icmp .ge 13, 3) := by decide +kernel
theorem dJ7_fill_53178_10 : decode cJ7_fill_53178 10 = .ok (.aload_n 0, 1) := by decide +kernel
theorem dJ7_fill_53178_11 : decode cJ7_fill_53178 11 = .ok (.iload_n 2, 1) := by decide +kernel
theorem dJ7_fill_53178_12 : decode cJ7_fill_53178 12 = .ok (.iload_n 1, 1) := by decide +kernel
theorem dJ7_fill_53178_13 : decode cJ7_fill_53178 13 = .ok (.iastore, 1) := by decide +kernel
theorem dJ7_fill_53178_14 : decode cJ7_fill_53178 14 = .ok (.iinc 2 1, 3) := by decide +kernel
theorem dJ7_fill_53178_17 : decode cJ7_fill_53178 17 = .ok (.goto (-12), 3) := by decide +kernel
theorem dJ7_fill_53178_20 : decode cJ7_fill_53178 20 = .ok (.return_, 1) := by decide +kernel
set_option maxRecDepth 20000 in
theorem ggJ7_fill_fda19_J7_rangeCheck_23922 : GoodIn wsJ7_fill_fda19 wsJ7_rangeCheck_23922 := goodIn_r _ [4] (by decide +kernel) (by decide +kernel)
set_option maxRecDepth 20000 in
theorem gJ7_fill_fda19_J7_rangeCheck_23922 : GoodIn wsJ7_fill_fda19 (va_wsS RJ7 13 yJ7_rangeCheck_23922 wsJ7_rangeCheck_23922) := goodIn_app (goodIn_of _ (by decide +kernel)) ggJ7_fill_fda19_J7_rangeCheck_23922
theorem dJ7_fill_fda19_0 : decode cJ7_fill_fda19 0 = .ok (.aload_n 0, 1) := by decide +kernel
theorem dJ7_fill_fda19_1 : decode cJ7_fill_fda19 1 = .ok (.arraylength, 1) := by decide +kernel
theorem dJ7_fill_fda19_2 : decode cJ7_fill_fda19 2 = .ok (.iload_n 1, 1) := by decide +kernel
theorem dJ7_fill_fda19_3 : decode cJ7_fill_fda19 3 = .ok (.iload_n 2, 1) := by decide +kernel
theorem dJ7_fill_fda19_4 : decode cJ7_fill_fda19 4 = .ok (.invokestatic 13, 3) := by decide +kernel
theorem dJ7_fill_fda19_7 : decode cJ7_fill_fda19 7 = .ok (.iload_n 1, 1) := by decide +kernel
theorem dJ7_fill_fda19_8 : decode cJ7_fill_fda19 8 = .ok (.istore 4, 2) := by decide +kernel
theorem dJ7_fill_fda19_10 : decode cJ7_fill_fda19 10 = .ok (.iload 4, 2) := by decide +kernel
theorem dJ7_fill_fda19_12 : decode cJ7_fill_fda19 12 = .ok (.iload_n 2, 1) := by decide +kernel
theorem dJ7_fill_fda19_13 : decode cJ7_fill_fda19 13 = .ok (.if_icmp .ge 14, 3) := by decide +kernel
theorem dJ7_fill_fda19_16 : decode cJ7_fill_fda19 16 = .ok (.aload_n 0, 1) := by decide +kernel
theorem dJ7_fill_fda19_17 : decode cJ7_fill_fda19 17 = .ok (.iload 4, 2) := by decide +kernel
theorem dJ7_fill_fda19_19 : decode cJ7_fill_fda19 19 = .ok (.iload_n 3, 1) := by decide +kernel
theorem dJ7_fill_fda19_20 : decode cJ7_fill_fda19 20 = .ok (.iastore, 1) := by decide +kernel
theorem dJ7_fill_fda19_21 : decode cJ7_fill_fda19 21 = .ok (.iinc 4 1, 3) := by decide +kernel
theorem dJ7_fill_fda19_24 : decode cJ7_fill_fda19 24 = .ok (.goto (-14), 3) := by decide +kernel
theorem dJ7_fill_fda19_27 : decode cJ7_fill_fda19 27 = .ok (.return_, 1) := by decide +kernel
end
section
/-! WORLDS BY AN INDEX: cell i of a world stands at the address ad i and holds E i; a call hands on the whole world. -/
def Wo (ad : Nat → Nat) (E : Nat → va_E) (N : Nat) : va_W := (List.range N).map (fun i => (ad i, E i))
theorem Wo_get {ad : Nat → Nat} {E : Nat → va_E} {N i : Nat} (h : i < N) : (Wo ad E N)[i]? = some (ad i, E i) := by simp [Wo, h]
theorem Wo_at {ad : Nat → Nat} {E : Nat → va_E} {N k : Nat} {q : Nat × va_E} (h : (Wo ad E N)[k]? = some q) : k < N ∧ q = (ad k, E k) := by
  have hk : k < (Wo ad E N).length := (List.getElem?_eq_some_iff.mp h).1
  have hk' : k < N := by simpa [Wo] using hk
  rw [Wo_get hk'] at h
  exact ⟨hk', (Option.some.inj h).symm⟩
theorem Wo_set {ad : Nat → Nat} {E : Nat → va_E} {N i : Nat} (h : i < N) (x : va_E) : (Wo ad E N).set i (ad i, x) = Wo ad (va_up E i x) N := by
  apply List.ext_getElem?
  intro k
  by_cases hk : k < N
  · rw [Wo_get hk]
    by_cases hki : i = k
    · subst hki
      rw [List.getElem?_set_self (by simpa [Wo] using h)]
      simp [va_up]
    · rw [List.getElem?_set_ne hki, Wo_get hk]
      simp [va_up, Ne.symm hki]
  · rw [List.getElem?_eq_none (by simpa [Wo] using hk), List.getElem?_eq_none (by simpa [Wo] using hk)]
theorem Wo_push (ad : Nat → Nat) (E : Nat → va_E) (N a : Nat) (x : va_E) : Wo ad E N ++ [(a, x)] = Wo (va_up ad N a) (va_up E N x) (N + 1) := by
  simp only [Wo, List.range_succ, List.map_append, List.map_cons, List.map_nil]
  congr 1
  · apply List.map_congr_left
    intro k hk
    have : k < N := List.mem_range.mp hk
    simp [va_up, Nat.ne_of_lt this]
  · simp [va_up]
theorem up_s {α : Type} (f : Nat → α) (k : Nat) (v : α) : va_up f k v k = v := by simp [va_up]
theorem up_n {α : Type} (f : Nat → α) {k j : Nat} (v : α) (h : j ≠ k) : va_up f k v j = f j := by simp [va_up, h]
abbrev vG : Type := va_G × (Nat → ClassId)
def tysOf (cy : Nat → ClassId) : List (ClassId × FieldType) := [(cy 0, .int), (cy 1, .long), (cy 2, .boolean), (cy 3, .object RX5)]
def codeT : Nat → Int32 := fun j => ([21, 2, 73, 94, 100, 115, 56, 47, 208, 199, 140, 155, 161, 182, 253, 234] : List Int32).getD j 0
def stat (tC : Nat) (A : Nat → Prop) (U : State) (H : Heap) : Prop := va_Z RX1 "CODES" "[I" (.ref tC) A U H ∧ va_T .int tC 16 (fun j => .int (codeT j)) A U H
/-- the words on calls among nest mates -/
def nestOk (U : State) : Prop := va_Nw (.methodLinkNest RX2 28 yX7_isWithin RX7) U ∧ va_Nw (.methodLinkNest RX3 21 yX7_isWithin RX7) U ∧ va_Nw (.methodLinkNest RX5 66 yX7_isWithin RX7) U ∧ va_Nw (.methodLinkNest RX7 33 yX2_init RX7) U ∧ va_Nw (.methodLinkNest RX7 40 yX4_init RX7) U
def wU (G : vG) (U : State) : Prop := va_K G.1 vwCl (tysOf G.2) U ∧ nestOk U
/-- what a method finds, and leaves -/
def wI (G : vG) (tC : Nat) (ad : Nat → Nat) (E : Nat → va_E) (N sz : Nat) (U : State) : Prop := U.heap.size = sz ∧ va_P G.1 vwCl (Wo ad E N) U.heap ∧ va_D (fun _ => True) (Wo ad E N) ∧ wU G U ∧ stat tC (va_A (Wo ad E N) sz) U U.heap
def wO (G : vG) (ad : Nat → Nat) (E : Nat → va_E) (N : Nat) (A : Nat → Prop) (t : State) : Prop := va_P G.1 vwCl (Wo ad E N) t.heap ∧ va_D A (Wo ad E N)
/-- contracts: an int (or boolean), nothing -/
def MI (l : Launch) (y : MethodName) (ws : List Cond) (rm : Room) (G : vG) (tC : Nat) (ad : Nat → Nat) (N : Nat) (E : Nat → va_E) (av : List Value) (post : Int32 → (Nat → va_E) → Prop) : Prop :=
  ∀ sz : Nat, Met l y ws rm (va_Pc av (wI G tC ad E N sz)) (va_Qi post (fun E2 t => wO G ad E2 N (va_A (Wo ad E N) sz) t) (va_A (Wo ad E N) sz)) 0 0 (va_A (Wo ad E N) sz)
def MV (l : Launch) (y : MethodName) (ws : List Cond) (rm : Room) (G : vG) (tC : Nat) (ad : Nat → Nat) (N : Nat) (E : Nat → va_E) (av : List Value) (post : (Nat → va_E) → Prop) : Prop :=
  ∀ sz : Nat, Met l y ws rm (va_Pc av (wI G tC ad E N sz)) (va_Qv post (fun E2 t => wO G ad E2 N (va_A (Wo ad E N) sz) t) (va_A (Wo ad E N) sz)) 0 0 (va_A (Wo ad E N) sz)
/-- a method that makes cells: a new world of N2 cells; mc cells of ms slots are new -/
def MC (l : Launch) (y : MethodName) (ws : List Cond) (rm : Room) (mc ms : Nat) (G : vG) (tC : Nat) (ad : Nat → Nat) (N N2 : Nat) (E : Nat → va_E) (av : List Value) (post : (Nat → Nat) → (Nat → va_E) → Prop) : Prop :=
  ∀ sz : Nat, Met l y ws rm (va_Pc av (wI G tC ad E N sz)) (va_Qv (fun u : (Nat → Nat) × (Nat → va_E) => (∀ i, i < N → u.1 i = ad i) ∧ post u.1 u.2) (fun u t => wO G u.1 u.2 N2 (va_A (Wo ad E N) sz) t) (va_A (Wo ad E N) sz)) mc ms (va_A (Wo ad E N) sz)
/-- what stands fast in a method's body -/
def Cx (p : Program) (s : State) (m : MethodId) (meth : Method) (c : Code) (args : Array Value) (cc : ByteArray) (nL : Nat) (ret : Option FieldType) (Ts : List Cond) (own : String) (G : vG) (tC : Nat) (A : Nat → Prop) : Prop :=
  p.tables.exec = Jvm.exec ∧ c.code = cc ∧ meth.sig.returnType = ret ∧ c.maxLocals = nL ∧ s.vm.findClass own = some m.cls ∧ (∀ w ∈ Ts, w.before args s = true) ∧ wU G s ∧ stat tC A s s.heap ∧ (∀ q, s.heap.size ≤ q → A q) ∧ meth.locks = false
/-- the world as it is now -/
def Wd (G : vG) (A : Nat → Prop) (H0 H : Heap) (locs : List Loc) (ad : Nat → Nat) (E : Nat → va_E) (N : Nat) : Prop := va_P G.1 vwCl (Wo ad E N) H ∧ va_D A (Wo ad E N) ∧ va_S A H0 H locs
abbrev eI (G : vG) (n : Nat) (f : Nat → Int32) : va_E := .inl (G.2 0, n, .inl f)
abbrev eJ (G : vG) (n : Nat) (f : Nat → Int64) : va_E := .inl (G.2 1, n, .inr (.inl f))
abbrev eZ (G : vG) (n : Nat) (f : Nat → Int32) : va_E := .inl (G.2 2, n, .inl f)
abbrev eR (G : vG) (n : Nat) (f : Nat → Option Nat) : va_E := .inl (G.2 3, n, .inr (.inr (.inr (.inr f))))
abbrev QI (below : List Frame) (args : Array Value) (s : State) (G : vG) (ad : Nat → Nat) (N : Nat) (A : Nat → Prop) (post : Int32 → (Nat → va_E) → Prop) : State → Prop := MQ below (va_Qi post (fun E2 t => wO G ad E2 N A t) A) args s 0 0 A
abbrev QV (below : List Frame) (args : Array Value) (s : State) (G : vG) (ad : Nat → Nat) (N : Nat) (A : Nat → Prop) (post : (Nat → va_E) → Prop) : State → Prop := MQ below (va_Qv post (fun E2 t => wO G ad E2 N A t) A) args s 0 0 A
theorem wI.blind {G : vG} {tC : Nat} {ad : Nat → Nat} {E : Nat → va_E} {N sz : Nat} (av : List Value) : FrameBlind (va_Pc av (wI G tC ad E N sz)) := by
  intro a U g mk q
  obtain ⟨q0, q1, q2, q3, ⟨q4, n1, n2, n3, n4, n5⟩, q5, q6⟩ := q
  have hv : U.vm.Alike (U.calling g mk a).vm := Vm.Alike.refl U.vm
  have hn : ∀ {w : Cond}, w.onTables = true → va_Nw w U → va_Nw w (U.calling g mk a) := fun hw h => va_Nw.same hw (rfl : U.vm = (U.calling g mk a).vm) h
  exact ⟨q0, q1, q2, q3, ⟨va_K.moved hv q4, hn rfl n1, hn rfl n2, hn rfl n3, hn rfl n4, hn rfl n5⟩, va_Z.moved hv q5, va_T.moved hv q6⟩
theorem wA.in {A : Nat → Prop} {ad : Nat → Nat} {E : Nat → va_E} {N : Nat} {H0 H : Heap} {locs : List Loc} (hD : va_D A (Wo ad E N)) (hS : va_S A H0 H locs) (hA : ∀ q, H0.size ≤ q → A q) : ∀ q, va_A (Wo ad E N) H.size q → A q := by
  intro q h
  rcases h with ⟨k, x, h⟩ | h
  · exact hD.2 k (q, x) h
  · exact hA q (Nat.le_trans hS.1 h)
theorem wI.of {s : State} {G : vG} {tC : Nat} {A : Nat → Prop} {ad : Nat → Nat} {E : Nat → va_E} {N : Nat} {H : Heap} {locs : List Loc} (hU : wU G s) (hst : stat tC A s s.heap) (hA : ∀ q, s.heap.size ≤ q → A q) (hw : Wd G A s.heap H locs ad E N) (U : State) (hH : U.heap = H) (hW : s.WarmedH U.vm) : wI G tC ad E N H.size U := by
  obtain ⟨hP, hD, hS⟩ := hw
  obtain ⟨hK, n1, n2, n3, n4, n5⟩ := hU
  have hAB := wA.in hD hS hA
  subst hH
  refine ⟨rfl, hP, hD.weaken (fun _ _ _ _ => trivial), ⟨va_K.moved hW.alike hK, va_Nw.warmM hW n1, va_Nw.warmM hW n2, va_Nw.warmM hW n3, va_Nw.warmM hW n4, va_Nw.warmM hW n5⟩, ?_, ?_⟩
  · exact va_Z.moved hW.alike ((hst.1.kept hS.2.1).narrow hAB)
  · exact va_T.moved hW.alike ((hst.2.kept hS.2.1).narrow hAB)
section R10
variable {p : Program} {l : Launch} {e : Env} {R : Room} {s : State} {m : MethodId} {args : Array Value} {below : List Frame} {meth : Method} {c : Code} {H : Heap} {locs : List Loc} {cells slots : Nat} {Q : State → Prop}
variable {cc : ByteArray} {pc nL : Nat} {ret : Option FieldType} {ls : Array Slot} {st rest : List Value} {Ts : List Cond} {own : String} {G : vG} {tC : Nat} {A : Nat → Prop} {ad : Nat → Nat} {E : Nat → va_E} {N : Nat}
theorem r_get (C : Cx p s m meth c args cc nL ret Ts own G tC A) (hw : Wd G A s.heap H locs ad E N) (Cn : String) (T : u_T) (n ci : Nat) {index : Nat} (hin : ∀ w ∈ u_ws Cn T n, w ∈ Ts) {i : Nat} (hi : i < N) {fs : List Value} (hE : E i = .inr (ci, fs)) (hc : vwCl[ci]? = some (Cn, T, n)) (k : Nat) (hk : k < n) (hl : Cond.fieldLink own index Cn (T k).2.1 (T k).2.2.1 ∈ Ts) (h1 : (T k).1 = Cn) {v : Value} (hv : fs[k]? = some v) (hdg : decode cc pc = .ok (.getfield index, 3))
    (kk : W p l e R s m args below meth c H locs cells slots Q (F0 m (pc + 3) ls (v :: rest))) : W p l e R s m args below meth c H locs cells slots Q (F0 m pc ls (.ref (ad i) :: rest)) := by
  obtain ⟨hx, hb, hr, hml, hown, hts, hU, hst, hA, hlk⟩ := C
  exact va_get hx hb hts hin hown hU.1 hw.1 i (by rw [Wo_get hi, hE]) hc k hk (hts _ hl) (by rw [h1]; exact fun _ h => h) hv hdg kk
theorem r_put (C : Cx p s m meth c args cc nL ret Ts own G tC A) (hw : Wd G A s.heap H locs ad E N) (Cn : String) (T : u_T) (n ci : Nat) {index : Nat} (hin : ∀ w ∈ u_ws Cn T n, w ∈ Ts) (ty0 : Nat → FieldType) (hty : ∀ k, k < n → parseFieldDescriptor (T k).2.2.1 = some (ty0 k)) (hnm : ∀ a, a < n → ∀ b, b < n → a ≠ b → (T a).2.1 ≠ (T b).2.1) {i : Nat} (hi : i < N) {fs : List Value} (hE : E i = .inr (ci, fs)) (hc : vwCl[ci]? = some (Cn, T, n)) (k : Nat) (hk : k < n) (hl : Cond.fieldLink own index Cn (T k).2.1 (T k).2.2.1 ∈ Ts) (h1 : (T k).1 = Cn) (hfin : (T k).2.2.2 = false) {v : Value} (hn : narrow (ty0 k) v = v) (hfit : fits (ty0 k) v = true) (hlen : k < fs.length) (hdg : decode cc pc = .ok (.putfield index, 3))
    (kk : ∀ (E2 : Nat → va_E) (H1 : Heap) (locs1 : List Loc), E2 i = .inr (ci, fs.set k v) → (∀ j, j ≠ i → E2 j = E j) → Wd G A s.heap H1 locs1 ad E2 N → W p l e R s m args below meth c H1 locs1 cells slots Q (F0 m (pc + 3) ls rest)) : W p l e R s m args below meth c H locs cells slots Q (F0 m pc ls (v :: .ref (ad i) :: rest)) := by
  obtain ⟨hx, hb, hr, hml, hown, hts, hU, hst, hA, hlk⟩ := C
  refine va_put hx hb hts hin ty0 hty hnm hown hU.1 hw.1 hw.2.1 hw.2.2 i (by rw [Wo_get hi, hE]) hc k hk (hts _ hl) (by rw [h1]; exact fun _ h => h) hfin (hty k hk) hn hfit hlen hdg (fun H1 locs1 g1 g2 g3 => ?_)
  rw [Wo_set hi] at g1 g2
  exact kk _ H1 locs1 (up_s _ _ _) (fun j hj => up_n _ _ hj) ⟨g1, g2, g3⟩
theorem r_putF (C : Cx p s m meth c args cc nL ret Ts own G tC A) (hnam : meth.name = "<init>") (hw : Wd G A s.heap H locs ad E N) (Cn : String) (T : u_T) (n ci : Nat) {index : Nat} (hin : ∀ w ∈ u_ws Cn T n, w ∈ Ts) (ty0 : Nat → FieldType) (hty : ∀ k, k < n → parseFieldDescriptor (T k).2.2.1 = some (ty0 k)) (hnm : ∀ a, a < n → ∀ b, b < n → a ≠ b → (T a).2.1 ≠ (T b).2.1) {i : Nat} (hi : i < N) {fs : List Value} (hE : E i = .inr (ci, fs)) (hc : vwCl[ci]? = some (Cn, T, n)) (k : Nat) (hk : k < n) (hl : Cond.fieldLink own index Cn (T k).2.1 (T k).2.2.1 ∈ Ts) (h1 : (T k).1 = Cn) (h2 : (T k).1 = own) (hfin : (T k).2.2.2 = true) {v : Value} (hn : narrow (ty0 k) v = v) (hfit : fits (ty0 k) v = true) (hlen : k < fs.length) (hdg : decode cc pc = .ok (.putfield index, 3))
    (kk : ∀ (E2 : Nat → va_E) (H1 : Heap) (locs1 : List Loc), E2 i = .inr (ci, fs.set k v) → (∀ j, j ≠ i → E2 j = E j) → Wd G A s.heap H1 locs1 ad E2 N → W p l e R s m args below meth c H1 locs1 cells slots Q (F0 m (pc + 3) ls rest)) : W p l e R s m args below meth c H locs cells slots Q (F0 m pc ls (v :: .ref (ad i) :: rest)) := by
  obtain ⟨hx, hb, hr, hml, hown, hts, hU, hst, hA, hlk⟩ := C
  refine va_putF hx hb hts hin ty0 hty hnm hown hU.1 hw.1 hw.2.1 hw.2.2 i (by rw [Wo_get hi, hE]) hc k hk (hts _ hl) (by rw [h1]; exact fun _ h => h) hfin hnam h2 (hty k hk) hn hfit hlen hdg (fun H1 locs1 g1 g2 g3 => ?_)
  rw [Wo_set hi] at g1 g2
  exact kk _ H1 locs1 (up_s _ _ _) (fun j hj => up_n _ _ hj) ⟨g1, g2, g3⟩
theorem r_iald (C : Cx p s m meth c args cc nL ret Ts own G tC A) (hw : Wd G A s.heap H locs ad E N) {i : Nat} (hi : i < N) {n : Nat} {f : Nat → Int32} (hE : E i = eI G n f) {x : Int32} (hin : vp_in x n) (hdg : decode cc pc = .ok (.iaload, 1))
    (kk : W p l e R s m args below meth c H locs cells slots Q (F0 m (pc + 1) ls (.int (f x.toNatClampNeg) :: rest))) : W p l e R s m args below meth c H locs cells slots Q (F0 m pc ls (.int x :: .ref (ad i) :: rest)) := by
  obtain ⟨hx, hb, hr, hml, hown, hts, hU, hst, hA, hlk⟩ := C
  exact va_iald hx hb hU.1 hw.1 i 0 (by rw [Wo_get hi, hE]) rfl hin hdg kk
/-- an index by its number -/
theorem r_iaN (C : Cx p s m meth c args cc nL ret Ts own G tC A) (hw : Wd G A s.heap H locs ad E N) {i : Nat} (hi : i < N) {n : Nat} {f : Nat → Int32} (hE : E i = eI G n f) {j : Nat} (hj : j < n) (hn : n < 2147483648) (hdg : decode cc pc = .ok (.iaload, 1))
    (kk : W p l e R s m args below meth c H locs cells slots Q (F0 m (pc + 1) ls (.int (f j) :: rest))) : W p l e R s m args below meth c H locs cells slots Q (F0 m pc ls (.int (nI j) :: .ref (ad i) :: rest)) := by
  refine r_iald C hw hi hE (vp_in_nI hj hn) hdg ?_
  rw [nI_clamp (Nat.lt_trans hj hn)]
  exact kk
theorem r_zaN (C : Cx p s m meth c args cc nL ret Ts own G tC A) (hw : Wd G A s.heap H locs ad E N) {i : Nat} (hi : i < N) {n : Nat} {f : Nat → Int32} (hE : E i = eZ G n f) {j : Nat} (hj : j < n) (hn : n < 2147483648) (hdg : decode cc pc = .ok (.baload, 1))
    (kk : W p l e R s m args below meth c H locs cells slots Q (F0 m (pc + 1) ls (.int (f j) :: rest))) : W p l e R s m args below meth c H locs cells slots Q (F0 m pc ls (.int (nI j) :: .ref (ad i) :: rest)) := by
  obtain ⟨hx, hb, hr, hml, hown, hts, hU, hst, hA, hlk⟩ := C
  refine va_zald hx hb hU.1 hw.1 i 2 (by rw [Wo_get hi, hE]) rfl (vp_in_nI hj hn) hdg ?_
  rw [nI_clamp (Nat.lt_trans hj hn)]
  exact kk
theorem r_laN (C : Cx p s m meth c args cc nL ret Ts own G tC A) (hw : Wd G A s.heap H locs ad E N) {i : Nat} (hi : i < N) {n : Nat} {f : Nat → Int64} (hE : E i = eJ G n f) {j : Nat} (hj : j < n) (hn : n < 2147483648) (hdg : decode cc pc = .ok (.laload, 1))
    (kk : W p l e R s m args below meth c H locs cells slots Q (F0 m (pc + 1) ls (.long (f j) :: rest))) : W p l e R s m args below meth c H locs cells slots Q (F0 m pc ls (.int (nI j) :: .ref (ad i) :: rest)) := by
  obtain ⟨hx, hb, hr, hml, hown, hts, hU, hst, hA, hlk⟩ := C
  refine va_lald hx hb hU.1 hw.1 i 1 (by rw [Wo_get hi, hE]) rfl (vp_in_nI hj hn) hdg ?_
  rw [nI_clamp (Nat.lt_trans hj hn)]
  exact kk
theorem r_raN (C : Cx p s m meth c args cc nL ret Ts own G tC A) (hw : Wd G A s.heap H locs ad E N) {i : Nat} (hi : i < N) {n : Nat} {f : Nat → Option Nat} (hE : E i = eR G n f) {j : Nat} (hj : j < n) (hn : n < 2147483648) {a : Nat} (hf : f j = some a) (hdg : decode cc pc = .ok (.aaload, 1))
    (kk : W p l e R s m args below meth c H locs cells slots Q (F0 m (pc + 1) ls (.ref a :: rest))) : W p l e R s m args below meth c H locs cells slots Q (F0 m pc ls (.int (nI j) :: .ref (ad i) :: rest)) := by
  obtain ⟨hx, hb, hr, hml, hown, hts, hU, hst, hA, hlk⟩ := C
  refine va_aldq hx hb hU.1 hw.1 i 3 (by rw [Wo_get hi, hE]) rfl (vp_in_nI hj hn) hdg ?_
  rw [nI_clamp (Nat.lt_trans hj hn), hf]
  exact kk
theorem r_iasN (C : Cx p s m meth c args cc nL ret Ts own G tC A) (hw : Wd G A s.heap H locs ad E N) {i : Nat} (hi : i < N) {n : Nat} {f : Nat → Int32} (hE : E i = eI G n f) {j : Nat} (hj : j < n) (hn : n < 2147483648) {v : Int32} (hdg : decode cc pc = .ok (.iastore, 1))
    (kk : ∀ (E2 : Nat → va_E) (H1 : Heap) (locs1 : List Loc), E2 i = eI G n (upd f j v) → (∀ j, j ≠ i → E2 j = E j) → Wd G A s.heap H1 locs1 ad E2 N → W p l e R s m args below meth c H1 locs1 cells slots Q (F0 m (pc + 1) ls rest)) : W p l e R s m args below meth c H locs cells slots Q (F0 m pc ls (.int v :: .int (nI j) :: .ref (ad i) :: rest)) := by
  obtain ⟨hx, hb, hr, hml, hown, hts, hU, hst, hA, hlk⟩ := C
  refine va_iast hx hb hU.1 hw.1 hw.2.1 hw.2.2 i 0 (by rw [Wo_get hi, hE]) rfl (vp_in_nI hj hn) hdg (fun H1 locs1 g1 g2 g3 => ?_)
  rw [Wo_set hi, nI_clamp (Nat.lt_trans hj hn)] at g1 g2
  exact kk _ H1 locs1 (up_s _ _ _) (fun j hj => up_n _ _ hj) ⟨g1, g2, g3⟩
theorem r_zasN (C : Cx p s m meth c args cc nL ret Ts own G tC A) (hw : Wd G A s.heap H locs ad E N) {i : Nat} (hi : i < N) {n : Nat} {f : Nat → Int32} (hE : E i = eZ G n f) {j : Nat} (hj : j < n) (hn : n < 2147483648) {v : Int32} (hdg : decode cc pc = .ok (.bastore, 1))
    (kk : ∀ (E2 : Nat → va_E) (H1 : Heap) (locs1 : List Loc), E2 i = eZ G n (upd f j (vp_nar .boolean v)) → (∀ j, j ≠ i → E2 j = E j) → Wd G A s.heap H1 locs1 ad E2 N → W p l e R s m args below meth c H1 locs1 cells slots Q (F0 m (pc + 1) ls rest)) : W p l e R s m args below meth c H locs cells slots Q (F0 m pc ls (.int v :: .int (nI j) :: .ref (ad i) :: rest)) := by
  obtain ⟨hx, hb, hr, hml, hown, hts, hU, hst, hA, hlk⟩ := C
  refine va_zast hx hb hU.1 hw.1 hw.2.1 hw.2.2 i 2 (by rw [Wo_get hi, hE]) rfl (vp_in_nI hj hn) hdg (fun H1 locs1 g1 g2 g3 => ?_)
  rw [Wo_set hi, nI_clamp (Nat.lt_trans hj hn)] at g1 g2
  exact kk _ H1 locs1 (up_s _ _ _) (fun j hj => up_n _ _ hj) ⟨g1, g2, g3⟩
theorem r_lasN (C : Cx p s m meth c args cc nL ret Ts own G tC A) (hw : Wd G A s.heap H locs ad E N) {i : Nat} (hi : i < N) {n : Nat} {f : Nat → Int64} (hE : E i = eJ G n f) {j : Nat} (hj : j < n) (hn : n < 2147483648) {v : Int64} (hdg : decode cc pc = .ok (.lastore, 1))
    (kk : ∀ (E2 : Nat → va_E) (H1 : Heap) (locs1 : List Loc), E2 i = eJ G n (vp_updL f j v) → (∀ j, j ≠ i → E2 j = E j) → Wd G A s.heap H1 locs1 ad E2 N → W p l e R s m args below meth c H1 locs1 cells slots Q (F0 m (pc + 1) ls rest)) : W p l e R s m args below meth c H locs cells slots Q (F0 m pc ls (.long v :: .int (nI j) :: .ref (ad i) :: rest)) := by
  obtain ⟨hx, hb, hr, hml, hown, hts, hU, hst, hA, hlk⟩ := C
  refine va_last hx hb hU.1 hw.1 hw.2.1 hw.2.2 i 1 (by rw [Wo_get hi, hE]) rfl (vp_in_nI hj hn) hdg (fun H1 locs1 g1 g2 g3 => ?_)
  rw [Wo_set hi, nI_clamp (Nat.lt_trans hj hn)] at g1 g2
  exact kk _ H1 locs1 (up_s _ _ _) (fun j hj => up_n _ _ hj) ⟨g1, g2, g3⟩
theorem r_alenI (C : Cx p s m meth c args cc nL ret Ts own G tC A) (hw : Wd G A s.heap H locs ad E N) {i : Nat} (hi : i < N) {n : Nat} {f : Nat → Int32} (hE : E i = eI G n f) (hdg : decode cc pc = .ok (.arraylength, 1))
    (kk : W p l e R s m args below meth c H locs cells slots Q (F0 m (pc + 1) ls (.int (nI n) :: rest))) : W p l e R s m args below meth c H locs cells slots Q (F0 m pc ls (.ref (ad i) :: rest)) := by
  obtain ⟨hx, hb, hr, hml, hown, hts, hU, hst, hA, hlk⟩ := C
  exact va_alen (x := (n, .inl f)) hx hb hU.1 hw.1 i 0 (by rw [Wo_get hi, hE]) rfl rfl hdg kk
/-- the table of codes -/
theorem r_codes (C : Cx p s m meth c args cc nL ret Ts own G tC A) (hw : Wd G A s.heap H locs ad E N) {index : Nat} (hl : Cond.fieldLink own index RX1 "CODES" "[I" ∈ Ts) (hdg : decode cc pc = .ok (.getstatic index, 3))
    (kk : W p l e R s m args below meth c H locs cells slots Q (F0 m (pc + 3) ls (.ref tC :: rest))) : W p l e R s m args below meth c H locs cells slots Q (F0 m pc ls rest) := by
  obtain ⟨hx, hb, hr, hml, hown, hts, hU, hst, hA, hlk⟩ := C
  exact va_gets hx hb hst.1 hw.2.2 hown (hts _ hl) (fun _ h => h) hdg kk
theorem r_codeN (C : Cx p s m meth c args cc nL ret Ts own G tC A) (hw : Wd G A s.heap H locs ad E N) {j : Nat} (hj : j < 16) (hdg : decode cc pc = .ok (.iaload, 1))
    (kk : W p l e R s m args below meth c H locs cells slots Q (F0 m (pc + 1) ls (.int (codeT j) :: rest))) : W p l e R s m args below meth c H locs cells slots Q (F0 m pc ls (.int (nI j) :: .ref tC :: rest)) := by
  obtain ⟨hx, hb, hr, hml, hown, hts, hU, hst, hA, hlk⟩ := C
  refine va_ti hx hb hst.2 hw.2.2 (vp_in_nI hj (by omega)) (v := .int (codeT j)) (by rw [nI_clamp (by omega)]) hdg kk
theorem r_codeL (C : Cx p s m meth c args cc nL ret Ts own G tC A) (hw : Wd G A s.heap H locs ad E N) (hdg : decode cc pc = .ok (.arraylength, 1))
    (kk : W p l e R s m args below meth c H locs cells slots Q (F0 m (pc + 1) ls (.int (nI 16) :: rest))) : W p l e R s m args below meth c H locs cells slots Q (F0 m pc ls (.ref tC :: rest)) := by
  obtain ⟨hx, hb, hr, hml, hown, hts, hU, hst, hA, hlk⟩ := C
  exact va_tlen hx hb hst.2 hw.2.2 rfl hdg kk
/-- an int on the stack by its number -/
theorem r_nat {x : Int32} (n : Nat) (h : x = nI n) (kk : W p l e R s m args below meth c H locs cells slots Q (F0 m pc ls (.int (nI n) :: rest))) : W p l e R s m args below meth c H locs cells slots Q (F0 m pc ls (.int x :: rest)) := by
  rw [h]; exact kk
theorem r_as {x : Int32} (y : Int32) (h : x = y) (kk : W p l e R s m args below meth c H locs cells slots Q (F0 m pc ls (.int y :: rest))) : W p l e R s m args below meth c H locs cells slots Q (F0 m pc ls (.int x :: rest)) := by
  rw [h]; exact kk
/-- ends -/
theorem r_iret (C : Cx p s m meth c args cc nL (some .int) Ts own G tC A) (hw : Wd G A s.heap H locs ad E N) {v : Int32} {post : Int32 → (Nat → va_E) → Prop} (hdg : decode cc pc = .ok (.ireturn, 1)) (hp : post v E) : W p l e R s m args below meth c H locs 0 0 (QI below args s G ad N A post) (F0 m pc ls [.int v]) := by
  obtain ⟨hx, hb, hr, hml, hown, hts, hU, hst, hA, hlk⟩ := C
  exact W.iret (v := v) hx hb hr (fun t ht hW => ⟨⟨v, E, rfl, hp, by rw [ht]; exact hw.1, hw.2.1⟩, hw.2.2.F ht⟩) hw.2.2.2.2 hdg hlk
theorem r_zret (C : Cx p s m meth c args cc nL (some .boolean) Ts own G tC A) (hw : Wd G A s.heap H locs ad E N) {v : Int32} {post : Int32 → (Nat → va_E) → Prop} (hdg : decode cc pc = .ok (.ireturn, 1)) (hn : v = 0 ∨ v = 1) (hp : post v E) : W p l e R s m args below meth c H locs 0 0 (QI below args s G ad N A post) (F0 m pc ls [.int v]) := by
  obtain ⟨hx, hb, hr, hml, hown, hts, hU, hst, hA, hlk⟩ := C
  exact W.zret (v := v) hx hb hr (by rcases hn with rfl | rfl <;> rfl) (fun t ht hW => ⟨⟨v, E, rfl, hp, by rw [ht]; exact hw.1, hw.2.1⟩, hw.2.2.F ht⟩) hw.2.2.2.2 hdg hlk
theorem r_vret (C : Cx p s m meth c args cc nL none Ts own G tC A) (hw : Wd G A s.heap H locs ad E N) {post : (Nat → va_E) → Prop} (hdg : decode cc pc = .ok (.return_, 1)) (hp : post E) : W p l e R s m args below meth c H locs 0 0 (QV below args s G ad N A post) (F0 m pc ls []) := by
  obtain ⟨hx, hb, hr, hml, hown, hts, hU, hst, hA, hlk⟩ := C
  exact W.vret hx hb hr (fun t ht hW => ⟨⟨E, rfl, hp, by rw [ht]; exact hw.1, hw.2.1⟩, hw.2.2.F ht⟩) hw.2.2.2.2 hdg hlk
/-- behind a call -/
theorem r_backI (C : Cx p s m meth c args cc nL ret Ts own G tC A) (hw : Wd G A s.heap H locs ad E N) {post : Int32 → (Nat → va_E) → Prop} {st0 : List Value} {a : Array Value}
    (hr : va_Run p l e R s m args below meth c H locs cells slots 0 0 (F0 m pc ls st0) rest (va_Qi post (fun E2 t => wO G ad E2 N (va_A (Wo ad E N) H.size) t) (va_A (Wo ad E N) H.size) a) (va_A (Wo ad E N) H.size))
    (kk : ∀ (r : Int32) (E2 : Nat → va_E) (H1 : Heap) (locs1 : List Loc), post r E2 → Wd G A s.heap H1 locs1 ad E2 N → W p l e R s m args below meth c H1 locs1 cells slots Q (F0 m (pc + 3) ls (.int r :: rest))) : W p l e R s m args below meth c H locs cells slots Q (F0 m pc ls st0) := by
  have hAB := wA.in hw.2.1 hw.2.2 C.2.2.2.2.2.2.2.2.1
  refine va_calli hr hw.2.2 (fun q _ h => hAB q h) hAB (fun r E2 t H1 locs1 ht hvm hp hB hz hk hS => ?_)
  exact kk r E2 H1 locs1 hp ⟨by rw [← ht]; exact hB.1, hB.2.weaken (fun _ q _ h => hAB q.1 h), hS⟩
theorem r_backV (C : Cx p s m meth c args cc nL ret Ts own G tC A) (hw : Wd G A s.heap H locs ad E N) {post : (Nat → va_E) → Prop} {st0 : List Value} {a : Array Value}
    (hr : va_Run p l e R s m args below meth c H locs cells slots 0 0 (F0 m pc ls st0) rest (va_Qv post (fun E2 t => wO G ad E2 N (va_A (Wo ad E N) H.size) t) (va_A (Wo ad E N) H.size) a) (va_A (Wo ad E N) H.size))
    (kk : ∀ (E2 : Nat → va_E) (H1 : Heap) (locs1 : List Loc), post E2 → Wd G A s.heap H1 locs1 ad E2 N → W p l e R s m args below meth c H1 locs1 cells slots Q (F0 m (pc + 3) ls rest)) : W p l e R s m args below meth c H locs cells slots Q (F0 m pc ls st0) := by
  have hAB := wA.in hw.2.1 hw.2.2 C.2.2.2.2.2.2.2.2.1
  refine va_callv hr hw.2.2 (fun q _ h => hAB q h) hAB (fun E2 t H1 locs1 ht hvm hp hB hz hk hS => ?_)
  exact kk E2 H1 locs1 hp ⟨by rw [← ht]; exact hB.1, hB.2.weaken (fun _ q _ h => hAB q.1 h), hS⟩
/-- calls: of a method of an object, of a static one, of a nest mate's static one -/
theorem r_vI (C : Cx p s m meth c args cc nL ret Ts own G tC A) (hw : Wd G A s.heap H locs ad E N) (hsz : ls.size = nL) {i : Nat} (hi : i < N) {ci : Nat} {fs : List Value} (hE : E i = .inr (ci, fs)) {Cn : String} {T : u_T} {n : Nat} (hc : vwCl[ci]? = some (Cn, T, n)) {y : MethodName} {ws ws' : List Cond} {rm : Room} {post : Int32 → (Nat → va_E) → Prop} (As : List Value) (nn : Nat) (hnn : As.length = nn) (hM : MI l y ws rm G tC ad N E (.ref (ad i) :: As) post) {index maxL : Nat} {bytes : ByteArray} {rt : Option FieldType} (hg : GoodIn Ts (wsV own index Cn y ws)) (hws : ws = .code y bytes maxL rt :: ws') (hrm : rm.cells = 0 ∧ rm.slots = 0)
    (hd : y.cls = Cn ∧ y.cls ≠ "java/lang/invoke/MethodHandle" ∧ y.cls ≠ "java/lang/invoke/VarHandle" ∧ (parseMethodDescriptor y.desc).map (fun d => d.parameters.length) = some nn) (hR : rm.frames + 1 ≤ R.frames ∧ 8 + (maxL + 11) + rm.locals ≤ R.locals) (hst : st = As.reverse ++ .ref (ad i) :: rest) (hrest : (rest.map fun v => v.category).sum ≤ 8) (hdg : decode cc pc = .ok (.invokevirtual index, 3)) (hf : cells ≤ R.cells ∧ slots ≤ R.slots)
    (kk : ∀ (r : Int32) (E2 : Nat → va_E) (H1 : Heap) (locs1 : List Loc), post r E2 → Wd G A s.heap H1 locs1 ad E2 N → W p l e R s m args below meth c H1 locs1 cells slots Q (F0 m (pc + 3) ls (.int r :: rest))) : W p l e R s m args below meth c H locs cells slots Q (F0 m pc ls st) := by
  have C' := C
  obtain ⟨hx, hb, hr, hml, hown, hts, hU, hstt, hA, hlk⟩ := C
  refine r_backI C' hw (va_runV (As := As) (rest := rest) ⟨hx, hb, hml, hown, hts⟩ (hM H.size) (cwV nn hts hg hws hrm.1 hrm.2 hd hR) ⟨wI.blind _, va_recv hU.1 hw.1 hc (by rw [Wo_get hi, hE]), fun U hH hW => ⟨rfl, wI.of hU hstt hA hw U hH hW⟩⟩ rfl hnn hsz hst (lv_room hrest) hdg hf) kk
theorem r_vV (C : Cx p s m meth c args cc nL ret Ts own G tC A) (hw : Wd G A s.heap H locs ad E N) (hsz : ls.size = nL) {i : Nat} (hi : i < N) {ci : Nat} {fs : List Value} (hE : E i = .inr (ci, fs)) {Cn : String} {T : u_T} {n : Nat} (hc : vwCl[ci]? = some (Cn, T, n)) {y : MethodName} {ws ws' : List Cond} {rm : Room} {post : (Nat → va_E) → Prop} (As : List Value) (nn : Nat) (hnn : As.length = nn) (hM : MV l y ws rm G tC ad N E (.ref (ad i) :: As) post) {index maxL : Nat} {bytes : ByteArray} {rt : Option FieldType} (hg : GoodIn Ts (wsV own index Cn y ws)) (hws : ws = .code y bytes maxL rt :: ws') (hrm : rm.cells = 0 ∧ rm.slots = 0)
    (hd : y.cls = Cn ∧ y.cls ≠ "java/lang/invoke/MethodHandle" ∧ y.cls ≠ "java/lang/invoke/VarHandle" ∧ (parseMethodDescriptor y.desc).map (fun d => d.parameters.length) = some nn) (hR : rm.frames + 1 ≤ R.frames ∧ 8 + (maxL + 11) + rm.locals ≤ R.locals) (hst : st = As.reverse ++ .ref (ad i) :: rest) (hrest : (rest.map fun v => v.category).sum ≤ 8) (hdg : decode cc pc = .ok (.invokevirtual index, 3)) (hf : cells ≤ R.cells ∧ slots ≤ R.slots)
    (kk : ∀ (E2 : Nat → va_E) (H1 : Heap) (locs1 : List Loc), post E2 → Wd G A s.heap H1 locs1 ad E2 N → W p l e R s m args below meth c H1 locs1 cells slots Q (F0 m (pc + 3) ls rest)) : W p l e R s m args below meth c H locs cells slots Q (F0 m pc ls st) := by
  have C' := C
  obtain ⟨hx, hb, hr, hml, hown, hts, hU, hstt, hA, hlk⟩ := C
  refine r_backV C' hw (va_runV (As := As) (rest := rest) ⟨hx, hb, hml, hown, hts⟩ (hM H.size) (cwV nn hts hg hws hrm.1 hrm.2 hd hR) ⟨wI.blind _, va_recv hU.1 hw.1 hc (by rw [Wo_get hi, hE]), fun U hH hW => ⟨rfl, wI.of hU hstt hA hw U hH hW⟩⟩ rfl hnn hsz hst (lv_room hrest) hdg hf) kk
theorem r_sI (C : Cx p s m meth c args cc nL ret Ts own G tC A) (hw : Wd G A s.heap H locs ad E N) (hsz : ls.size = nL) {y : MethodName} {ws ws' : List Cond} {rm : Room} {post : Int32 → (Nat → va_E) → Prop} (As : List Value) (nn : Nat) (hnn : As.length = nn) (hM : MI l y ws rm G tC ad N E As post) {index maxL : Nat} {bytes : ByteArray} {rt : Option FieldType} (hg : GoodIn Ts (va_wsS own index y ws)) (hws : ws = .code y bytes maxL rt :: ws') (hrm : rm.cells = 0 ∧ rm.slots = 0)
    (hd : y.cls ≠ "java/lang/invoke/MethodHandle" ∧ y.cls ≠ "java/lang/invoke/VarHandle" ∧ (parseMethodDescriptor y.desc).map (fun d => d.parameters.length) = some nn) (hR : rm.frames + 1 ≤ R.frames ∧ 8 + (maxL + 11) + rm.locals ≤ R.locals) (hst : st = As.reverse ++ rest) (hrest : (rest.map fun v => v.category).sum ≤ 8) (hdg : decode cc pc = .ok (.invokestatic index, 3)) (hf : cells ≤ R.cells ∧ slots ≤ R.slots)
    (kk : ∀ (r : Int32) (E2 : Nat → va_E) (H1 : Heap) (locs1 : List Loc), post r E2 → Wd G A s.heap H1 locs1 ad E2 N → W p l e R s m args below meth c H1 locs1 cells slots Q (F0 m (pc + 3) ls (.int r :: rest))) : W p l e R s m args below meth c H locs cells slots Q (F0 m pc ls st) := by
  have C' := C
  obtain ⟨hx, hb, hr, hml, hown, hts, hU, hstt, hA, hlk⟩ := C
  refine r_backI C' hw (va_runS (As := As) (rest := rest) ⟨hx, hb, hml, hown, hts⟩ (hM H.size) (va_cwS nn hts hg hws hrm.1 hrm.2 hd hR) ⟨wI.blind _, fun U hH hW => ⟨rfl, wI.of hU hstt hA hw U hH hW⟩⟩ rfl hnn hsz hst (lv_room hrest) hdg hf) kk
theorem r_sV (C : Cx p s m meth c args cc nL ret Ts own G tC A) (hw : Wd G A s.heap H locs ad E N) (hsz : ls.size = nL) {y : MethodName} {ws ws' : List Cond} {rm : Room} {post : (Nat → va_E) → Prop} (As : List Value) (nn : Nat) (hnn : As.length = nn) (hM : MV l y ws rm G tC ad N E As post) {index maxL : Nat} {bytes : ByteArray} {rt : Option FieldType} (hg : GoodIn Ts (va_wsS own index y ws)) (hws : ws = .code y bytes maxL rt :: ws') (hrm : rm.cells = 0 ∧ rm.slots = 0)
    (hd : y.cls ≠ "java/lang/invoke/MethodHandle" ∧ y.cls ≠ "java/lang/invoke/VarHandle" ∧ (parseMethodDescriptor y.desc).map (fun d => d.parameters.length) = some nn) (hR : rm.frames + 1 ≤ R.frames ∧ 8 + (maxL + 11) + rm.locals ≤ R.locals) (hst : st = As.reverse ++ rest) (hrest : (rest.map fun v => v.category).sum ≤ 8) (hdg : decode cc pc = .ok (.invokestatic index, 3)) (hf : cells ≤ R.cells ∧ slots ≤ R.slots)
    (kk : ∀ (E2 : Nat → va_E) (H1 : Heap) (locs1 : List Loc), post E2 → Wd G A s.heap H1 locs1 ad E2 N → W p l e R s m args below meth c H1 locs1 cells slots Q (F0 m (pc + 3) ls rest)) : W p l e R s m args below meth c H locs cells slots Q (F0 m pc ls st) := by
  have C' := C
  obtain ⟨hx, hb, hr, hml, hown, hts, hU, hstt, hA, hlk⟩ := C
  refine r_backV C' hw (va_runS (As := As) (rest := rest) ⟨hx, hb, hml, hown, hts⟩ (hM H.size) (va_cwS nn hts hg hws hrm.1 hrm.2 hd hR) ⟨wI.blind _, fun U hH hW => ⟨rfl, wI.of hU hstt hA hw U hH hW⟩⟩ rfl hnn hsz hst (lv_room hrest) hdg hf) kk
theorem r_nI (C : Cx p s m meth c args cc nL ret Ts own G tC A) (hw : Wd G A s.heap H locs ad E N) (hsz : ls.size = nL) {y : MethodName} {ws ws' : List Cond} {rm : Room} {post : Int32 → (Nat → va_E) → Prop} (As : List Value) (nn : Nat) (hnn : As.length = nn) (hM : MI l y ws rm G tC ad N E As post) {index maxL : Nat} {bytes : ByteArray} {rt : Option FieldType} {host : String} (hn : va_Nw (.methodLinkNest own index y host) s) (hg : GoodIn Ts ws) (hws : ws = .code y bytes maxL rt :: ws') (hrm : rm.cells = 0 ∧ rm.slots = 0) (hstat : Cond.static y ∈ Ts) (hini : Cond.initialized y.cls ∈ Ts)
    (hd : y.cls ≠ "java/lang/invoke/MethodHandle" ∧ y.cls ≠ "java/lang/invoke/VarHandle" ∧ (parseMethodDescriptor y.desc).map (fun d => d.parameters.length) = some nn) (hR : rm.frames + 1 ≤ R.frames ∧ 8 + (maxL + 11) + rm.locals ≤ R.locals) (hst : st = As.reverse ++ rest) (hrest : (rest.map fun v => v.category).sum ≤ 8) (hdg : decode cc pc = .ok (.invokestatic index, 3)) (hf : cells ≤ R.cells ∧ slots ≤ R.slots)
    (kk : ∀ (r : Int32) (E2 : Nat → va_E) (H1 : Heap) (locs1 : List Loc), post r E2 → Wd G A s.heap H1 locs1 ad E2 N → W p l e R s m args below meth c H1 locs1 cells slots Q (F0 m (pc + 3) ls (.int r :: rest))) : W p l e R s m args below meth c H locs cells slots Q (F0 m pc ls st) := by
  have C' := C
  obtain ⟨hx, hb, hr, hml, hown, hts, hU, hstt, hA, hlk⟩ := C
  refine r_backI C' hw (va_runSN (As := As) (rest := rest) ⟨hx, hb, hml, hown, hts⟩ (hM H.size) ⟨va_cnB nn hts hg hws hrm.1 hrm.2 hn (hts _ hini) hd hR, hts _ hstat, trivial⟩ ⟨wI.blind _, fun U hH hW => ⟨rfl, wI.of hU hstt hA hw U hH hW⟩⟩ rfl hnn hsz hst (lv_room hrest) hdg hf) kk
theorem n_icmp_eq (hexec : p.tables.exec = Jvm.exec) (hb : c.code = cc) {a b : Nat} {off : Int} {tgt : Nat} (hdg : decode cc pc = .ok (.if_icmp .eq off, 3)) (ht : (pc : Int) + off = (tgt : Int)) (ha : a < 2147483648) (hb2 : b < 2147483648)
    (kt : a = b → W p l e R s m args below meth c H locs cells slots Q (F0 m tgt ls rest)) (kf : ¬ a = b → W p l e R s m args below meth c H locs cells slots Q (F0 m (pc + 3) ls rest)) : W p l e R s m args below meth c H locs cells slots Q (F0 m pc ls (.int (nI b) :: .int (nI a) :: rest)) := by
  have e1 := nI_eq ha hb2
  have e2 := nI_ltI ha hb2
  have e3 := nI_leI ha hb2
  have e4 := nI_ltI hb2 ha
  have e5 := nI_leI hb2 ha
  refine lv_icmp_eq hexec hb hdg ht (fun h => kt ?_) (fun h => kf ?_)
  · exact e1.mp h
  · exact fun q => h (e1.mpr q)
theorem n_if_eq (hexec : p.tables.exec = Jvm.exec) (hb : c.code = cc) {a : Nat} {off : Int} {tgt : Nat} (hdg : decode cc pc = .ok (.ifCond .eq off, 3)) (ht : (pc : Int) + off = (tgt : Int)) (ha : a < 2147483648)
    (kt : a = 0 → W p l e R s m args below meth c H locs cells slots Q (F0 m tgt ls rest)) (kf : ¬ a = 0 → W p l e R s m args below meth c H locs cells slots Q (F0 m (pc + 3) ls rest)) : W p l e R s m args below meth c H locs cells slots Q (F0 m pc ls (.int (nI a) :: rest)) := by
  have e0 : (0 : Int32) = nI 0 := rfl
  have e1 : nI a = 0 ↔ a = 0 := by rw [e0]; exact nI_eq ha (by omega)
  have e2 : nI a < 0 ↔ a < 0 := by rw [e0]; exact nI_ltI ha (by omega)
  have e3 : nI a ≤ 0 ↔ a ≤ 0 := by rw [e0]; exact nI_leI ha (by omega)
  have e4 : 0 < nI a ↔ 0 < a := by rw [e0]; exact nI_ltI (by omega) ha
  have e5 : 0 ≤ nI a ↔ 0 ≤ a := by rw [e0]; exact nI_leI (by omega) ha
  refine lv_if_eq hexec hb hdg ht (fun h => kt ?_) (fun h => kf ?_)
  · exact e1.mp h
  · exact fun q => h (e1.mpr q)
theorem n_icmp_ne (hexec : p.tables.exec = Jvm.exec) (hb : c.code = cc) {a b : Nat} {off : Int} {tgt : Nat} (hdg : decode cc pc = .ok (.if_icmp .ne off, 3)) (ht : (pc : Int) + off = (tgt : Int)) (ha : a < 2147483648) (hb2 : b < 2147483648)
    (kt : ¬ a = b → W p l e R s m args below meth c H locs cells slots Q (F0 m tgt ls rest)) (kf : a = b → W p l e R s m args below meth c H locs cells slots Q (F0 m (pc + 3) ls rest)) : W p l e R s m args below meth c H locs cells slots Q (F0 m pc ls (.int (nI b) :: .int (nI a) :: rest)) := by
  have e1 := nI_eq ha hb2
  have e2 := nI_ltI ha hb2
  have e3 := nI_leI ha hb2
  have e4 := nI_ltI hb2 ha
  have e5 := nI_leI hb2 ha
  refine lv_icmp_ne hexec hb hdg ht (fun h => kt ?_) (fun h => kf ?_)
  · exact fun q => h (e1.mpr q)
  · first | exact e1.mp h | exact e1.mp (Classical.byContradiction h)
theorem n_if_ne (hexec : p.tables.exec = Jvm.exec) (hb : c.code = cc) {a : Nat} {off : Int} {tgt : Nat} (hdg : decode cc pc = .ok (.ifCond .ne off, 3)) (ht : (pc : Int) + off = (tgt : Int)) (ha : a < 2147483648)
    (kt : ¬ a = 0 → W p l e R s m args below meth c H locs cells slots Q (F0 m tgt ls rest)) (kf : a = 0 → W p l e R s m args below meth c H locs cells slots Q (F0 m (pc + 3) ls rest)) : W p l e R s m args below meth c H locs cells slots Q (F0 m pc ls (.int (nI a) :: rest)) := by
  have e0 : (0 : Int32) = nI 0 := rfl
  have e1 : nI a = 0 ↔ a = 0 := by rw [e0]; exact nI_eq ha (by omega)
  have e2 : nI a < 0 ↔ a < 0 := by rw [e0]; exact nI_ltI ha (by omega)
  have e3 : nI a ≤ 0 ↔ a ≤ 0 := by rw [e0]; exact nI_leI ha (by omega)
  have e4 : 0 < nI a ↔ 0 < a := by rw [e0]; exact nI_ltI (by omega) ha
  have e5 : 0 ≤ nI a ↔ 0 ≤ a := by rw [e0]; exact nI_leI (by omega) ha
  refine lv_if_ne hexec hb hdg ht (fun h => kt ?_) (fun h => kf ?_)
  · exact fun q => h (e1.mpr q)
  · first | exact e1.mp h | exact e1.mp (Classical.byContradiction h)
theorem n_icmp_lt (hexec : p.tables.exec = Jvm.exec) (hb : c.code = cc) {a b : Nat} {off : Int} {tgt : Nat} (hdg : decode cc pc = .ok (.if_icmp .lt off, 3)) (ht : (pc : Int) + off = (tgt : Int)) (ha : a < 2147483648) (hb2 : b < 2147483648)
    (kt : a < b → W p l e R s m args below meth c H locs cells slots Q (F0 m tgt ls rest)) (kf : b ≤ a → W p l e R s m args below meth c H locs cells slots Q (F0 m (pc + 3) ls rest)) : W p l e R s m args below meth c H locs cells slots Q (F0 m pc ls (.int (nI b) :: .int (nI a) :: rest)) := by
  have e1 := nI_eq ha hb2
  have e2 := nI_ltI ha hb2
  have e3 := nI_leI ha hb2
  have e4 := nI_ltI hb2 ha
  have e5 := nI_leI hb2 ha
  refine lv_icmp_lt hexec hb hdg ht (fun h => kt ?_) (fun h => kf ?_)
  all_goals first
    | exact e2.mp h
    | exact e3.mp h
    | exact e4.mp h
    | exact e5.mp h
    | exact Nat.not_lt.mp (fun q => h (e2.mpr q))
    | exact Nat.not_lt.mp (fun q => h (e4.mpr q))
    | exact Nat.not_le.mp (fun q => h (e3.mpr q))
    | exact Nat.not_le.mp (fun q => h (e5.mpr q))
theorem n_if_lt (hexec : p.tables.exec = Jvm.exec) (hb : c.code = cc) {a : Nat} {off : Int} {tgt : Nat} (hdg : decode cc pc = .ok (.ifCond .lt off, 3)) (ht : (pc : Int) + off = (tgt : Int)) (ha : a < 2147483648)
    (kt : False → W p l e R s m args below meth c H locs cells slots Q (F0 m tgt ls rest)) (kf : True → W p l e R s m args below meth c H locs cells slots Q (F0 m (pc + 3) ls rest)) : W p l e R s m args below meth c H locs cells slots Q (F0 m pc ls (.int (nI a) :: rest)) := by
  have e0 : (0 : Int32) = nI 0 := rfl
  have e1 : nI a = 0 ↔ a = 0 := by rw [e0]; exact nI_eq ha (by omega)
  have e2 : nI a < 0 ↔ a < 0 := by rw [e0]; exact nI_ltI ha (by omega)
  have e3 : nI a ≤ 0 ↔ a ≤ 0 := by rw [e0]; exact nI_leI ha (by omega)
  have e4 : 0 < nI a ↔ 0 < a := by rw [e0]; exact nI_ltI (by omega) ha
  have e5 : 0 ≤ nI a ↔ 0 ≤ a := by rw [e0]; exact nI_leI (by omega) ha
  refine lv_if_lt hexec hb hdg ht (fun h => kt ?_) (fun h => kf ?_)
  all_goals first
    | trivial
    | (rw [e2] at h; omega)
    | (rw [e3] at h; omega)
    | (rw [e4] at h; omega)
    | (rw [e5] at h; omega)
theorem n_icmp_ge (hexec : p.tables.exec = Jvm.exec) (hb : c.code = cc) {a b : Nat} {off : Int} {tgt : Nat} (hdg : decode cc pc = .ok (.if_icmp .ge off, 3)) (ht : (pc : Int) + off = (tgt : Int)) (ha : a < 2147483648) (hb2 : b < 2147483648)
    (kt : b ≤ a → W p l e R s m args below meth c H locs cells slots Q (F0 m tgt ls rest)) (kf : a < b → W p l e R s m args below meth c H locs cells slots Q (F0 m (pc + 3) ls rest)) : W p l e R s m args below meth c H locs cells slots Q (F0 m pc ls (.int (nI b) :: .int (nI a) :: rest)) := by
  have e1 := nI_eq ha hb2
  have e2 := nI_ltI ha hb2
  have e3 := nI_leI ha hb2
  have e4 := nI_ltI hb2 ha
  have e5 := nI_leI hb2 ha
  refine lv_icmp_ge hexec hb hdg ht (fun h => kt ?_) (fun h => kf ?_)
  all_goals first
    | exact e2.mp h
    | exact e3.mp h
    | exact e4.mp h
    | exact e5.mp h
    | exact Nat.not_lt.mp (fun q => h (e2.mpr q))
    | exact Nat.not_lt.mp (fun q => h (e4.mpr q))
    | exact Nat.not_le.mp (fun q => h (e3.mpr q))
    | exact Nat.not_le.mp (fun q => h (e5.mpr q))
theorem n_if_ge (hexec : p.tables.exec = Jvm.exec) (hb : c.code = cc) {a : Nat} {off : Int} {tgt : Nat} (hdg : decode cc pc = .ok (.ifCond .ge off, 3)) (ht : (pc : Int) + off = (tgt : Int)) (ha : a < 2147483648)
    (kt : True → W p l e R s m args below meth c H locs cells slots Q (F0 m tgt ls rest)) (kf : False → W p l e R s m args below meth c H locs cells slots Q (F0 m (pc + 3) ls rest)) : W p l e R s m args below meth c H locs cells slots Q (F0 m pc ls (.int (nI a) :: rest)) := by
  have e0 : (0 : Int32) = nI 0 := rfl
  have e1 : nI a = 0 ↔ a = 0 := by rw [e0]; exact nI_eq ha (by omega)
  have e2 : nI a < 0 ↔ a < 0 := by rw [e0]; exact nI_ltI ha (by omega)
  have e3 : nI a ≤ 0 ↔ a ≤ 0 := by rw [e0]; exact nI_leI ha (by omega)
  have e4 : 0 < nI a ↔ 0 < a := by rw [e0]; exact nI_ltI (by omega) ha
  have e5 : 0 ≤ nI a ↔ 0 ≤ a := by rw [e0]; exact nI_leI (by omega) ha
  refine lv_if_ge hexec hb hdg ht (fun h => kt ?_) (fun h => kf ?_)
  all_goals first
    | trivial
    | (rw [e2] at h; omega)
    | (rw [e3] at h; omega)
    | (rw [e4] at h; omega)
    | (rw [e5] at h; omega)
theorem n_icmp_gt (hexec : p.tables.exec = Jvm.exec) (hb : c.code = cc) {a b : Nat} {off : Int} {tgt : Nat} (hdg : decode cc pc = .ok (.if_icmp .gt off, 3)) (ht : (pc : Int) + off = (tgt : Int)) (ha : a < 2147483648) (hb2 : b < 2147483648)
    (kt : b < a → W p l e R s m args below meth c H locs cells slots Q (F0 m tgt ls rest)) (kf : a ≤ b → W p l e R s m args below meth c H locs cells slots Q (F0 m (pc + 3) ls rest)) : W p l e R s m args below meth c H locs cells slots Q (F0 m pc ls (.int (nI b) :: .int (nI a) :: rest)) := by
  have e1 := nI_eq ha hb2
  have e2 := nI_ltI ha hb2
  have e3 := nI_leI ha hb2
  have e4 := nI_ltI hb2 ha
  have e5 := nI_leI hb2 ha
  refine lv_icmp_gt hexec hb hdg ht (fun h => kt ?_) (fun h => kf ?_)
  all_goals first
    | exact e2.mp h
    | exact e3.mp h
    | exact e4.mp h
    | exact e5.mp h
    | exact Nat.not_lt.mp (fun q => h (e2.mpr q))
    | exact Nat.not_lt.mp (fun q => h (e4.mpr q))
    | exact Nat.not_le.mp (fun q => h (e3.mpr q))
    | exact Nat.not_le.mp (fun q => h (e5.mpr q))
theorem n_if_gt (hexec : p.tables.exec = Jvm.exec) (hb : c.code = cc) {a : Nat} {off : Int} {tgt : Nat} (hdg : decode cc pc = .ok (.ifCond .gt off, 3)) (ht : (pc : Int) + off = (tgt : Int)) (ha : a < 2147483648)
    (kt : 0 < a → W p l e R s m args below meth c H locs cells slots Q (F0 m tgt ls rest)) (kf : a = 0 → W p l e R s m args below meth c H locs cells slots Q (F0 m (pc + 3) ls rest)) : W p l e R s m args below meth c H locs cells slots Q (F0 m pc ls (.int (nI a) :: rest)) := by
  have e0 : (0 : Int32) = nI 0 := rfl
  have e1 : nI a = 0 ↔ a = 0 := by rw [e0]; exact nI_eq ha (by omega)
  have e2 : nI a < 0 ↔ a < 0 := by rw [e0]; exact nI_ltI ha (by omega)
  have e3 : nI a ≤ 0 ↔ a ≤ 0 := by rw [e0]; exact nI_leI ha (by omega)
  have e4 : 0 < nI a ↔ 0 < a := by rw [e0]; exact nI_ltI (by omega) ha
  have e5 : 0 ≤ nI a ↔ 0 ≤ a := by rw [e0]; exact nI_leI (by omega) ha
  refine lv_if_gt hexec hb hdg ht (fun h => kt ?_) (fun h => kf ?_)
  all_goals first
    | trivial
    | (rw [e2] at h; omega)
    | (rw [e3] at h; omega)
    | (rw [e4] at h; omega)
    | (rw [e5] at h; omega)
theorem n_icmp_le (hexec : p.tables.exec = Jvm.exec) (hb : c.code = cc) {a b : Nat} {off : Int} {tgt : Nat} (hdg : decode cc pc = .ok (.if_icmp .le off, 3)) (ht : (pc : Int) + off = (tgt : Int)) (ha : a < 2147483648) (hb2 : b < 2147483648)
    (kt : a ≤ b → W p l e R s m args below meth c H locs cells slots Q (F0 m tgt ls rest)) (kf : b < a → W p l e R s m args below meth c H locs cells slots Q (F0 m (pc + 3) ls rest)) : W p l e R s m args below meth c H locs cells slots Q (F0 m pc ls (.int (nI b) :: .int (nI a) :: rest)) := by
  have e1 := nI_eq ha hb2
  have e2 := nI_ltI ha hb2
  have e3 := nI_leI ha hb2
  have e4 := nI_ltI hb2 ha
  have e5 := nI_leI hb2 ha
  refine lv_icmp_le hexec hb hdg ht (fun h => kt ?_) (fun h => kf ?_)
  all_goals first
    | exact e2.mp h
    | exact e3.mp h
    | exact e4.mp h
    | exact e5.mp h
    | exact Nat.not_lt.mp (fun q => h (e2.mpr q))
    | exact Nat.not_lt.mp (fun q => h (e4.mpr q))
    | exact Nat.not_le.mp (fun q => h (e3.mpr q))
    | exact Nat.not_le.mp (fun q => h (e5.mpr q))
theorem n_if_le (hexec : p.tables.exec = Jvm.exec) (hb : c.code = cc) {a : Nat} {off : Int} {tgt : Nat} (hdg : decode cc pc = .ok (.ifCond .le off, 3)) (ht : (pc : Int) + off = (tgt : Int)) (ha : a < 2147483648)
    (kt : a = 0 → W p l e R s m args below meth c H locs cells slots Q (F0 m tgt ls rest)) (kf : 0 < a → W p l e R s m args below meth c H locs cells slots Q (F0 m (pc + 3) ls rest)) : W p l e R s m args below meth c H locs cells slots Q (F0 m pc ls (.int (nI a) :: rest)) := by
  have e0 : (0 : Int32) = nI 0 := rfl
  have e1 : nI a = 0 ↔ a = 0 := by rw [e0]; exact nI_eq ha (by omega)
  have e2 : nI a < 0 ↔ a < 0 := by rw [e0]; exact nI_ltI ha (by omega)
  have e3 : nI a ≤ 0 ↔ a ≤ 0 := by rw [e0]; exact nI_leI ha (by omega)
  have e4 : 0 < nI a ↔ 0 < a := by rw [e0]; exact nI_ltI (by omega) ha
  have e5 : 0 ≤ nI a ↔ 0 ≤ a := by rw [e0]; exact nI_leI (by omega) ha
  refine lv_if_le hexec hb hdg ht (fun h => kt ?_) (fun h => kf ?_)
  all_goals first
    | trivial
    | (rw [e2] at h; omega)
    | (rw [e3] at h; omega)
    | (rw [e4] at h; omega)
    | (rw [e5] at h; omega)
theorem r_asL {x : Int64} (y : Int64) (h : x = y) (kk : W p l e R s m args below meth c H locs cells slots Q (F0 m pc ls (.long y :: rest))) : W p l e R s m args below meth c H locs cells slots Q (F0 m pc ls (.long x :: rest)) := by
  rw [h]; exact kk
theorem b_if_eq (hexec : p.tables.exec = Jvm.exec) (hb : c.code = cc) {P : Prop} [hP : Decidable P] {off : Int} {tgt : Nat} (hdg : decode cc pc = .ok (.ifCond .eq off, 3)) (ht : (pc : Int) + off = (tgt : Int))
    (kt : ¬ P → W p l e R s m args below meth c H locs cells slots Q (F0 m tgt ls rest)) (kf : P → W p l e R s m args below meth c H locs cells slots Q (F0 m (pc + 3) ls rest)) : W p l e R s m args below meth c H locs cells slots Q (F0 m pc ls (.int (if P then 1 else 0) :: rest)) := by
  refine lv_if_eq hexec hb hdg ht (fun h => kt ?_) (fun h => kf ?_)
  · intro q; rw [if_pos q] at h; exact absurd h (by decide)
  · apply Classical.byContradiction; intro q; rw [if_neg q] at h; exact h rfl
theorem b_if_ne (hexec : p.tables.exec = Jvm.exec) (hb : c.code = cc) {P : Prop} [hP : Decidable P] {off : Int} {tgt : Nat} (hdg : decode cc pc = .ok (.ifCond .ne off, 3)) (ht : (pc : Int) + off = (tgt : Int))
    (kt : P → W p l e R s m args below meth c H locs cells slots Q (F0 m tgt ls rest)) (kf : ¬ P → W p l e R s m args below meth c H locs cells slots Q (F0 m (pc + 3) ls rest)) : W p l e R s m args below meth c H locs cells slots Q (F0 m pc ls (.int (if P then 1 else 0) :: rest)) := by
  refine lv_if_ne hexec hb hdg ht (fun h => kt ?_) (fun h => kf ?_)
  · apply Classical.byContradiction; intro q; rw [if_neg q] at h; exact h rfl
  · intro q; rw [if_pos q] at h; exact absurd h (by decide)
theorem r_copy (C : Cx p s m meth c args cc nL ret Ts own G tC A) (hw : Wd G A s.heap H locs ad E N) (hml : c.maxLocals = ls.size) {index : Nat} (hlink : Cond.methodLink own index arraycopyName ∈ Ts) (hnat : Cond.native arraycopyName ∈ Ts) (hstat : Cond.static arraycopyName ∈ Ts) (hini : Cond.initialized "java/lang/System" ∈ Ts)
    {i0 i1 : Nat} (h0 : i0 < N) (h1 : i1 < N) {n0 n1 : Nat} {f g : Nat → Int32} (hE0 : E i0 = eI G n0 f) (hE1 : E i1 = eI G n1 g) {sp dp n : Nat} (b1 : sp < 2147483648) (b2 : dp < 2147483648) (b3 : n < 2147483648) (b4 : sp + n ≤ n0) (b5 : dp + n ≤ n1)
    (hframes : 1 ≤ R.frames) (hlocals : (rest.map fun v => v.category).sum + (nativeFrameWords "java/lang/System" "arraycopy" 5 + 11) ≤ R.locals) (hdg : decode cc pc = .ok (.invokestatic index, 3))
    (kk : ∀ (E2 : Nat → va_E) (H1 : Heap) (locs1 : List Loc), E2 i1 = eI G n1 (va_cpy f g sp dp n) → (∀ j, j ≠ i1 → E2 j = E j) → Wd G A s.heap H1 locs1 ad E2 N → W p l e R s m args below meth c H1 locs1 cells slots Q (F0 m (pc + 3) ls rest)) : W p l e R s m args below meth c H locs cells slots Q (F0 m pc ls (.int (nI n) :: .int (nI dp) :: .ref (ad i1) :: .int (nI sp) :: .ref (ad i0) :: rest)) := by
  obtain ⟨hx, hb, hr, hml', hown, hts, hU, hst, hA, hlk⟩ := C
  refine va_copyi hx hb hml hown (hts _ hlink) (hts _ hnat) (hts _ hstat) (hts _ hini) hU.1 hw.1 hw.2.1 hw.2.2 i0 i1 0 0 (by rw [Wo_get h0, hE0]) (by rw [Wo_get h1, hE1]) rfl rfl rfl (nI_pos b1) (nI_pos b2) (nI_pos b3) (by rw [nI_clamp b1, nI_clamp b3]; exact b4) (by rw [nI_clamp b2, nI_clamp b3]; exact b5) (fun _ _ => rfl) hframes hlocals hdg (fun H1 locs1 g1 g2 g3 => ?_)
  rw [Wo_set h1, nI_clamp b1, nI_clamp b2, nI_clamp b3] at g1 g2
  exact kk _ H1 locs1 (up_s _ _ _) (fun j hj => up_n _ _ hj) ⟨g1, g2, g3⟩
end R10
theorem sw_cases (x lo hi : Int) : (x < lo ∨ hi < x) ∨ (lo ≤ x ∧ x ≤ hi) := by omega
/-- a method's contract from the walk of its body -/
theorem MI_of {l : Launch} {y : MethodName} {ws ws' : List Cond} {rm : Room} {G : vG} {tC : Nat} {ad : Nat → Nat} {N : Nat} {E : Nat → va_E} {av : List Value} {post : Int32 → (Nat → va_E) → Prop} {cc : ByteArray} {maxL : Nat} {ret : Option FieldType} (own : String) (ho : y.cls = own) (hy : plainName y.cls = true) (hw : ws = Cond.code y cc maxL ret :: ws') (hn : (lg_sl av).length ≤ maxL)
    (K : ∀ (p : Program) (e : Env) (s : State) (m : MethodId) (args : Array Value) (below : List Frame) (meth : Method) (c : Code) (A : Nat → Prop) (ls : Array Slot), Cx p s m meth c args cc maxL ret ws own G tC A → Wd G A s.heap s.heap [] ad E N → lv_has ls maxL (lv_args 0 av) → W p l e rm s m args below meth c s.heap [] 0 0 (QI below args s G ad N A post) (F0 m 0 ls [])) : MI l y ws rm G tC ad N E av post := by
  intro sz
  refine Met.ofW (cc := cc) (maxL := maxL) (ret := ret) hy hw ?_
  intro p e s m args below meth c s₁ B hml hv
  obtain ⟨rfl, hsz, hP, hD0, hU, hst⟩ := hv
  subst hsz
  have hl := lv_entry av (n := maxL) hn
  rw [lg_entry_eq]
  exact K p e s m _ below meth c _ _ ⟨B.exec, B.bytes, B.returns, hml, by rw [← ho]; exact findClass_of_methodNamed B.named, atoms_spec (ws := ws) B.pre, hU, hst, fun q h => Or.inr h, B.notSynchronized⟩ ⟨hP, hD0.self, va_S.rf⟩ hl
theorem MV_of {l : Launch} {y : MethodName} {ws ws' : List Cond} {rm : Room} {G : vG} {tC : Nat} {ad : Nat → Nat} {N : Nat} {E : Nat → va_E} {av : List Value} {post : (Nat → va_E) → Prop} {cc : ByteArray} {maxL : Nat} {ret : Option FieldType} (own : String) (ho : y.cls = own) (hy : plainName y.cls = true) (hw : ws = Cond.code y cc maxL ret :: ws') (hn : (lg_sl av).length ≤ maxL)
    (K : ∀ (p : Program) (e : Env) (s : State) (m : MethodId) (args : Array Value) (below : List Frame) (meth : Method) (c : Code) (A : Nat → Prop) (ls : Array Slot), Cx p s m meth c args cc maxL ret ws own G tC A → Wd G A s.heap s.heap [] ad E N → lv_has ls maxL (lv_args 0 av) → W p l e rm s m args below meth c s.heap [] 0 0 (QV below args s G ad N A post) (F0 m 0 ls [])) : MV l y ws rm G tC ad N E av post := by
  intro sz
  refine Met.ofW (cc := cc) (maxL := maxL) (ret := ret) hy hw ?_
  intro p e s m args below meth c s₁ B hml hv
  obtain ⟨rfl, hsz, hP, hD0, hU, hst⟩ := hv
  subst hsz
  have hl := lv_entry av (n := maxL) hn
  rw [lg_entry_eq]
  exact K p e s m _ below meth c _ _ ⟨B.exec, B.bytes, B.returns, hml, by rw [← ho]; exact findClass_of_methodNamed B.named, atoms_spec (ws := ws) B.pre, hU, hst, fun q h => Or.inr h, B.notSynchronized⟩ ⟨hP, hD0.self, va_S.rf⟩ hl
end
section
/-! PURE WORDS: codes, counts of bits, rows filled. -/
theorem and15 {v : Nat} (h : v < 16) : nI v &&& nI 15 = nI v := (pk_andN (by omega) 4 rfl).trans (congrArg nI (Nat.mod_eq_of_lt h))
def pc8 (n : Nat) : Nat := n % 2 + n / 2 % 2 + n / 4 % 2 + n / 8 % 2 + n / 16 % 2 + n / 32 % 2 + n / 64 % 2 + n / 128 % 2
def codeN (v : Nat) : Nat := ([21, 2, 73, 94, 100, 115, 56, 47, 208, 199, 140, 155, 161, 182, 253, 234] : List Nat).getD v 0
theorem codeT_nI : ∀ v, v < 16 → codeT v = nI (codeN v) := by decide +kernel
theorem codeN_lt : ∀ v, v < 16 → codeN v < 256 := by decide +kernel
/-- the number that an octet is read as (16: none), from v on -/
def decS (o : Nat) : Nat → Nat → Nat
  | 0, v => v
  | n + 1, v => if pc8 (o ^^^ codeN v) ≤ 1 then v else decS o n (v + 1)
def decN (o : Nat) : Nat := decS o 16 0
def dec (o : Nat) : Int32 := if decN o < 16 then nI (decN o) else -1
def bc1 (x : Int32) : Int32 := x - ((x.toUInt32 >>> ((nI 1).toUInt32 &&& Int32.toUInt32 31)).toInt32 &&& nI 1431655765)
def bc2 (x : Int32) : Int32 := (x &&& nI 858993459) + ((x.toUInt32 >>> ((nI 2).toUInt32 &&& Int32.toUInt32 31)).toInt32 &&& nI 858993459)
def bc3 (x : Int32) : Int32 := (x + (x.toUInt32 >>> ((nI 4).toUInt32 &&& Int32.toUInt32 31)).toInt32) &&& nI 252645135
def bc4 (x : Int32) : Int32 := x + (x.toUInt32 >>> ((nI 8).toUInt32 &&& Int32.toUInt32 31)).toInt32
def bc5 (x : Int32) : Int32 := x + (x.toUInt32 >>> ((nI 16).toUInt32 &&& Int32.toUInt32 31)).toInt32
theorem bc_ok : ∀ n, n < 256 → bc5 (bc4 (bc3 (bc2 (bc1 (nI n))))) &&& nI 63 = nI (pc8 n) := by decide +kernel
theorem xor_nI (a b : Nat) : nI a ^^^ nI b = nI (a ^^^ b) := by
  apply Int32.toBitVec_inj.mp
  simp [nI, BitVec.ofNat_xor]
theorem xor_lt {a b : Nat} (ha : a < 256) (hb : b < 256) : a ^^^ b < 256 := Nat.xor_lt_two_pow (n := 8) ha hb
theorem pc8_le (n : Nat) : pc8 n ≤ 8 := by unfold pc8; omega
/-- a row filled from lo to hi -/
def fillF (f : Nat → Int32) (lo hi : Nat) (v : Int32) : Nat → Int32 := fun j => if lo ≤ j ∧ j < hi then v else f j
theorem fillF_0 (f : Nat → Int32) (lo : Nat) (v : Int32) : fillF f lo lo v = f := by
  funext j; simp only [fillF]; rw [if_neg (by omega)]
theorem fillF_s (f : Nat → Int32) {lo i : Nat} (v : Int32) (h : lo ≤ i) : upd (fillF f lo i v) i v = fillF f lo (i + 1) v := by
  funext j
  simp only [fillF, upd]
  by_cases e : j = i
  · rw [if_pos e, if_pos (by omega)]
  · rw [if_neg e]
    by_cases e2 : lo ≤ j ∧ j < i
    · rw [if_pos e2, if_pos (by omega)]
    · rw [if_neg e2, if_neg (by omega)]
/-- a number of a page -/
abbrev hasP (pg : Nat) (k : Int32) : Prop := 0 ≤ k.toInt ∧ k.toInt < pg
theorem has_of {pg : Nat} {k : Int32} (h : hasP pg k) : ∃ j : Nat, j < pg ∧ k = nI j := by
  refine ⟨k.toInt.toNat, by have := h.1; have := h.2; omega, ?_⟩
  apply Int32.toInt_inj.mp
  have h3 : k.toInt < 2147483648 := Int32.toInt_lt k
  rw [nI_toInt (by have := h.1; omega)]
  have := h.1
  omega
theorem has_nI {pg j : Nat} (h : j < pg) (hp : pg < 2147483648) : hasP pg (nI j) := by
  unfold hasP
  rw [nI_toInt (by omega)]
  omega
theorem has_iff {pg : Nat} (hp : pg < 2147483648) (k : Int32) : (nI 0 ≤ k ∧ k ≤ nI pg - nI 1) ↔ hasP pg k := by
  unfold hasP
  rw [Int32.le_iff_toInt_le, Int32.le_iff_toInt_le]
  rw [nI_toInt (n := 0) (by omega)]
  have e : (nI pg - nI 1).toInt = (pg : Int) - 1 := by
    rcases Nat.eq_zero_or_pos pg with q | q
    · subst q; rfl
    · rw [pk_sub q, nI_toInt (by omega)]; omega
  rw [e]
  omega
theorem or128 : ∀ n, n < 128 → nI n ||| nI 128 = nI (n + 128) := by decide +kernel
end
section
/-! PURE WORDS of the reference: codes, mended octets, pages. -/
theorem in_of {x : Int32} {b : Nat} (hb : b < 2147483648) (h : nI 0 ≤ x ∧ x ≤ nI b) : ∃ j : Nat, j ≤ b ∧ x = nI j := by
  have h1 := Int32.le_iff_toInt_le.mp h.1
  have h2 := Int32.le_iff_toInt_le.mp h.2
  rw [nI_toInt (by omega)] at h1
  rw [nI_toInt (by omega)] at h2
  refine ⟨x.toInt.toNat, by omega, Int32.toInt_inj.mp ?_⟩
  rw [nI_toInt (by omega)]
  omega
theorem in_of1 {x : Int32} {a b : Nat} (hb : b < 2147483648) (ha : a ≤ b) (h : nI a ≤ x ∧ x ≤ nI b) : ∃ j : Nat, a ≤ j ∧ j ≤ b ∧ x = nI j := by
  have h1 := Int32.le_iff_toInt_le.mp h.1
  have h2 := Int32.le_iff_toInt_le.mp h.2
  rw [nI_toInt (by omega)] at h1
  rw [nI_toInt (by omega)] at h2
  refine ⟨x.toInt.toNat, by omega, by omega, Int32.toInt_inj.mp ?_⟩
  rw [nI_toInt (by omega)]
  omega
theorem in_nI {j b : Nat} (h : j ≤ b) (hb : b < 2147483648) : nI 0 ≤ nI j ∧ nI j ≤ nI b := ⟨nI_le (by omega) (by omega), nI_le h hb⟩
theorem toI64_le (x y : Int32) : x.toInt64 ≤ y.toInt64 ↔ x ≤ y := by
  rw [Int64.le_iff_toInt_le, Int32.le_iff_toInt_le, Int32.toInt_toInt64, Int32.toInt_toInt64]
theorem toI64_lt (x y : Int32) : x.toInt64 < y.toInt64 ↔ x < y := by
  rw [Int64.lt_iff_toInt_lt, Int32.lt_iff_toInt_lt, Int32.toInt_toInt64, Int32.toInt_toInt64]
theorem upd_s (f : Nat → Int32) (k : Nat) (x : Int32) : upd f k x k = x := by simp [upd]
theorem upd_n (f : Nat → Int32) {k j : Nat} (x : Int32) (h : j ≠ k) : upd f k x j = f j := by simp [upd, h]
theorem upd2 (f : Nat → Int32) (k : Nat) (x y : Int32) : upd (upd f k x) k y = upd f k y := by
  funext j; simp only [upd]; split <;> rfl
theorem upd_id (f : Nat → Int32) (k : Nat) : upd f k (f k) = f := by
  funext j; simp only [upd]; split
  · next h => rw [h]
  · rfl
theorem upd_id' (f : Nat → Int32) {k : Nat} {x : Int32} (h : f k = x) : upd f k x = f := by rw [← h]; exact upd_id f k
/-- bits counted from below -/
def pcK (v : Nat) : Nat → Nat
  | 0 => 0
  | k + 1 => pcK v k + v / 2 ^ k % 2
theorem pcK_8 (v : Nat) : pcK v 8 = pc8 v := by simp [pcK, pc8]
theorem bit_nI {v k : Nat} (hv : v < 2147483648) (hk : k < 32) : (nI v >>> (nI k &&& 31)) &&& nI 1 = nI (v / 2 ^ k % 2) := by
  have e : ((nI k &&& 31).toBitVec.smod 32).toNat = k := by
    have h : ∀ k, k < 32 → ((nI k &&& 31).toBitVec.smod 32).toNat = k := by decide +kernel
    exact h k hk
  rw [pk_shrN hv _ k e]
  exact pk_andN (by have := Nat.div_le_self v (2 ^ k); omega) 1 rfl
theorem rem2_nI {v d : Nat} (hv : v < 2147483648) (h0 : 0 < d) (hd : d < 2147483648) : nI v - nI v / nI d * nI d = nI (v % d) := pk_rem hv h0 hd
abbrev mendB (o : Nat) : Prop := decN o < 16 ∧ ¬ codeN (decN o) = o
theorem decS_le (o : Nat) : ∀ n v, decS o n v ≤ n + v := by
  intro n
  induction n with
  | zero => intro v; simp [decS]
  | succ n ih => intro v; rw [decS]; split; omega; have := ih (v + 1); omega
theorem decN_le (o : Nat) : decN o ≤ 16 := decS_le o 16 0
theorem dec_m1 {o : Nat} : dec o = -1 ↔ ¬ decN o < 16 := by
  unfold dec
  split
  · next h => 
    constructor
    · intro q
      have := congrArg Int32.toInt q
      rw [nI_toInt (by omega)] at this
      exact absurd this (by have e : (-1 : Int32).toInt = -1 := by decide
                            omega)
    · intro q; exact absurd h q
  · next h => exact ⟨fun _ => h, fun _ => rfl⟩
theorem dec_nat {o : Nat} (h : ¬ dec o = -1) : dec o = nI (decN o) ∧ decN o < 16 := by
  have h2 : decN o < 16 := Classical.byContradiction fun q => h (dec_m1.mpr q)
  exact ⟨by rw [dec, if_pos h2], h2⟩
theorem dec_in {o b : Nat} (hb : b < 16) : (nI 0 ≤ dec o ∧ dec o ≤ nI b) ↔ decN o ≤ b := by
  unfold dec
  split
  · next h =>
    rw [nI_leI (by omega) (by omega), nI_leI (by omega) (by omega)]
    omega
  · next h =>
    constructor
    · intro q; exact absurd q.1 (by decide)
    · intro q; omega
/-- the last number whose code is near -/
def decL (o : Nat) : Nat → Int32
  | 0 => -1
  | v + 1 => if pc8 (codeN v ^^^ o) < 2 then nI v else decL o v
theorem decL_16 : ∀ o, o < 256 → decL o 16 = dec o := by decide +kernel
def mend1 (o : Nat) (x : Int32) : Int32 := if mendB o ∧ x < 99999 then x + 1 else x
def mdF (pk : Nat → Nat) (a : Nat) : Nat → Int32 → Int32
  | 0, x => x
  | n + 1, x => mend1 (pk (a + n)) (mdF pk a n x)
theorem mdF_s (pk : Nat → Nat) {a k : Nat} (x : Int32) (h : a ≤ k) : mdF pk a (k + 1 - a) x = mend1 (pk k) (mdF pk a (k - a) x) := by
  rw [show k + 1 - a = (k - a) + 1 by omega, mdF, show a + (k - a) = k by omega]
/-- the cells of pages -/
abbrev cel (s : Nat → Int32) : Nat → Nat → Int32 := fun k j => s (8 + 50 * k + j)
abbrev mtch (f : Nat → Nat → Int32) (b n p : Int32) (k : Nat) : Prop := f k 0 = b ∧ f k 1 = n ∧ f k 2 = p
def srch (f : Nat → Nat → Int32) (b n p : Int32) : Nat → Nat → Nat
  | 0, k => k
  | t + 1, k => if mtch f b n p k then k else srch f b n p t (k + 1)
theorem srch_y {f : Nat → Nat → Int32} {b n p : Int32} {pg k : Nat} (h : k < pg) (hm : mtch f b n p k) : srch f b n p (pg - k) k = k := by
  rw [show pg - k = (pg - (k + 1)) + 1 by omega, srch, if_pos hm]
theorem srch_n {f : Nat → Nat → Int32} {b n p : Int32} {pg k : Nat} (h : k < pg) (hm : ¬ mtch f b n p k) : srch f b n p (pg - k) k = srch f b n p (pg - (k + 1)) (k + 1) := by
  rw [show pg - k = (pg - (k + 1)) + 1 by omega, srch, if_neg hm]
theorem srch_le (f : Nat → Nat → Int32) (b n p : Int32) : ∀ t k, srch f b n p t k ≤ t + k := by
  intro t
  induction t with
  | zero => intro k; simp [srch]
  | succ t ih => intro k; rw [srch]; split; omega; have := ih (k + 1); omega
def fdI (i pg : Nat) : Int32 := if i < pg then nI i else -1
/-- a page goes -/
def shF (s : Nat → Int32) (a i : Nat) : Nat → Int32 := fun x => if a ≤ x ∧ x < i then s (x + 50) else s x
theorem shF_0 (s : Nat → Int32) (a : Nat) : shF s a a = s := by
  funext x; simp only [shF]; rw [if_neg (by omega)]
theorem shF_s (s : Nat → Int32) {a i : Nat} (h : a ≤ i) : upd (shF s a i) i (shF s a i (i + 50)) = shF s a (i + 1) := by
  funext x
  simp only [shF, upd]
  rw [if_neg (show ¬ (a ≤ i + 50 ∧ i + 50 < i) by omega)]
  by_cases e : x = i
  · rw [if_pos e, if_pos (by omega), e]
  · rw [if_neg e]
    by_cases e2 : a ≤ x ∧ x < i
    · rw [if_pos e2, if_pos (by omega)]
    · rw [if_neg e2, if_neg (by omega)]
theorem shF_lo (s : Nat → Int32) {a i x : Nat} (h : x < a) : shF s a i x = s x := by simp only [shF]; rw [if_neg (by omega)]
def shO (o : Int32) (page : Nat) : Int32 := if o = nI page then -1 else if nI page < o then o - 1 else o
def shP (s : Nat → Int32) (page b : Nat) : Nat → Int32 := fun x => if 4 ≤ x ∧ x < 4 + b then shO (s x) page else s x
theorem shP_0 (s : Nat → Int32) (page : Nat) : shP s page 0 = s := by
  funext x; simp only [shP]; rw [if_neg (by omega)]
theorem shP_g (s : Nat → Int32) (page b : Nat) : shP s page b (4 + b) = s (4 + b) := by simp only [shP]; rw [if_neg (by omega)]
theorem shP_s (s : Nat → Int32) (page b : Nat) {v : Int32} (h : v = shO (s (4 + b)) page) : upd (shP s page b) (4 + b) v = shP s page (b + 1) := by
  funext x
  simp only [shP, upd]
  by_cases e : x = 4 + b
  · rw [if_pos e, if_pos (by omega), h, e]
  · rw [if_neg e]
    by_cases e2 : 4 ≤ x ∧ x < 4 + b
    · rw [if_pos e2, if_pos (by omega)]
    · rw [if_neg e2, if_neg (by omega)]
def goesF (s : Nat → Int32) (pg page : Nat) : Nat → Int32 := shP (upd (shF s (8 + 50 * page) (8 + 50 * (pg - 1))) 0 (nI (pg - 1))) page 4
theorem goesF_0 (s : Nat → Int32) (pg page : Nat) : goesF s pg page 0 = nI (pg - 1) := by
  simp only [goesF, shP]; rw [if_neg (by omega), upd_s]
/-- the page whose number is least -/
def oldS (t : Nat → Int32) : Nat → Nat
  | 0 => 0
  | n + 1 => if t (n + 1) < t (oldS t n) then n + 1 else oldS t n
theorem oldS_le (t : Nat → Int32) : ∀ n, oldS t n ≤ n := by
  intro n
  induction n with
  | zero => exact Nat.le_refl 0
  | succ n ih => rw [oldS]; split <;> omega
abbrev latF (s : Nat → Int32) : Nat → Int32 := fun k => s (8 + 50 * k + 5)
def put5 (s : Nat → Int32) (k : Nat) (b n p : Int32) : Nat → Int32 := upd (upd (upd (upd (upd s (8 + 50 * k + 0) b) (8 + 50 * k + 1) n) (8 + 50 * k + 2) p) (8 + 50 * k + 3) (nI 0)) (8 + 50 * k + 4) (nI 1)
def empF (s : Nat → Int32) (k : Nat) : Nat → Int32 := fillF s (8 + 50 * k + 6) (8 + 50 * k + 50) (-1)
def newK (pg : Nat) : Nat := if pg = 10 then 9 else pg
def newB (s : Nat → Int32) (pg : Nat) : Nat → Int32 := if pg = 10 then goesF s 10 (oldS (latF s) 9) else s
def newF (s : Nat → Int32) (pg : Nat) (b n p : Int32) : Nat → Int32 := empF (put5 (upd (newB s pg) 0 (nI (newK pg + 1))) (newK pg) b n p) (newK pg)
theorem add_0 (x : Int32) : x + nI 0 = x := by
  show x + 0 = x
  exact Int32.add_zero x
theorem or0 (n : Nat) : nI n ||| nI 0 = nI n := by
  show nI n ||| 0 = nI n
  exact Int32.or_zero
end
section
set_option maxHeartbeats 4000000 in
set_option maxRecDepth 100000 in
theorem c_J6_bitCount_0f7a4 {l : Launch} {G : vG} {tC : Nat} {ad : Nat → Nat} {N : Nat} {E : Nat → va_E} {n : Nat} (hn : n < 256) : MI l yJ6_bitCount_0f7a4 wsJ6_bitCount_0f7a4 ({ frames := 0, cells := 0, slots := 0, locals := 0 } : Room) G tC ad N E [.int (nI n)] (fun r E2 => E2 = E ∧ r = nI (pc8 n)) := by
  refine MI_of RJ6 rfl (by decide) rfl (Nat.le_of_ble_eq_true rfl) ?_
  intro pp_ ee_ ss_ mm_ aa_ bb_ me_ cc_ A ls C hw hl
  have hx := C.1
  have hb := C.2.1
  have hown := C.2.2.2.2.1
  have hts := C.2.2.2.2.2.1
  have hl : lv_has ls 1 [(0, .int (nI n))] := hl
  refine lv_iload_n hx hb dJ6_bitCount_0f7a4_0 rfl (lv_at hl 0 rfl) ?_
  refine lv_iload_n hx hb dJ6_bitCount_0f7a4_1 rfl (lv_at hl 0 rfl) ?_
  refine lv_iconst (v := nI 1) hx hb dJ6_bitCount_0f7a4_2 rfl ?_
  refine lv_iushr (v := ((nI n).toUInt32 >>> ((nI 1).toUInt32 &&& Int32.toUInt32 31)).toInt32) hx hb dJ6_bitCount_0f7a4_3 rfl ?_
  refine lv_ldcw (v := 1431655765) hx hb hown (hts (.constant RJ6 265 (1431655765)) (by decide +kernel)) dJ6_bitCount_0f7a4_4 ?_
  refine r_nat 1431655765 rfl ?_
  refine lv_iand hx hb dJ6_bitCount_0f7a4_7 ?_
  refine lv_isub hx hb dJ6_bitCount_0f7a4_8 ?_
  refine lv_topi (fun x1 h_x1 => ?_)
  refine lv_istore_n (lv' := [(0, .int x1)]) hx hb dJ6_bitCount_0f7a4_9 rfl hl (by decide) rfl (fun ls hl => ?_)
  refine lv_iload_n hx hb dJ6_bitCount_0f7a4_10 rfl (lv_at hl 0 rfl) ?_
  refine lv_ldcw (v := 858993459) hx hb hown (hts (.constant RJ6 266 (858993459)) (by decide +kernel)) dJ6_bitCount_0f7a4_11 ?_
  refine r_nat 858993459 rfl ?_
  refine lv_iand hx hb dJ6_bitCount_0f7a4_14 ?_
  refine lv_iload_n hx hb dJ6_bitCount_0f7a4_15 rfl (lv_at hl 0 rfl) ?_
  refine lv_iconst (v := nI 2) hx hb dJ6_bitCount_0f7a4_16 rfl ?_
  refine lv_iushr (v := (x1.toUInt32 >>> ((nI 2).toUInt32 &&& Int32.toUInt32 31)).toInt32) hx hb dJ6_bitCount_0f7a4_17 rfl ?_
  refine lv_ldcw (v := 858993459) hx hb hown (hts (.constant RJ6 266 (858993459)) (by decide +kernel)) dJ6_bitCount_0f7a4_18 ?_
  refine r_nat 858993459 rfl ?_
  refine lv_iand hx hb dJ6_bitCount_0f7a4_21 ?_
  refine lv_iadd hx hb dJ6_bitCount_0f7a4_22 ?_
  refine lv_topi (fun x2 h_x2 => ?_)
  refine lv_istore_n (lv' := [(0, .int x2)]) hx hb dJ6_bitCount_0f7a4_23 rfl hl (by decide) rfl (fun ls hl => ?_)
  refine lv_iload_n hx hb dJ6_bitCount_0f7a4_24 rfl (lv_at hl 0 rfl) ?_
  refine lv_iload_n hx hb dJ6_bitCount_0f7a4_25 rfl (lv_at hl 0 rfl) ?_
  refine lv_iconst (v := nI 4) hx hb dJ6_bitCount_0f7a4_26 rfl ?_
  refine lv_iushr (v := (x2.toUInt32 >>> ((nI 4).toUInt32 &&& Int32.toUInt32 31)).toInt32) hx hb dJ6_bitCount_0f7a4_27 rfl ?_
  refine lv_iadd hx hb dJ6_bitCount_0f7a4_28 ?_
  refine lv_ldcw (v := 252645135) hx hb hown (hts (.constant RJ6 267 (252645135)) (by decide +kernel)) dJ6_bitCount_0f7a4_29 ?_
  refine r_nat 252645135 rfl ?_
  refine lv_iand hx hb dJ6_bitCount_0f7a4_32 ?_
  refine lv_topi (fun x3 h_x3 => ?_)
  refine lv_istore_n (lv' := [(0, .int x3)]) hx hb dJ6_bitCount_0f7a4_33 rfl hl (by decide) rfl (fun ls hl => ?_)
  refine lv_iload_n hx hb dJ6_bitCount_0f7a4_34 rfl (lv_at hl 0 rfl) ?_
  refine lv_iload_n hx hb dJ6_bitCount_0f7a4_35 rfl (lv_at hl 0 rfl) ?_
  refine lv_bipush (v := nI 8) hx hb dJ6_bitCount_0f7a4_36 rfl ?_
  refine lv_iushr (v := (x3.toUInt32 >>> ((nI 8).toUInt32 &&& Int32.toUInt32 31)).toInt32) hx hb dJ6_bitCount_0f7a4_38 rfl ?_
  refine lv_iadd hx hb dJ6_bitCount_0f7a4_39 ?_
  refine lv_topi (fun x4 h_x4 => ?_)
  refine lv_istore_n (lv' := [(0, .int x4)]) hx hb dJ6_bitCount_0f7a4_40 rfl hl (by decide) rfl (fun ls hl => ?_)
  refine lv_iload_n hx hb dJ6_bitCount_0f7a4_41 rfl (lv_at hl 0 rfl) ?_
  refine lv_iload_n hx hb dJ6_bitCount_0f7a4_42 rfl (lv_at hl 0 rfl) ?_
  refine lv_bipush (v := nI 16) hx hb dJ6_bitCount_0f7a4_43 rfl ?_
  refine lv_iushr (v := (x4.toUInt32 >>> ((nI 16).toUInt32 &&& Int32.toUInt32 31)).toInt32) hx hb dJ6_bitCount_0f7a4_45 rfl ?_
  refine lv_iadd hx hb dJ6_bitCount_0f7a4_46 ?_
  refine lv_topi (fun x5 h_x5 => ?_)
  refine lv_istore_n (lv' := [(0, .int x5)]) hx hb dJ6_bitCount_0f7a4_47 rfl hl (by decide) rfl (fun ls hl => ?_)
  refine lv_iload_n hx hb dJ6_bitCount_0f7a4_48 rfl (lv_at hl 0 rfl) ?_
  refine lv_bipush (v := nI 63) hx hb dJ6_bitCount_0f7a4_49 rfl ?_
  refine lv_iand hx hb dJ6_bitCount_0f7a4_51 ?_
  exact r_iret C hw dJ6_bitCount_0f7a4_52 ⟨rfl, (by rw [h_x5, h_x4, h_x3, h_x2, h_x1]; exact bc_ok n hn)⟩

set_option maxHeartbeats 4000000 in
set_option maxRecDepth 100000 in
theorem c_J7_fill_53178 {l : Launch} {G : vG} {tC : Nat} {ad : Nat → Nat} {N : Nat} {E : Nat → va_E} {q n : Nat} {f : Nat → Int32} {v : Int32} (hN0 : q + 1 ≤ N) (hE0 : E q = eI G n f) (hn : n < 2147483648) : MV l yJ7_fill_53178 wsJ7_fill_53178 ({ frames := 0, cells := 0, slots := 0, locals := 0 } : Room) G tC ad N E [.ref (ad q), .int v] (fun E2 => E2 q = eI G n (fillF f 0 n v) ∧ (∀ j, j ≠ q → E2 j = E j)) := by
  refine MV_of RJ7 rfl (by decide) rfl (Nat.le_of_ble_eq_true rfl) ?_
  intro pp_ ee_ ss_ mm_ aa_ bb_ me_ cc_ A ls C hw hl
  have hx := C.1
  have hb := C.2.1
  have hown := C.2.2.2.2.1
  have hts := C.2.2.2.2.2.1
  have hl : lv_has ls 4 [(0, .ref (ad q)), (1, .int v)] := hl
  refine lv_iconst (v := nI 0) hx hb dJ7_fill_53178_0 rfl ?_
  refine lv_istore_n (lv' := [(2, .int (nI 0)), (0, .ref (ad q)), (1, .int v)]) hx hb dJ7_fill_53178_1 rfl hl (by decide) rfl (fun ls hl => ?_)
  refine lv_aload_n hx hb dJ7_fill_53178_2 rfl (lv_at hl 1 rfl) ?_
  refine r_alenI C hw (i := q) (by omega) hE0 dJ7_fill_53178_3 ?_
  refine lv_istore_n (lv' := [(3, .int (nI n)), (2, .int (nI 0)), (0, .ref (ad q)), (1, .int v)]) hx hb dJ7_fill_53178_4 rfl hl (by decide) rfl (fun ls hl => ?_)
  have zlp5 : ∀ (zn : Nat) (i : Nat) (g : Nat → Int32), n - i < zn → (i ≤ n) → (g = fillF f 0 i v) → ∀ (E9 : Nat → va_E) (H9 : Heap) (L9 : List Loc), E9 q = eI G n g → (∀ j, j ≠ q → E9 j = E j) → Wd G A ss_.heap H9 L9 ad E9 N → ∀ (ls : Array Slot), lv_has ls 4 [(0, .ref (ad q)), (1, .int v), (2, .int (nI i)), (3, .int (nI n))] → W pp_ l ee_ ({ frames := 0, cells := 0, slots := 0, locals := 0 } : Room) ss_ mm_ aa_ bb_ me_ cc_ H9 L9 0 0 (QV bb_ aa_ ss_ G ad N A (fun E2 => E2 q = eI G n (fillF f 0 n v) ∧ (∀ j, j ≠ q → E2 j = E j))) (F0 mm_ 5 ls []) := by
    intro zn
    induction zn with
    | zero => intro i g zhm; exact absurd zhm (Nat.not_lt_zero _)
    | succ zn zih5 =>
      intro i g zhm5 hi hg zE_5 zH_5 zL_5 zl5_0 zlf5 zlw5 ls hl
      refine lv_iload_n hx hb dJ7_fill_53178_5 rfl (lv_at hl 2 rfl) ?_
      refine lv_iload_n hx hb dJ7_fill_53178_6 rfl (lv_at hl 3 rfl) ?_
      refine n_icmp_ge (tgt := 20) hx hb dJ7_fill_53178_7 (by decide) (by omega) (by omega) (fun zc7 => ?_) (fun zc7 => ?_)
      · exact r_vret C zlw5 dJ7_fill_53178_20 ⟨(zl5_0.trans (by rw [hg, show i = n by omega])), (fun j zm0 => zlf5 j zm0)⟩
      · refine lv_aload_n hx hb dJ7_fill_53178_10 rfl (lv_at hl 0 rfl) ?_
        refine lv_iload_n hx hb dJ7_fill_53178_11 rfl (lv_at hl 2 rfl) ?_
        refine lv_iload_n hx hb dJ7_fill_53178_12 rfl (lv_at hl 1 rfl) ?_
        refine r_iasN C zlw5 (i := q) (by omega) zl5_0 (j := i) (by omega) (by omega) dJ7_fill_53178_13 (fun zE1 zH1 zL1 zg1 zf1 zw1 => ?_)
        have zh1_0 : zE1 q = eI G n (upd g i v) := zg1
        have zfr1 : ∀ j, j ≠ q → zE1 j = E j := fun j zm0 => (zf1 j zm0).trans (zlf5 j zm0)
        refine lv_iinc (v := nI (i + 1)) (lv' := [(2, .int (nI (i + 1))), (0, .ref (ad q)), (1, .int v), (3, .int (nI n))]) hx hb dJ7_fill_53178_14 hl (k := 2) rfl (by rw [show Int32.ofInt 1 = nI 1 from rfl, nI_add]) (by decide) rfl (fun ls hl => ?_)
        refine lv_goto (tgt := 5) hx hb dJ7_fill_53178_17 (by decide) ?_
        exact zih5 (i + 1) (upd g i v) (by omega) (by omega) (by rw [hg]; exact fillF_s f v (Nat.zero_le _)) _ _ _ zh1_0 (fun j zm0 => zfr1 j zm0) zw1 _ (lv_sub hl [1, 2, 0, 3] rfl)
  exact zlp5 _ 0 f (Nat.lt_succ_self _) (by omega) (by exact (fillF_0 f 0 v).symm) _ _ _ hE0 (fun j _ => rfl) hw _ (lv_sub hl [2, 3, 1, 0] rfl)

set_option maxHeartbeats 4000000 in
set_option maxRecDepth 100000 in
theorem c_J7_rangeCheck_23922 {l : Launch} {G : vG} {tC : Nat} {ad : Nat → Nat} {N : Nat} {E : Nat → va_E} {a b d : Nat} (h1 : b ≤ d) (h2 : d ≤ a) (h3 : a < 2147483648) : MV l yJ7_rangeCheck_23922 wsJ7_rangeCheck_23922 ({ frames := 0, cells := 0, slots := 0, locals := 0 } : Room) G tC ad N E [.int (nI a), .int (nI b), .int (nI d)] (fun E2 => E2 = E) := by
  refine MV_of RJ7 rfl (by decide) rfl (Nat.le_of_ble_eq_true rfl) ?_
  intro pp_ ee_ ss_ mm_ aa_ bb_ me_ cc_ A ls C hw hl
  have hx := C.1
  have hb := C.2.1
  have hown := C.2.2.2.2.1
  have hts := C.2.2.2.2.2.1
  have hl : lv_has ls 3 [(0, .int (nI a)), (1, .int (nI b)), (2, .int (nI d))] := hl
  refine lv_iload_n hx hb dJ7_rangeCheck_23922_0 rfl (lv_at hl 1 rfl) ?_
  refine lv_iload_n hx hb dJ7_rangeCheck_23922_1 rfl (lv_at hl 2 rfl) ?_
  refine n_icmp_le (tgt := 46) hx hb dJ7_rangeCheck_23922_2 (by decide) (by omega) (by omega) (fun zc2_ => ?_) (fun zc2_ => ?_)
  · refine lv_iload_n hx hb dJ7_rangeCheck_23922_46 rfl (lv_at hl 1 rfl) ?_
    refine n_if_ge (tgt := 59) hx hb dJ7_rangeCheck_23922_47 (by decide) (by omega) (fun zc47 => ?_) (fun zc47 => ?_)
    · refine lv_iload_n hx hb dJ7_rangeCheck_23922_59 rfl (lv_at hl 2 rfl) ?_
      refine lv_iload_n hx hb dJ7_rangeCheck_23922_60 rfl (lv_at hl 0 rfl) ?_
      refine n_icmp_le (tgt := 73) hx hb dJ7_rangeCheck_23922_61 (by decide) (by omega) (by omega) (fun zc61 => ?_) (fun zc61 => ?_)
      · exact r_vret C hw dJ7_rangeCheck_23922_73 rfl
      · exact absurd zc61 (by omega)
    · exact zc47.elim
  · exact absurd zc2_ (by omega)

set_option maxHeartbeats 4000000 in
set_option maxRecDepth 100000 in
theorem c_J7_fill_fda19 {l : Launch} {G : vG} {tC : Nat} {ad : Nat → Nat} {N : Nat} {E : Nat → va_E} {q n a b : Nat} {f : Nat → Int32} {v : Int32} (hN0 : q + 1 ≤ N) (hE0 : E q = eI G n f) (hn : n < 2147483648) (h1 : a ≤ b) (h2 : b ≤ n) : MV l yJ7_fill_fda19 wsJ7_fill_fda19 ({ frames := 1, cells := 0, slots := 0, locals := 22 } : Room) G tC ad N E [.ref (ad q), .int (nI a), .int (nI b), .int v] (fun E2 => E2 q = eI G n (fillF f a b v) ∧ (∀ j, j ≠ q → E2 j = E j)) := by
  refine MV_of RJ7 rfl (by decide) rfl (Nat.le_of_ble_eq_true rfl) ?_
  intro pp_ ee_ ss_ mm_ aa_ bb_ me_ cc_ A ls C hw hl
  have hx := C.1
  have hb := C.2.1
  have hown := C.2.2.2.2.1
  have hts := C.2.2.2.2.2.1
  have hl : lv_has ls 5 [(0, .ref (ad q)), (1, .int (nI a)), (2, .int (nI b)), (3, .int v)] := hl
  refine lv_aload_n hx hb dJ7_fill_fda19_0 rfl (lv_at hl 0 rfl) ?_
  refine r_alenI C hw (i := q) (by omega) hE0 dJ7_fill_fda19_1 ?_
  refine lv_iload_n hx hb dJ7_fill_fda19_2 rfl (lv_at hl 1 rfl) ?_
  refine lv_iload_n hx hb dJ7_fill_fda19_3 rfl (lv_at hl 2 rfl) ?_
  refine r_sV C hw hl.1 [.int (nI n), .int (nI a), .int (nI b)] 3 rfl (c_J7_rangeCheck_23922 (l := l) (G := G) (tC := tC) (ad := ad) (N := N) (E := E) (a := n) (b := a) (d := b)   (by first | assumption | omega) (by first | assumption | omega) (by first | assumption | omega)) gJ7_fill_fda19_J7_rangeCheck_23922 rfl ⟨rfl, rfl⟩ (by decide +kernel) ⟨Nat.le_of_ble_eq_true rfl, Nat.le_of_ble_eq_true rfl⟩ (rest := []) rfl (Nat.le_of_ble_eq_true rfl) dJ7_fill_fda19_4 ⟨Nat.zero_le _, Nat.zero_le _⟩ (fun zE1 zH1 zL1 zp1 zw1 => ?_)
  have ze1 := zp1
  rw [ze1] at zw1
  clear ze1
  refine lv_iload_n hx hb dJ7_fill_fda19_7 rfl (lv_at hl 1 rfl) ?_
  refine lv_istore (lv' := [(4, .int (nI a)), (0, .ref (ad q)), (1, .int (nI a)), (2, .int (nI b)), (3, .int v)]) hx hb dJ7_fill_fda19_8 hl (by decide) rfl (fun ls hl => ?_)
  have zlp10 : ∀ (zn : Nat) (i : Nat) (g : Nat → Int32), b - i < zn → (a ≤ i) → (i ≤ b) → (g = fillF f a i v) → ∀ (E9 : Nat → va_E) (H9 : Heap) (L9 : List Loc), E9 q = eI G n g → (∀ j, j ≠ q → E9 j = E j) → Wd G A ss_.heap H9 L9 ad E9 N → ∀ (ls : Array Slot), lv_has ls 5 [(0, .ref (ad q)), (2, .int (nI b)), (3, .int v), (4, .int (nI i))] → W pp_ l ee_ ({ frames := 1, cells := 0, slots := 0, locals := 22 } : Room) ss_ mm_ aa_ bb_ me_ cc_ H9 L9 0 0 (QV bb_ aa_ ss_ G ad N A (fun E2 => E2 q = eI G n (fillF f a b v) ∧ (∀ j, j ≠ q → E2 j = E j))) (F0 mm_ 10 ls []) := by
    intro zn
    induction zn with
    | zero => intro i g zhm; exact absurd zhm (Nat.not_lt_zero _)
    | succ zn zih10 =>
      intro i g zhm10 hi1 hi hg zE_10 zH_10 zL_10 zl10_0 zlf10 zlw10 ls hl
      refine lv_iload hx hb dJ7_fill_fda19_10 (lv_at hl 3 rfl) ?_
      refine lv_iload_n hx hb dJ7_fill_fda19_12 rfl (lv_at hl 1 rfl) ?_
      refine n_icmp_ge (tgt := 27) hx hb dJ7_fill_fda19_13 (by decide) (by omega) (by omega) (fun zc13 => ?_) (fun zc13 => ?_)
      · exact r_vret C zlw10 dJ7_fill_fda19_27 ⟨(zl10_0.trans (by rw [hg, show i = b by omega])), (fun j zm0 => zlf10 j zm0)⟩
      · refine lv_aload_n hx hb dJ7_fill_fda19_16 rfl (lv_at hl 0 rfl) ?_
        refine lv_iload hx hb dJ7_fill_fda19_17 (lv_at hl 3 rfl) ?_
        refine lv_iload_n hx hb dJ7_fill_fda19_19 rfl (lv_at hl 2 rfl) ?_
        refine r_iasN C zlw10 (i := q) (by omega) zl10_0 (j := i) (by omega) (by omega) dJ7_fill_fda19_20 (fun zE2 zH2 zL2 zg2 zf2 zw2 => ?_)
        have zh2_0 : zE2 q = eI G n (upd g i v) := zg2
        have zfr2 : ∀ j, j ≠ q → zE2 j = E j := fun j zm0 => (zf2 j zm0).trans (zlf10 j zm0)
        refine lv_iinc (v := nI (i + 1)) (lv' := [(4, .int (nI (i + 1))), (0, .ref (ad q)), (2, .int (nI b)), (3, .int v)]) hx hb dJ7_fill_fda19_21 hl (k := 3) rfl (by rw [show Int32.ofInt 1 = nI 1 from rfl, nI_add]) (by decide) rfl (fun ls hl => ?_)
        refine lv_goto (tgt := 10) hx hb dJ7_fill_fda19_24 (by decide) ?_
        exact zih10 (i + 1) (upd g i v) (by omega) (by omega) (by omega) (by rw [hg]; exact fillF_s f v hi1) _ _ _ zh2_0 (fun j zm0 => zfr2 j zm0) zw2 _ (lv_sub hl [1, 2, 3, 0] rfl)
  exact zlp10 _ a f (Nat.lt_succ_self _) (by omega) (by omega) (by exact (fillF_0 f a v).symm) _ _ _ hE0 (fun j _ => rfl) zw1 _ (lv_sub hl [1, 3, 4, 0] rfl)

set_option maxHeartbeats 4000000 in
set_option maxRecDepth 100000 in
theorem c_X7_isWithin {l : Launch} {G : vG} {tC : Nat} {ad : Nat → Nat} {N : Nat} {E : Nat → va_E} {x a b : Int32}  : MI l yX7_isWithin wsX7_isWithin ({ frames := 0, cells := 0, slots := 0, locals := 0 } : Room) G tC ad N E [.int x, .int a, .int b] (fun r E2 => E2 = E ∧ r = if a ≤ x ∧ x ≤ b then 1 else 0) := by
  refine MI_of RX7 rfl (by decide) rfl (Nat.le_of_ble_eq_true rfl) ?_
  intro pp_ ee_ ss_ mm_ aa_ bb_ me_ cc_ A ls C hw hl
  have hx := C.1
  have hb := C.2.1
  have hown := C.2.2.2.2.1
  have hts := C.2.2.2.2.2.1
  have hl : lv_has ls 3 [(0, .int x), (1, .int a), (2, .int b)] := hl
  refine lv_iload_n hx hb dX7_isWithin_0 rfl (lv_at hl 1 rfl) ?_
  refine lv_iload_n hx hb dX7_isWithin_1 rfl (lv_at hl 0 rfl) ?_
  refine lv_icmp_gt (tgt := 14) hx hb dX7_isWithin_2 (by decide) (fun zc2 => ?_) (fun zc2 => ?_)
  · refine lv_iconst (v := nI 0) hx hb dX7_isWithin_14 rfl ?_
    exact r_zret C hw dX7_isWithin_15 (Or.inl rfl) ⟨rfl, (by first | (rw [if_pos ⟨Int32.not_lt.mp zc2, Int32.not_lt.mp zc7⟩]; rfl) | (rw [if_neg (fun q => Int32.not_lt.mpr q.1 zc2)]; rfl) | (rw [if_neg (fun q => Int32.not_lt.mpr q.2 zc7)]; rfl))⟩
  · refine lv_iload_n hx hb dX7_isWithin_5 rfl (lv_at hl 0 rfl) ?_
    refine lv_iload_n hx hb dX7_isWithin_6 rfl (lv_at hl 2 rfl) ?_
    refine lv_icmp_gt (tgt := 14) hx hb dX7_isWithin_7 (by decide) (fun zc7 => ?_) (fun zc7 => ?_)
    · refine lv_iconst (v := nI 0) hx hb dX7_isWithin_14 rfl ?_
      exact r_zret C hw dX7_isWithin_15 (Or.inl rfl) ⟨rfl, (by first | (rw [if_pos ⟨Int32.not_lt.mp zc2, Int32.not_lt.mp zc7⟩]; rfl) | (rw [if_neg (fun q => Int32.not_lt.mpr q.1 zc2)]; rfl) | (rw [if_neg (fun q => Int32.not_lt.mpr q.2 zc7)]; rfl))⟩
    · refine lv_iconst (v := nI 1) hx hb dX7_isWithin_10 rfl ?_
      refine lv_goto (tgt := 15) hx hb dX7_isWithin_11 (by decide) ?_
      exact r_zret C hw dX7_isWithin_15 (Or.inr rfl) ⟨rfl, (by first | (rw [if_pos ⟨Int32.not_lt.mp zc2, Int32.not_lt.mp zc7⟩]; rfl) | (rw [if_neg (fun q => Int32.not_lt.mpr q.1 zc2)]; rfl) | (rw [if_neg (fun q => Int32.not_lt.mpr q.2 zc7)]; rfl))⟩

set_option maxHeartbeats 4000000 in
set_option maxRecDepth 100000 in
theorem c_X1_encode {l : Launch} {G : vG} {tC : Nat} {ad : Nat → Nat} {N : Nat} {E : Nat → va_E} {v : Nat} (hv : v < 16) : MI l yX1_encode wsX1_encode ({ frames := 0, cells := 0, slots := 0, locals := 0 } : Room) G tC ad N E [.int (nI v)] (fun r E2 => E2 = E ∧ r = codeT v) := by
  refine MI_of RX1 rfl (by decide) rfl (Nat.le_of_ble_eq_true rfl) ?_
  intro pp_ ee_ ss_ mm_ aa_ bb_ me_ cc_ A ls C hw hl
  have hx := C.1
  have hb := C.2.1
  have hown := C.2.2.2.2.1
  have hts := C.2.2.2.2.2.1
  have hl : lv_has ls 1 [(0, .int (nI v))] := hl
  refine r_codes C hw (by decide +kernel) dX1_encode_0 ?_
  refine lv_iload_n hx hb dX1_encode_3 rfl (lv_at hl 0 rfl) ?_
  refine lv_bipush (v := nI 15) hx hb dX1_encode_4 rfl ?_
  refine lv_iand hx hb dX1_encode_6 ?_
  refine r_nat v (and15 hv) ?_
  refine r_codeN C hw (j := v) (by omega) dX1_encode_7 ?_
  exact r_iret C hw dX1_encode_8 ⟨rfl, (by rfl)⟩

set_option maxHeartbeats 4000000 in
set_option maxRecDepth 100000 in
theorem c_X1_decode {l : Launch} {G : vG} {tC : Nat} {ad : Nat → Nat} {N : Nat} {E : Nat → va_E} {o : Nat} (ho : o < 256) : MI l yX1_decode wsX1_decode ({ frames := 1, cells := 0, slots := 0, locals := 20 } : Room) G tC ad N E [.int (nI o)] (fun r E2 => E2 = E ∧ r = dec o) := by
  refine MI_of RX1 rfl (by decide) rfl (Nat.le_of_ble_eq_true rfl) ?_
  intro pp_ ee_ ss_ mm_ aa_ bb_ me_ cc_ A ls C hw hl
  have hx := C.1
  have hb := C.2.1
  have hown := C.2.2.2.2.1
  have hts := C.2.2.2.2.2.1
  have hl : lv_has ls 2 [(0, .int (nI o))] := hl
  refine lv_iconst (v := nI 0) hx hb dX1_decode_0 rfl ?_
  refine lv_istore_n (lv' := [(1, .int (nI 0)), (0, .int (nI o))]) hx hb dX1_decode_1 rfl hl (by decide) rfl (fun ls hl => ?_)
  have zlp2 : ∀ (zn : Nat) (v : Nat), 16 - v < zn → (v ≤ 16) → (decS o (16 - v) v = decN o) → ∀ (H9 : Heap) (L9 : List Loc), Wd G A ss_.heap H9 L9 ad E N → ∀ (ls : Array Slot), lv_has ls 2 [(0, .int (nI o)), (1, .int (nI v))] → W pp_ l ee_ ({ frames := 1, cells := 0, slots := 0, locals := 20 } : Room) ss_ mm_ aa_ bb_ me_ cc_ H9 L9 0 0 (QI bb_ aa_ ss_ G ad N A (fun r E2 => E2 = E ∧ r = dec o)) (F0 mm_ 2 ls []) := by
    intro zn
    induction zn with
    | zero => intro v zhm; exact absurd zhm (Nat.not_lt_zero _)
    | succ zn zih2 =>
      intro v zhm2 hv hd zH_2 zL_2 zlw2 ls hl
      refine lv_iload_n hx hb dX1_decode_2 rfl (lv_at hl 1 rfl) ?_
      refine r_codes C zlw2 (by decide +kernel) dX1_decode_3 ?_
      refine r_codeL C zlw2 dX1_decode_6 ?_
      refine n_icmp_ge (tgt := 32) hx hb dX1_decode_7 (by decide) (by omega) (by omega) (fun zc7 => ?_) (fun zc7 => ?_)
      · refine lv_iconst (v := -1) hx hb dX1_decode_32 (by decide) ?_
        exact r_iret C zlw2 dX1_decode_33 ⟨rfl, (by have ze9 : decN o = 16 := (by rw [← hd, show v = 16 by omega]; rfl); rw [dec, ze9, if_neg (by omega)])⟩
      · refine lv_iload_n hx hb dX1_decode_10 rfl (lv_at hl 0 rfl) ?_
        refine r_codes C zlw2 (by decide +kernel) dX1_decode_11 ?_
        refine lv_iload_n hx hb dX1_decode_14 rfl (lv_at hl 1 rfl) ?_
        refine r_codeN C zlw2 (j := v) (by omega) dX1_decode_15 ?_
        refine r_nat (codeN v) (codeT_nI v (by omega)) ?_
        refine lv_ixor hx hb dX1_decode_16 ?_
        refine r_nat (o ^^^ codeN v) (xor_nI _ _) ?_
        refine r_sI C zlw2 hl.1 [.int (nI (o ^^^ codeN v))] 1 rfl (c_J6_bitCount_0f7a4 (l := l) (G := G) (tC := tC) (ad := ad) (N := N) (E := E) (n := o ^^^ codeN v)   (xor_lt ho (codeN_lt v (by omega)))) gX1_decode_J6_bitCount_0f7a4 rfl ⟨rfl, rfl⟩ (by decide +kernel) ⟨Nat.le_of_ble_eq_true rfl, Nat.le_of_ble_eq_true rfl⟩ (rest := []) rfl (Nat.le_of_ble_eq_true rfl) dX1_decode_17 ⟨Nat.zero_le _, Nat.zero_le _⟩ (fun zr1 zE1 zH1 zL1 zp1 zw1 => ?_)
        obtain ⟨ze1, zq1⟩ := zp1
        rw [ze1] at zw1
        clear ze1
        rw [zq1]
        refine lv_iconst (v := nI 1) hx hb dX1_decode_20 rfl ?_
        have b8 := pc8_le (o ^^^ codeN v)
        refine n_icmp_gt (tgt := 26) hx hb dX1_decode_21 (by decide) (by omega) (by omega) (fun zc21 => ?_) (fun zc21 => ?_)
        · refine lv_iinc (v := nI (v + 1)) (lv' := [(1, .int (nI (v + 1))), (0, .int (nI o))]) hx hb dX1_decode_26 hl (k := 1) rfl (by rw [show Int32.ofInt 1 = nI 1 from rfl, nI_add]) (by decide) rfl (fun ls hl => ?_)
          refine lv_goto (tgt := 2) hx hb dX1_decode_29 (by decide) ?_
          exact zih2 (v + 1) (by omega) (by omega) (by rw [← hd, show 16 - v = (16 - (v + 1)) + 1 by omega, decS, if_neg (by omega)]) _ _ zw1 _ (lv_sub hl [1, 0] rfl)
        · refine lv_iload_n hx hb dX1_decode_24 rfl (lv_at hl 1 rfl) ?_
          exact r_iret C zw1 dX1_decode_25 ⟨rfl, (by have ze9 : decN o = v := (by rw [← hd, show 16 - v = (16 - (v + 1)) + 1 by omega, decS, if_pos (by omega)]); rw [dec, ze9, if_pos (by omega)])⟩
  exact zlp2 _ 0 (Nat.lt_succ_self _) (by omega) (by rfl) _ _ hw _ (lv_sub hl [1, 0] rfl)

set_option maxHeartbeats 4000000 in
set_option maxRecDepth 100000 in
theorem c_X1_isWell {l : Launch} {G : vG} {tC : Nat} {ad : Nat → Nat} {N : Nat} {E : Nat → va_E} {n : Nat} (hn : n < 256) : MI l yX1_isWell wsX1_isWell ({ frames := 1, cells := 0, slots := 0, locals := 20 } : Room) G tC ad N E [.int (nI n)] (fun r E2 => E2 = E ∧ r = if pc8 n % 2 = 1 then 1 else 0) := by
  refine MI_of RX1 rfl (by decide) rfl (Nat.le_of_ble_eq_true rfl) ?_
  intro pp_ ee_ ss_ mm_ aa_ bb_ me_ cc_ A ls C hw hl
  have hx := C.1
  have hb := C.2.1
  have hown := C.2.2.2.2.1
  have hts := C.2.2.2.2.2.1
  have hl : lv_has ls 1 [(0, .int (nI n))] := hl
  refine lv_iload_n hx hb dX1_isWell_0 rfl (lv_at hl 0 rfl) ?_
  refine r_sI C hw hl.1 [.int (nI n)] 1 rfl (c_J6_bitCount_0f7a4 (l := l) (G := G) (tC := tC) (ad := ad) (N := N) (E := E) (n := n)   (by first | assumption | omega)) gX1_isWell_J6_bitCount_0f7a4 rfl ⟨rfl, rfl⟩ (by decide +kernel) ⟨Nat.le_of_ble_eq_true rfl, Nat.le_of_ble_eq_true rfl⟩ (rest := []) rfl (Nat.le_of_ble_eq_true rfl) dX1_isWell_1 ⟨Nat.zero_le _, Nat.zero_le _⟩ (fun zr1 zE1 zH1 zL1 zp1 zw1 => ?_)
  obtain ⟨ze1, zq1⟩ := zp1
  rw [ze1] at zw1
  clear ze1
  rw [zq1]
  refine lv_iconst (v := nI 1) hx hb dX1_isWell_4 rfl ?_
  refine lv_iand hx hb dX1_isWell_5 ?_
  refine r_nat (pc8 n % 2) (pk_andN (by have := pc8_le n; omega) 1 rfl) ?_
  refine lv_iconst (v := nI 1) hx hb dX1_isWell_6 rfl ?_
  refine n_icmp_ne (tgt := 14) hx hb dX1_isWell_7 (by decide) (by omega) (by omega) (fun zc7 => ?_) (fun zc7 => ?_)
  · refine lv_iconst (v := nI 0) hx hb dX1_isWell_14 rfl ?_
    exact r_zret C zw1 dX1_isWell_15 (Or.inl rfl) ⟨rfl, (by first | (rw [if_pos (by omega)]; rfl) | (rw [if_neg (by omega)]; rfl))⟩
  · refine lv_iconst (v := nI 1) hx hb dX1_isWell_10 rfl ?_
    refine lv_goto (tgt := 15) hx hb dX1_isWell_11 (by decide) ?_
    exact r_zret C zw1 dX1_isWell_15 (Or.inr rfl) ⟨rfl, (by first | (rw [if_pos (by omega)]; rfl) | (rw [if_neg (by omega)]; rfl))⟩

set_option maxHeartbeats 4000000 in
set_option maxRecDepth 100000 in
theorem c_X1_oddOctet {l : Launch} {G : vG} {tC : Nat} {ad : Nat → Nat} {N : Nat} {E : Nat → va_E} {n : Nat} (hn : n < 128) : MI l yX1_oddOctet wsX1_oddOctet ({ frames := 2, cells := 0, slots := 0, locals := 40 } : Room) G tC ad N E [.int (nI n)] (fun r E2 => E2 = E ∧ r = nI (if pc8 n % 2 = 1 then n else n + 128)) := by
  refine MI_of RX1 rfl (by decide) rfl (Nat.le_of_ble_eq_true rfl) ?_
  intro pp_ ee_ ss_ mm_ aa_ bb_ me_ cc_ A ls C hw hl
  have hx := C.1
  have hb := C.2.1
  have hown := C.2.2.2.2.1
  have hts := C.2.2.2.2.2.1
  have hl : lv_has ls 1 [(0, .int (nI n))] := hl
  refine lv_iload_n hx hb dX1_oddOctet_0 rfl (lv_at hl 0 rfl) ?_
  refine r_sI C hw hl.1 [.int (nI n)] 1 rfl (c_X1_isWell (l := l) (G := G) (tC := tC) (ad := ad) (N := N) (E := E) (n := n)   (by first | assumption | omega)) gX1_oddOctet_X1_isWell rfl ⟨rfl, rfl⟩ (by decide +kernel) ⟨Nat.le_of_ble_eq_true rfl, Nat.le_of_ble_eq_true rfl⟩ (rest := []) rfl (Nat.le_of_ble_eq_true rfl) dX1_oddOctet_1 ⟨Nat.zero_le _, Nat.zero_le _⟩ (fun zr1 zE1 zH1 zL1 zp1 zw1 => ?_)
  obtain ⟨ze1, zq1⟩ := zp1
  rw [ze1] at zw1
  clear ze1
  refine lv_if_eq (tgt := 11) hx hb dX1_oddOctet_4 (by decide) (fun zc4 => ?_) (fun zc4 => ?_)
  · refine lv_iload_n hx hb dX1_oddOctet_11 rfl (lv_at hl 0 rfl) ?_
    refine lv_sipush (v := nI 128) hx hb dX1_oddOctet_12 rfl ?_
    refine lv_ior hx hb dX1_oddOctet_15 ?_
    refine r_nat (n + 128) (or128 n hn) ?_
    exact r_iret C zw1 dX1_oddOctet_16 ⟨rfl, (by first | rw [if_pos (by apply Classical.byContradiction; intro q; rw [if_neg q] at zq1; exact zc4 zq1)] | rw [if_neg (by intro q; rw [if_pos q] at zq1; rw [zq1] at zc4; exact absurd zc4 (by decide))])⟩
  · refine lv_iload_n hx hb dX1_oddOctet_7 rfl (lv_at hl 0 rfl) ?_
    refine lv_goto (tgt := 16) hx hb dX1_oddOctet_8 (by decide) ?_
    exact r_iret C zw1 dX1_oddOctet_16 ⟨rfl, (by first | rw [if_pos (by apply Classical.byContradiction; intro q; rw [if_neg q] at zq1; exact zc4 zq1)] | rw [if_neg (by intro q; rw [if_pos q] at zq1; rw [zq1] at zc4; exact absurd zc4 (by decide))])⟩

set_option maxHeartbeats 4000000 in
set_option maxRecDepth 100000 in
theorem c_X5_get {l : Launch} {G : vG} {tC : Nat} {ad : Nat → Nat} {N : Nat} {E : Nat → va_E} {i pg cm hd : Nat} {lst md sd : Int32} {cs : Nat → Int32} {k cl : Nat} (hN0 : i + 3 ≤ N) (hE0 : E i = .inr (2, [.ref (ad (i + 1)), .ref (ad (i + 2)), .int (nI pg), .int (nI cm), .int lst, .int md, .int sd, .int (nI hd)])) (hE1 : E (i + 1) = eI G 500 cs) (hk : k * 50 + cl < 500) : MI l yX5_get wsX5_get ({ frames := 0, cells := 0, slots := 0, locals := 0 } : Room) G tC ad N E [.ref (ad i), .int (nI k), .int (nI cl)] (fun r E2 => E2 = E ∧ r = cs (k * 50 + cl)) := by
  refine MI_of RX5 rfl (by decide) rfl (Nat.le_of_ble_eq_true rfl) ?_
  intro pp_ ee_ ss_ mm_ aa_ bb_ me_ cc_ A ls C hw hl
  have hx := C.1
  have hb := C.2.1
  have hown := C.2.2.2.2.1
  have hts := C.2.2.2.2.2.1
  have hl : lv_has ls 4 [(0, .ref (ad i)), (1, .int (nI k)), (2, .int (nI cl))] := hl
  have hinX5 : ∀ w ∈ u_ws RX5 TX5 8, w ∈ wsX5_get := by decide +kernel
  refine lv_iload_n hx hb dX5_get_0 rfl (lv_at hl 1 rfl) ?_
  refine lv_bipush (v := nI 50) hx hb dX5_get_1 rfl ?_
  refine lv_imul hx hb dX5_get_3 ?_
  refine r_nat (k * 50) (pk_mul _ _) ?_
  refine lv_iload_n hx hb dX5_get_4 rfl (lv_at hl 2 rfl) ?_
  refine lv_iadd hx hb dX5_get_5 ?_
  refine r_nat (k * 50 + cl) (nI_add _ _) ?_
  refine lv_istore_n (lv' := [(3, .int (nI (k * 50 + cl))), (0, .ref (ad i)), (1, .int (nI k)), (2, .int (nI cl))]) hx hb dX5_get_6 rfl hl (by decide) rfl (fun ls hl => ?_)
  refine lv_iload_n hx hb dX5_get_7 rfl (lv_at hl 0 rfl) ?_
  refine n_if_lt (tgt := 20) hx hb dX5_get_8 (by decide) (by omega) (fun zc8 => ?_) (fun zc8 => ?_)
  · exact zc8.elim
  · refine lv_iload_n hx hb dX5_get_11 rfl (lv_at hl 0 rfl) ?_
    refine lv_aload_n hx hb dX5_get_12 rfl (lv_at hl 1 rfl) ?_
    refine r_get C hw RX5 TX5 8 2 hinX5 (i := i) (by omega) hE0 rfl 0 (by decide) (by decide +kernel) rfl (v := .ref (ad (i + 1))) rfl dX5_get_13 ?_
    refine r_alenI C hw (i := (i + 1)) (by omega) hE1 dX5_get_16 ?_
    refine n_icmp_lt (tgt := 24) hx hb dX5_get_17 (by decide) (by omega) (by omega) (fun zc17 => ?_) (fun zc17 => ?_)
    · refine lv_aload_n hx hb dX5_get_24 rfl (lv_at hl 1 rfl) ?_
      refine r_get C hw RX5 TX5 8 2 hinX5 (i := i) (by omega) hE0 rfl 0 (by decide) (by decide +kernel) rfl (v := .ref (ad (i + 1))) rfl dX5_get_25 ?_
      refine lv_iload_n hx hb dX5_get_28 rfl (lv_at hl 0 rfl) ?_
      refine r_iaN C hw (i := (i + 1)) (by omega) hE1 (j := k * 50 + cl) (by omega) (by omega) dX5_get_29 ?_
      exact r_iret C hw dX5_get_30 ⟨rfl, (by rfl)⟩
    · exact absurd zc17 (by omega)

set_option maxHeartbeats 4000000 in
set_option maxRecDepth 100000 in
theorem c_X5_set {l : Launch} {G : vG} {tC : Nat} {ad : Nat → Nat} {N : Nat} {E : Nat → va_E} {i pg cm hd : Nat} {lst md sd : Int32} {cs : Nat → Int32} {k cl : Nat} {v : Int32} (hN0 : i + 3 ≤ N) (hE0 : E i = .inr (2, [.ref (ad (i + 1)), .ref (ad (i + 2)), .int (nI pg), .int (nI cm), .int lst, .int md, .int sd, .int (nI hd)])) (hE1 : E (i + 1) = eI G 500 cs) (hk : k * 50 + cl < 500) : MV l yX5_set wsX5_set ({ frames := 0, cells := 0, slots := 0, locals := 0 } : Room) G tC ad N E [.ref (ad i), .int (nI k), .int (nI cl), .int v] (fun E2 => E2 (i + 1) = eI G 500 (upd cs (k * 50 + cl) v) ∧ (∀ j, j ≠ (i + 1) → E2 j = E j)) := by
  refine MV_of RX5 rfl (by decide) rfl (Nat.le_of_ble_eq_true rfl) ?_
  intro pp_ ee_ ss_ mm_ aa_ bb_ me_ cc_ A ls C hw hl
  have hx := C.1
  have hb := C.2.1
  have hown := C.2.2.2.2.1
  have hts := C.2.2.2.2.2.1
  have hl : lv_has ls 5 [(0, .ref (ad i)), (1, .int (nI k)), (2, .int (nI cl)), (3, .int v)] := hl
  have hinX5 : ∀ w ∈ u_ws RX5 TX5 8, w ∈ wsX5_set := by decide +kernel
  refine lv_iload_n hx hb dX5_set_0 rfl (lv_at hl 1 rfl) ?_
  refine lv_bipush (v := nI 50) hx hb dX5_set_1 rfl ?_
  refine lv_imul hx hb dX5_set_3 ?_
  refine r_nat (k * 50) (pk_mul _ _) ?_
  refine lv_iload_n hx hb dX5_set_4 rfl (lv_at hl 2 rfl) ?_
  refine lv_iadd hx hb dX5_set_5 ?_
  refine r_nat (k * 50 + cl) (nI_add _ _) ?_
  refine lv_istore (lv' := [(4, .int (nI (k * 50 + cl))), (0, .ref (ad i)), (1, .int (nI k)), (2, .int (nI cl)), (3, .int v)]) hx hb dX5_set_6 hl (by decide) rfl (fun ls hl => ?_)
  refine lv_iload hx hb dX5_set_8 (lv_at hl 0 rfl) ?_
  refine n_if_lt (tgt := 31) hx hb dX5_set_10 (by decide) (by omega) (fun zc10 => ?_) (fun zc10 => ?_)
  · exact zc10.elim
  · refine lv_iload hx hb dX5_set_13 (lv_at hl 0 rfl) ?_
    refine lv_aload_n hx hb dX5_set_15 rfl (lv_at hl 1 rfl) ?_
    refine r_get C hw RX5 TX5 8 2 hinX5 (i := i) (by omega) hE0 rfl 0 (by decide) (by decide +kernel) rfl (v := .ref (ad (i + 1))) rfl dX5_set_16 ?_
    refine r_alenI C hw (i := (i + 1)) (by omega) hE1 dX5_set_19 ?_
    refine n_icmp_ge (tgt := 31) hx hb dX5_set_20 (by decide) (by omega) (by omega) (fun zc20 => ?_) (fun zc20 => ?_)
    · exact absurd zc20 (by omega)
    · refine lv_aload_n hx hb dX5_set_23 rfl (lv_at hl 1 rfl) ?_
      refine r_get C hw RX5 TX5 8 2 hinX5 (i := i) (by omega) hE0 rfl 0 (by decide) (by decide +kernel) rfl (v := .ref (ad (i + 1))) rfl dX5_set_24 ?_
      refine lv_iload hx hb dX5_set_27 (lv_at hl 0 rfl) ?_
      refine lv_iload_n hx hb dX5_set_29 rfl (lv_at hl 4 rfl) ?_
      refine r_iasN C hw (i := (i + 1)) (by omega) hE1 (j := k * 50 + cl) (by omega) (by omega) dX5_set_30 (fun zE1 zH1 zL1 zg1 zf1 zw1 => ?_)
      have zh1_0 : zE1 (i + 1) = eI G 500 (upd cs (k * 50 + cl) v) := zg1
      have zk1_0 : zE1 i = .inr (2, [.ref (ad (i + 1)), .ref (ad (i + 2)), .int (nI pg), .int (nI cm), .int lst, .int md, .int sd, .int (nI hd)]) := (zf1 _ (by omega)).trans hE0
      have zfr1 : ∀ j, j ≠ (i + 1) → zE1 j = E j := fun j zm0 => zf1 j zm0
      exact r_vret C zw1 dX5_set_31 ⟨zh1_0, (fun j zm0 => zfr1 j zm0)⟩

set_option maxHeartbeats 4000000 in
set_option maxRecDepth 100000 in
theorem c_X5_has {l : Launch} {G : vG} {tC : Nat} {ad : Nat → Nat} {N : Nat} {E : Nat → va_E} {i pg cm hd : Nat} {lst md sd : Int32} {k : Int32} (hN0 : i + 3 ≤ N) (hE0 : E i = .inr (2, [.ref (ad (i + 1)), .ref (ad (i + 2)), .int (nI pg), .int (nI cm), .int lst, .int md, .int sd, .int (nI hd)])) (hp : pg < 2147483648) : MI l yX5_has wsX5_has ({ frames := 1, cells := 0, slots := 0, locals := 22 } : Room) G tC ad N E [.ref (ad i), .int k] (fun r E2 => E2 = E ∧ r = if hasP pg k then 1 else 0) := by
  refine MI_of RX5 rfl (by decide) rfl (Nat.le_of_ble_eq_true rfl) ?_
  intro pp_ ee_ ss_ mm_ aa_ bb_ me_ cc_ A ls C hw hl
  have hx := C.1
  have hb := C.2.1
  have hown := C.2.2.2.2.1
  have hts := C.2.2.2.2.2.1
  have hl : lv_has ls 2 [(0, .ref (ad i)), (1, .int k)] := hl
  have hinX5 : ∀ w ∈ u_ws RX5 TX5 8, w ∈ wsX5_has := by decide +kernel
  refine lv_iload_n hx hb dX5_has_0 rfl (lv_at hl 1 rfl) ?_
  refine lv_iconst (v := nI 0) hx hb dX5_has_1 rfl ?_
  refine lv_aload_n hx hb dX5_has_2 rfl (lv_at hl 0 rfl) ?_
  refine r_get C hw RX5 TX5 8 2 hinX5 (i := i) (by omega) hE0 rfl 2 (by decide) (by decide +kernel) rfl (v := .int (nI pg)) rfl dX5_has_3 ?_
  refine lv_iconst (v := nI 1) hx hb dX5_has_6 rfl ?_
  refine lv_isub hx hb dX5_has_7 ?_
  refine r_nI C hw hl.1 [.int k, .int (nI 0), .int ((nI pg) - (nI 1))] 3 rfl (c_X7_isWithin (l := l) (G := G) (tC := tC) (ad := ad) (N := N) (E := E) (x := k) (a := nI 0) (b := (nI pg) - (nI 1))   ) C.2.2.2.2.2.2.1.2.2.2.1 gX5_has_X7_isWithin_n66 rfl ⟨rfl, rfl⟩ (by decide +kernel) (by decide +kernel) (by decide +kernel) ⟨Nat.le_of_ble_eq_true rfl, Nat.le_of_ble_eq_true rfl⟩ (rest := []) rfl (Nat.le_of_ble_eq_true rfl) dX5_has_8 ⟨Nat.zero_le _, Nat.zero_le _⟩ (fun zr1 zE1 zH1 zL1 zp1 zw1 => ?_)
  obtain ⟨ze1, zq1⟩ := zp1
  rw [ze1] at zw1
  clear ze1
  rw [zq1]
  exact r_zret C zw1 dX5_has_11 (by split <;> simp) ⟨rfl, (by simp only [has_iff hp])⟩

set_option maxHeartbeats 4000000 in
set_option maxRecDepth 100000 in
theorem c_X5_linkAt {l : Launch} {G : vG} {tC : Nat} {ad : Nat → Nat} {N : Nat} {E : Nat → va_E} {i pg cm hd : Nat} {lst md sd : Int32} {cs : Nat → Int32} {k j : Nat} (hN0 : i + 3 ≤ N) (hE0 : E i = .inr (2, [.ref (ad (i + 1)), .ref (ad (i + 2)), .int (nI pg), .int (nI cm), .int lst, .int md, .int sd, .int (nI hd)])) (hE1 : E (i + 1) = eI G 500 cs) (hk : k * 50 + (6 + j) < 500) : MI l yX5_linkAt wsX5_linkAt ({ frames := 1, cells := 0, slots := 0, locals := 23 } : Room) G tC ad N E [.ref (ad i), .int (nI k), .int (nI j)] (fun r E2 => E2 = E ∧ r = cs (k * 50 + (6 + j))) := by
  refine MI_of RX5 rfl (by decide) rfl (Nat.le_of_ble_eq_true rfl) ?_
  intro pp_ ee_ ss_ mm_ aa_ bb_ me_ cc_ A ls C hw hl
  have hx := C.1
  have hb := C.2.1
  have hown := C.2.2.2.2.1
  have hts := C.2.2.2.2.2.1
  have hl : lv_has ls 3 [(0, .ref (ad i)), (1, .int (nI k)), (2, .int (nI j))] := hl
  refine lv_aload_n hx hb dX5_linkAt_0 rfl (lv_at hl 0 rfl) ?_
  refine lv_iload_n hx hb dX5_linkAt_1 rfl (lv_at hl 1 rfl) ?_
  refine lv_bipush (v := nI 6) hx hb dX5_linkAt_2 rfl ?_
  refine lv_iload_n hx hb dX5_linkAt_4 rfl (lv_at hl 2 rfl) ?_
  refine lv_iadd hx hb dX5_linkAt_5 ?_
  refine r_nat (6 + j) (nI_add _ _) ?_
  refine r_vI C hw hl.1 (i := i) (by omega) hE0 (T := TX5) (n := 8) rfl [.int (nI k), .int (nI (6 + j))] 2 rfl (c_X5_get (l := l) (G := G) (tC := tC) (ad := ad) (N := N) (E := E) (i := i) (pg := pg) (cm := cm) (hd := hd) (lst := lst) (md := md) (sd := sd) (cs := cs) (k := k) (cl := 6 + j) (by omega) hE0 hE1 (by first | assumption | omega)) gX5_linkAt_X5_get rfl ⟨rfl, rfl⟩ (by decide +kernel) ⟨Nat.le_of_ble_eq_true rfl, Nat.le_of_ble_eq_true rfl⟩ (rest := []) rfl (Nat.le_of_ble_eq_true rfl) dX5_linkAt_6 ⟨Nat.zero_le _, Nat.zero_le _⟩ (fun zr1 zE1 zH1 zL1 zp1 zw1 => ?_)
  obtain ⟨ze1, zq1⟩ := zp1
  rw [ze1] at zw1
  clear ze1
  rw [zq1]
  exact r_iret C zw1 dX5_linkAt_9 ⟨rfl, (by rfl)⟩

set_option maxHeartbeats 4000000 in
set_option maxRecDepth 100000 in
theorem c_X5_putLink {l : Launch} {G : vG} {tC : Nat} {ad : Nat → Nat} {N : Nat} {E : Nat → va_E} {i pg cm hd : Nat} {lst md sd : Int32} {cs : Nat → Int32} {k j : Nat} {v : Int32} (hN0 : i + 3 ≤ N) (hE0 : E i = .inr (2, [.ref (ad (i + 1)), .ref (ad (i + 2)), .int (nI pg), .int (nI cm), .int lst, .int md, .int sd, .int (nI hd)])) (hE1 : E (i + 1) = eI G 500 cs) (hk : k * 50 + (6 + j) < 500) : MV l yX5_putLink wsX5_putLink ({ frames := 1, cells := 0, slots := 0, locals := 24 } : Room) G tC ad N E [.ref (ad i), .int (nI k), .int (nI j), .int v] (fun E2 => E2 (i + 1) = eI G 500 (upd cs (k * 50 + (6 + j)) v) ∧ (∀ j, j ≠ (i + 1) → E2 j = E j)) := by
  refine MV_of RX5 rfl (by decide) rfl (Nat.le_of_ble_eq_true rfl) ?_
  intro pp_ ee_ ss_ mm_ aa_ bb_ me_ cc_ A ls C hw hl
  have hx := C.1
  have hb := C.2.1
  have hown := C.2.2.2.2.1
  have hts := C.2.2.2.2.2.1
  have hl : lv_has ls 4 [(0, .ref (ad i)), (1, .int (nI k)), (2, .int (nI j)), (3, .int v)] := hl
  refine lv_aload_n hx hb dX5_putLink_0 rfl (lv_at hl 0 rfl) ?_
  refine lv_iload_n hx hb dX5_putLink_1 rfl (lv_at hl 1 rfl) ?_
  refine lv_bipush (v := nI 6) hx hb dX5_putLink_2 rfl ?_
  refine lv_iload_n hx hb dX5_putLink_4 rfl (lv_at hl 2 rfl) ?_
  refine lv_iadd hx hb dX5_putLink_5 ?_
  refine r_nat (6 + j) (nI_add _ _) ?_
  refine lv_iload_n hx hb dX5_putLink_6 rfl (lv_at hl 3 rfl) ?_
  refine r_vV C hw hl.1 (i := i) (by omega) hE0 (T := TX5) (n := 8) rfl [.int (nI k), .int (nI (6 + j)), .int v] 3 rfl (c_X5_set (l := l) (G := G) (tC := tC) (ad := ad) (N := N) (E := E) (i := i) (pg := pg) (cm := cm) (hd := hd) (lst := lst) (md := md) (sd := sd) (cs := cs) (k := k) (cl := 6 + j) (v := v) (by omega) hE0 hE1 (by first | assumption | omega)) gX5_putLink_X5_set rfl ⟨rfl, rfl⟩ (by decide +kernel) ⟨Nat.le_of_ble_eq_true rfl, Nat.le_of_ble_eq_true rfl⟩ (rest := []) rfl (Nat.le_of_ble_eq_true rfl) dX5_putLink_7 ⟨Nat.zero_le _, Nat.zero_le _⟩ (fun zE1 zH1 zL1 zp1 zw1 => ?_)
  obtain ⟨zg1_0, zf1⟩ := zp1
  have zh1_0 : zE1 (i + 1) = eI G 500 (upd cs (k * 50 + (6 + j)) v) := zg1_0
  have zk1_0 : zE1 i = .inr (2, [.ref (ad (i + 1)), .ref (ad (i + 2)), .int (nI pg), .int (nI cm), .int lst, .int md, .int sd, .int (nI hd)]) := (zf1 _ (by omega)).trans hE0
  have zfr1 : ∀ j, j ≠ (i + 1) → zE1 j = E j := fun j zm0 => zf1 j zm0
  exact r_vret C zw1 dX5_putLink_10 ⟨zh1_0, (fun j zm0 => zfr1 j zm0)⟩

set_option maxHeartbeats 4000000 in
set_option maxRecDepth 100000 in
theorem c_X5_letterAt {l : Launch} {G : vG} {tC : Nat} {ad : Nat → Nat} {N : Nat} {E : Nat → va_E} {i pg cm hd : Nat} {lst md sd : Int32} {cs : Nat → Int32} {k row j : Nat} (hN0 : i + 3 ≤ N) (hE0 : E i = .inr (2, [.ref (ad (i + 1)), .ref (ad (i + 2)), .int (nI pg), .int (nI cm), .int lst, .int md, .int sd, .int (nI hd)])) (hE1 : E (i + 1) = eI G 500 cs) (hk : k * 50 + (10 + row * 8 + j) < 500) : MI l yX5_letterAt wsX5_letterAt ({ frames := 1, cells := 0, slots := 0, locals := 23 } : Room) G tC ad N E [.ref (ad i), .int (nI k), .int (nI row), .int (nI j)] (fun r E2 => E2 = E ∧ r = cs (k * 50 + (10 + row * 8 + j))) := by
  refine MI_of RX5 rfl (by decide) rfl (Nat.le_of_ble_eq_true rfl) ?_
  intro pp_ ee_ ss_ mm_ aa_ bb_ me_ cc_ A ls C hw hl
  have hx := C.1
  have hb := C.2.1
  have hown := C.2.2.2.2.1
  have hts := C.2.2.2.2.2.1
  have hl : lv_has ls 4 [(0, .ref (ad i)), (1, .int (nI k)), (2, .int (nI row)), (3, .int (nI j))] := hl
  refine lv_aload_n hx hb dX5_letterAt_0 rfl (lv_at hl 0 rfl) ?_
  refine lv_iload_n hx hb dX5_letterAt_1 rfl (lv_at hl 1 rfl) ?_
  refine lv_bipush (v := nI 10) hx hb dX5_letterAt_2 rfl ?_
  refine lv_iload_n hx hb dX5_letterAt_4 rfl (lv_at hl 2 rfl) ?_
  refine lv_bipush (v := nI 8) hx hb dX5_letterAt_5 rfl ?_
  refine lv_imul hx hb dX5_letterAt_7 ?_
  refine r_nat (row * 8) (pk_mul _ _) ?_
  refine lv_iadd hx hb dX5_letterAt_8 ?_
  refine r_nat (10 + row * 8) (nI_add _ _) ?_
  refine lv_iload_n hx hb dX5_letterAt_9 rfl (lv_at hl 3 rfl) ?_
  refine lv_iadd hx hb dX5_letterAt_10 ?_
  refine r_nat (10 + row * 8 + j) (nI_add _ _) ?_
  refine r_vI C hw hl.1 (i := i) (by omega) hE0 (T := TX5) (n := 8) rfl [.int (nI k), .int (nI (10 + row * 8 + j))] 2 rfl (c_X5_get (l := l) (G := G) (tC := tC) (ad := ad) (N := N) (E := E) (i := i) (pg := pg) (cm := cm) (hd := hd) (lst := lst) (md := md) (sd := sd) (cs := cs) (k := k) (cl := 10 + row * 8 + j) (by omega) hE0 hE1 (by first | assumption | omega)) gX5_letterAt_X5_get rfl ⟨rfl, rfl⟩ (by decide +kernel) ⟨Nat.le_of_ble_eq_true rfl, Nat.le_of_ble_eq_true rfl⟩ (rest := []) rfl (Nat.le_of_ble_eq_true rfl) dX5_letterAt_11 ⟨Nat.zero_le _, Nat.zero_le _⟩ (fun zr1 zE1 zH1 zL1 zp1 zw1 => ?_)
  obtain ⟨ze1, zq1⟩ := zp1
  rw [ze1] at zw1
  clear ze1
  rw [zq1]
  exact r_iret C zw1 dX5_letterAt_14 ⟨rfl, (by rfl)⟩

set_option maxHeartbeats 4000000 in
set_option maxRecDepth 100000 in
theorem c_X5_isSure {l : Launch} {G : vG} {tC : Nat} {ad : Nat → Nat} {N : Nat} {E : Nat → va_E} {x : Int32}  : MI l yX5_isSure wsX5_isSure ({ frames := 1, cells := 0, slots := 0, locals := 22 } : Room) G tC ad N E [.int x] (fun r E2 => E2 = E ∧ r = if nI 0 ≤ x ∧ x ≤ nI 127 then 1 else 0) := by
  refine MI_of RX5 rfl (by decide) rfl (Nat.le_of_ble_eq_true rfl) ?_
  intro pp_ ee_ ss_ mm_ aa_ bb_ me_ cc_ A ls C hw hl
  have hx := C.1
  have hb := C.2.1
  have hown := C.2.2.2.2.1
  have hts := C.2.2.2.2.2.1
  have hl : lv_has ls 1 [(0, .int x)] := hl
  refine lv_iload_n hx hb dX5_isSure_0 rfl (lv_at hl 0 rfl) ?_
  refine lv_iconst (v := nI 0) hx hb dX5_isSure_1 rfl ?_
  refine lv_bipush (v := nI 127) hx hb dX5_isSure_2 rfl ?_
  refine r_nI C hw hl.1 [.int x, .int (nI 0), .int (nI 127)] 3 rfl (c_X7_isWithin (l := l) (G := G) (tC := tC) (ad := ad) (N := N) (E := E) (x := x) (a := nI 0) (b := nI 127)   ) C.2.2.2.2.2.2.1.2.2.2.1 gX5_isSure_X7_isWithin_n66 rfl ⟨rfl, rfl⟩ (by decide +kernel) (by decide +kernel) (by decide +kernel) ⟨Nat.le_of_ble_eq_true rfl, Nat.le_of_ble_eq_true rfl⟩ (rest := []) rfl (Nat.le_of_ble_eq_true rfl) dX5_isSure_4 ⟨Nat.zero_le _, Nat.zero_le _⟩ (fun zr1 zE1 zH1 zL1 zp1 zw1 => ?_)
  obtain ⟨ze1, zq1⟩ := zp1
  rw [ze1] at zw1
  clear ze1
  rw [zq1]
  exact r_zret C zw1 dX5_isSure_7 (by split <;> simp) ⟨rfl, (by rfl)⟩

set_option maxHeartbeats 4000000 in
set_option maxRecDepth 100000 in
theorem c_X5_clear {l : Launch} {G : vG} {tC : Nat} {ad : Nat → Nat} {N : Nat} {E : Nat → va_E} {i pg cm hd : Nat} {lst md sd : Int32} {cs : Nat → Int32} {k : Nat} (hN0 : i + 3 ≤ N) (hE0 : E i = .inr (2, [.ref (ad (i + 1)), .ref (ad (i + 2)), .int (nI pg), .int (nI cm), .int lst, .int md, .int sd, .int (nI hd)])) (hE1 : E (i + 1) = eI G 500 cs) (hk : k < 10) : MV l yX5_clear wsX5_clear ({ frames := 2, cells := 0, slots := 0, locals := 46 } : Room) G tC ad N E [.ref (ad i), .int (nI k)] (fun E2 => E2 (i + 1) = eI G 500 (fillF cs (k * 50 + 6) ((k + 1) * 50) (-1)) ∧ (∀ j, j ≠ (i + 1) → E2 j = E j)) := by
  refine MV_of RX5 rfl (by decide) rfl (Nat.le_of_ble_eq_true rfl) ?_
  intro pp_ ee_ ss_ mm_ aa_ bb_ me_ cc_ A ls C hw hl
  have hx := C.1
  have hb := C.2.1
  have hown := C.2.2.2.2.1
  have hts := C.2.2.2.2.2.1
  have hl : lv_has ls 2 [(0, .ref (ad i)), (1, .int (nI k))] := hl
  have hinX5 : ∀ w ∈ u_ws RX5 TX5 8, w ∈ wsX5_clear := by decide +kernel
  refine lv_aload_n hx hb dX5_clear_0 rfl (lv_at hl 0 rfl) ?_
  refine r_get C hw RX5 TX5 8 2 hinX5 (i := i) (by omega) hE0 rfl 0 (by decide) (by decide +kernel) rfl (v := .ref (ad (i + 1))) rfl dX5_clear_1 ?_
  refine lv_iload_n hx hb dX5_clear_4 rfl (lv_at hl 1 rfl) ?_
  refine lv_bipush (v := nI 50) hx hb dX5_clear_5 rfl ?_
  refine lv_imul hx hb dX5_clear_7 ?_
  refine r_nat (k * 50) (pk_mul _ _) ?_
  refine lv_bipush (v := nI 6) hx hb dX5_clear_8 rfl ?_
  refine lv_iadd hx hb dX5_clear_10 ?_
  refine r_nat (k * 50 + 6) (nI_add _ _) ?_
  refine lv_iload_n hx hb dX5_clear_11 rfl (lv_at hl 1 rfl) ?_
  refine lv_iconst (v := nI 1) hx hb dX5_clear_12 rfl ?_
  refine lv_iadd hx hb dX5_clear_13 ?_
  refine r_nat (k + 1) (nI_add _ _) ?_
  refine lv_bipush (v := nI 50) hx hb dX5_clear_14 rfl ?_
  refine lv_imul hx hb dX5_clear_16 ?_
  refine r_nat ((k + 1) * 50) (pk_mul _ _) ?_
  refine lv_iconst (v := -1) hx hb dX5_clear_17 (by decide) ?_
  refine r_sV C hw hl.1 [.ref (ad (i + 1)), .int (nI (k * 50 + 6)), .int (nI ((k + 1) * 50)), .int (-1)] 4 rfl (c_J7_fill_fda19 (l := l) (G := G) (tC := tC) (ad := ad) (N := N) (E := E) (q := (i + 1)) (n := 500) (a := k * 50 + 6) (b := (k + 1) * 50) (f := cs) (v := -1) (by omega) hE1 (by first | assumption | omega) (by first | assumption | omega) (by first | assumption | omega)) gX5_clear_J7_fill_fda19 rfl ⟨rfl, rfl⟩ (by decide +kernel) ⟨Nat.le_of_ble_eq_true rfl, Nat.le_of_ble_eq_true rfl⟩ (rest := []) rfl (Nat.le_of_ble_eq_true rfl) dX5_clear_18 ⟨Nat.zero_le _, Nat.zero_le _⟩ (fun zE1 zH1 zL1 zp1 zw1 => ?_)
  obtain ⟨zg1_0, zf1⟩ := zp1
  have zh1_0 : zE1 (i + 1) = eI G 500 (fillF cs (k * 50 + 6) ((k + 1) * 50) (-1)) := zg1_0
  have zk1_0 : zE1 i = .inr (2, [.ref (ad (i + 1)), .ref (ad (i + 2)), .int (nI pg), .int (nI cm), .int lst, .int md, .int sd, .int (nI hd)]) := (zf1 _ (by omega)).trans hE0
  have zfr1 : ∀ j, j ≠ (i + 1) → zE1 j = E j := fun j zm0 => zf1 j zm0
  exact r_vret C zw1 dX5_clear_21 ⟨zh1_0, (fun j zm0 => zfr1 j zm0)⟩
end
section
set_option maxHeartbeats 4000000 in
set_option maxRecDepth 100000 in
theorem c_X8_in {l : Launch} {G : vG} {tC : Nat} {ad : Nat → Nat} {N : Nat} {E : Nat → va_E} {x a b : Int32}  : MI l yX8_in wsX8_in ({ frames := 0, cells := 0, slots := 0, locals := 0 } : Room) G tC ad N E [.long x.toInt64, .long a.toInt64, .long b.toInt64] (fun r E2 => E2 = E ∧ r = if a ≤ x ∧ x ≤ b then 1 else 0) := by
  refine MI_of RX8 rfl (by decide) rfl (Nat.le_of_ble_eq_true rfl) ?_
  intro pp_ ee_ ss_ mm_ aa_ bb_ me_ cc_ A ls C hw hl
  have hx := C.1
  have hb := C.2.1
  have hown := C.2.2.2.2.1
  have hts := C.2.2.2.2.2.1
  have hl : lv_has ls 6 [(0, .long x.toInt64), (2, .long a.toInt64), (4, .long b.toInt64)] := hl
  refine lv_lload_n hx hb dX8_in_0 rfl (lv_at hl 0 rfl) ?_
  refine lv_lload_n hx hb dX8_in_1 rfl (lv_at hl 1 rfl) ?_
  refine W.lcmp hx hb dX8_in_2 ?_
  refine lv_if_lt (tgt := 17) hx hb dX8_in_3 (by decide) (fun zc3 => ?_) (fun zc3 => ?_)
  · refine lv_iconst (v := nI 0) hx hb dX8_in_17 rfl ?_
    exact r_zret C hw dX8_in_18 (Or.inl rfl) ⟨rfl, (by first | (rw [if_pos ⟨by rw [lg_cmp_lt, toI64_lt] at zc3; exact Int32.not_lt.mp zc3, by rw [lg_cmp_gt, toI64_lt] at zc10; exact Int32.not_lt.mp zc10⟩]; rfl) | (rw [if_neg (fun zq => by rw [lg_cmp_lt, toI64_lt] at zc3; exact Int32.not_lt.mpr zq.1 zc3)]; rfl) | (rw [if_neg (fun zq => by rw [lg_cmp_gt, toI64_lt] at zc10; exact Int32.not_lt.mpr zq.2 zc10)]; rfl))⟩
  · refine lv_lload_n hx hb dX8_in_6 rfl (lv_at hl 0 rfl) ?_
    refine lv_lload hx hb dX8_in_7 (lv_at hl 2 rfl) ?_
    refine W.lcmp hx hb dX8_in_9 ?_
    refine lv_if_gt (tgt := 17) hx hb dX8_in_10 (by decide) (fun zc10 => ?_) (fun zc10 => ?_)
    · refine lv_iconst (v := nI 0) hx hb dX8_in_17 rfl ?_
      exact r_zret C hw dX8_in_18 (Or.inl rfl) ⟨rfl, (by first | (rw [if_pos ⟨by rw [lg_cmp_lt, toI64_lt] at zc3; exact Int32.not_lt.mp zc3, by rw [lg_cmp_gt, toI64_lt] at zc10; exact Int32.not_lt.mp zc10⟩]; rfl) | (rw [if_neg (fun zq => by rw [lg_cmp_lt, toI64_lt] at zc3; exact Int32.not_lt.mpr zq.1 zc3)]; rfl) | (rw [if_neg (fun zq => by rw [lg_cmp_gt, toI64_lt] at zc10; exact Int32.not_lt.mpr zq.2 zc10)]; rfl))⟩
    · refine lv_iconst (v := nI 1) hx hb dX8_in_13 rfl ?_
      refine lv_goto (tgt := 18) hx hb dX8_in_14 (by decide) ?_
      exact r_zret C hw dX8_in_18 (Or.inr rfl) ⟨rfl, (by first | (rw [if_pos ⟨by rw [lg_cmp_lt, toI64_lt] at zc3; exact Int32.not_lt.mp zc3, by rw [lg_cmp_gt, toI64_lt] at zc10; exact Int32.not_lt.mp zc10⟩]; rfl) | (rw [if_neg (fun zq => by rw [lg_cmp_lt, toI64_lt] at zc3; exact Int32.not_lt.mpr zq.1 zc3)]; rfl) | (rw [if_neg (fun zq => by rw [lg_cmp_gt, toI64_lt] at zc10; exact Int32.not_lt.mpr zq.2 zc10)]; rfl))⟩

set_option maxHeartbeats 4000000 in
set_option maxRecDepth 100000 in
theorem c_X8_at {l : Launch} {G : vG} {tC : Nat} {ad : Nat → Nat} {N : Nat} {E : Nat → va_E} {k : Nat}  : MI l yX8_at wsX8_at ({ frames := 0, cells := 0, slots := 0, locals := 0 } : Room) G tC ad N E [.int (nI k)] (fun r E2 => E2 = E ∧ r = nI (8 + 50 * k)) := by
  refine MI_of RX8 rfl (by decide) rfl (Nat.le_of_ble_eq_true rfl) ?_
  intro pp_ ee_ ss_ mm_ aa_ bb_ me_ cc_ A ls C hw hl
  have hx := C.1
  have hb := C.2.1
  have hown := C.2.2.2.2.1
  have hts := C.2.2.2.2.2.1
  have hl : lv_has ls 1 [(0, .int (nI k))] := hl
  refine lv_bipush (v := nI 8) hx hb dX8_at_0 rfl ?_
  refine lv_bipush (v := nI 50) hx hb dX8_at_2 rfl ?_
  refine lv_iload_n hx hb dX8_at_4 rfl (lv_at hl 0 rfl) ?_
  refine lv_imul hx hb dX8_at_5 ?_
  refine r_nat (50 * k) (pk_mul _ _) ?_
  refine lv_iadd hx hb dX8_at_6 ?_
  refine r_nat (8 + 50 * k) (nI_add _ _) ?_
  exact r_iret C hw dX8_at_7 ⟨rfl, (by rfl)⟩

set_option maxHeartbeats 4000000 in
set_option maxRecDepth 100000 in
theorem c_X8_of {l : Launch} {G : vG} {tC : Nat} {ad : Nat → Nat} {N : Nat} {E : Nat → va_E} {q co pm em : Nat} {th : Int32} {se : Int64} {s : Nat → Int32} {k w : Nat} (hN0 : q + 13 ≤ N) (hE0 : E q = .inr (5, [.int th, .ref (ad (q + 1)), .long se, .ref (ad (q + 2)), .ref (ad (q + 3)), .int (nI co), .ref (ad (q + 4)), .int (nI pm), .ref (ad (q + 5)), .ref (ad (q + 6)), .ref (ad (q + 7)), .ref (ad (q + 8)), .int (nI em), .ref (ad (q + 9)), .ref (ad (q + 10)), .ref (ad (q + 11)), .ref (ad (q + 12))])) (hE1 : E (q + 1) = eI G 508 s) (hk : 8 + 50 * k + w < 508) : MI l yX8_of wsX8_of ({ frames := 1, cells := 0, slots := 0, locals := 20 } : Room) G tC ad N E [.ref (ad q), .int (nI k), .int (nI w)] (fun r E2 => E2 = E ∧ r = s (8 + 50 * k + w)) := by
  refine MI_of RX8 rfl (by decide) rfl (Nat.le_of_ble_eq_true rfl) ?_
  intro pp_ ee_ ss_ mm_ aa_ bb_ me_ cc_ A ls C hw hl
  have hx := C.1
  have hb := C.2.1
  have hown := C.2.2.2.2.1
  have hts := C.2.2.2.2.2.1
  have hl : lv_has ls 3 [(0, .ref (ad q)), (1, .int (nI k)), (2, .int (nI w))] := hl
  have hinX8 : ∀ w ∈ u_ws RX8 TX8 17, w ∈ wsX8_of := by decide +kernel
  refine lv_aload_n hx hb dX8_of_0 rfl (lv_at hl 0 rfl) ?_
  refine r_get C hw RX8 TX8 17 5 hinX8 (i := q) (by omega) hE0 rfl 1 (by decide) (by decide +kernel) rfl (v := .ref (ad (q + 1))) rfl dX8_of_1 ?_
  refine lv_iload_n hx hb dX8_of_4 rfl (lv_at hl 1 rfl) ?_
  refine r_sI C hw hl.1 [.int (nI k)] 1 rfl (c_X8_at (l := l) (G := G) (tC := tC) (ad := ad) (N := N) (E := E) (k := k)   ) gX8_of_X8_at rfl ⟨rfl, rfl⟩ (by decide +kernel) ⟨Nat.le_of_ble_eq_true rfl, Nat.le_of_ble_eq_true rfl⟩ (rest := [.ref (ad (q + 1))]) rfl (Nat.le_of_ble_eq_true rfl) dX8_of_5 ⟨Nat.zero_le _, Nat.zero_le _⟩ (fun zr1 zE1 zH1 zL1 zp1 zw1 => ?_)
  obtain ⟨ze1, zq1⟩ := zp1
  rw [ze1] at zw1
  clear ze1
  rw [zq1]
  refine lv_iload_n hx hb dX8_of_8 rfl (lv_at hl 2 rfl) ?_
  refine lv_iadd hx hb dX8_of_9 ?_
  refine r_nat (8 + 50 * k + w) (nI_add _ _) ?_
  refine r_iaN C zw1 (i := (q + 1)) (by omega) hE1 (j := 8 + 50 * k + w) (by omega) (by omega) dX8_of_10 ?_
  exact r_iret C zw1 dX8_of_11 ⟨rfl, (by rfl)⟩

set_option maxHeartbeats 4000000 in
set_option maxRecDepth 100000 in
theorem c_X8_ones {l : Launch} {G : vG} {tC : Nat} {ad : Nat → Nat} {N : Nat} {E : Nat → va_E} {v : Nat} (hv : v < 256) : MI l yX8_ones wsX8_ones ({ frames := 0, cells := 0, slots := 0, locals := 0 } : Room) G tC ad N E [.int (nI v)] (fun r E2 => E2 = E ∧ r = nI (pc8 v)) := by
  refine MI_of RX8 rfl (by decide) rfl (Nat.le_of_ble_eq_true rfl) ?_
  intro pp_ ee_ ss_ mm_ aa_ bb_ me_ cc_ A ls C hw hl
  have hx := C.1
  have hb := C.2.1
  have hown := C.2.2.2.2.1
  have hts := C.2.2.2.2.2.1
  have hl : lv_has ls 3 [(0, .int (nI v))] := hl
  refine lv_iconst (v := nI 0) hx hb dX8_ones_0 rfl ?_
  refine lv_istore_n (lv' := [(1, .int (nI 0)), (0, .int (nI v))]) hx hb dX8_ones_1 rfl hl (by decide) rfl (fun ls hl => ?_)
  refine lv_iconst (v := nI 0) hx hb dX8_ones_2 rfl ?_
  refine lv_istore_n (lv' := [(2, .int (nI 0)), (1, .int (nI 0)), (0, .int (nI v))]) hx hb dX8_ones_3 rfl hl (by decide) rfl (fun ls hl => ?_)
  have zlp4 : ∀ (zn : Nat) (k : Nat), 8 - k < zn → (k ≤ 8) → ∀ (H9 : Heap) (L9 : List Loc), Wd G A ss_.heap H9 L9 ad E N → ∀ (ls : Array Slot), lv_has ls 3 [(0, .int (nI v)), (1, .int (nI (pcK v k))), (2, .int (nI k))] → W pp_ l ee_ ({ frames := 0, cells := 0, slots := 0, locals := 0 } : Room) ss_ mm_ aa_ bb_ me_ cc_ H9 L9 0 0 (QI bb_ aa_ ss_ G ad N A (fun r E2 => E2 = E ∧ r = nI (pc8 v))) (F0 mm_ 4 ls []) := by
    intro zn
    induction zn with
    | zero => intro k zhm; exact absurd zhm (Nat.not_lt_zero _)
    | succ zn zih4 =>
      intro k zhm4 hk zH_4 zL_4 zlw4 ls hl
      refine lv_iload_n hx hb dX8_ones_4 rfl (lv_at hl 2 rfl) ?_
      refine lv_bipush (v := nI 8) hx hb dX8_ones_5 rfl ?_
      refine n_icmp_ge (tgt := 24) hx hb dX8_ones_7 (by decide) (by omega) (by omega) (fun zc7 => ?_) (fun zc7 => ?_)
      · refine lv_iload_n hx hb dX8_ones_24 rfl (lv_at hl 1 rfl) ?_
        exact r_iret C zlw4 dX8_ones_25 ⟨rfl, (by rw [show k = 8 by omega, pcK_8])⟩
      · refine lv_iload_n hx hb dX8_ones_10 rfl (lv_at hl 1 rfl) ?_
        refine lv_iload_n hx hb dX8_ones_11 rfl (lv_at hl 0 rfl) ?_
        refine lv_iload_n hx hb dX8_ones_12 rfl (lv_at hl 2 rfl) ?_
        refine lv_ishr hx hb dX8_ones_13 ?_
        refine lv_iconst (v := nI 1) hx hb dX8_ones_14 rfl ?_
        refine lv_iand hx hb dX8_ones_15 ?_
        refine r_nat (v / 2 ^ k % 2) (bit_nI (by omega) (by omega)) ?_
        refine lv_iadd hx hb dX8_ones_16 ?_
        refine r_nat (pcK v k + (v / 2 ^ k % 2)) (nI_add _ _) ?_
        refine lv_istore_n (lv' := [(1, .int (nI (pcK v k + (v / 2 ^ k % 2)))), (0, .int (nI v)), (2, .int (nI k))]) hx hb dX8_ones_17 rfl hl (by decide) rfl (fun ls hl => ?_)
        refine lv_iinc (v := nI (k + 1)) (lv' := [(2, .int (nI (k + 1))), (1, .int (nI (pcK v k + (v / 2 ^ k % 2)))), (0, .int (nI v))]) hx hb dX8_ones_18 hl (k := 2) rfl (by rw [show Int32.ofInt 1 = nI 1 from rfl, nI_add]) (by decide) rfl (fun ls hl => ?_)
        refine lv_goto (tgt := 4) hx hb dX8_ones_21 (by decide) ?_
        exact zih4 (k + 1) (by omega) (by omega) _ _ zlw4 _ (lv_sub hl [2, 1, 0] rfl)
  exact zlp4 _ 0 (Nat.lt_succ_self _) (by omega) _ _ hw _ (lv_sub hl [2, 1, 0] rfl)

set_option maxHeartbeats 4000000 in
set_option maxRecDepth 100000 in
theorem c_X8_even {l : Launch} {G : vG} {tC : Nat} {ad : Nat → Nat} {N : Nat} {E : Nat → va_E} {n : Nat} (hn : n < 2147483648) : MI l yX8_even wsX8_even ({ frames := 0, cells := 0, slots := 0, locals := 0 } : Room) G tC ad N E [.int (nI n)] (fun r E2 => E2 = E ∧ r = nI (1 - n % 2)) := by
  refine MI_of RX8 rfl (by decide) rfl (Nat.le_of_ble_eq_true rfl) ?_
  intro pp_ ee_ ss_ mm_ aa_ bb_ me_ cc_ A ls C hw hl
  have hx := C.1
  have hb := C.2.1
  have hown := C.2.2.2.2.1
  have hts := C.2.2.2.2.2.1
  have hl : lv_has ls 1 [(0, .int (nI n))] := hl
  refine lv_iload_n hx hb dX8_even_0 rfl (lv_at hl 0 rfl) ?_
  refine lv_iconst (v := nI 2) hx hb dX8_even_1 rfl ?_
  refine lv_irem hx hb dX8_even_2 (by decide) ?_
  refine r_nat (n % 2) (rem2_nI hn (by omega) (by omega)) ?_
  refine n_if_ne (tgt := 10) hx hb dX8_even_3 (by decide) (by omega) (fun zc3 => ?_) (fun zc3 => ?_)
  · refine lv_iconst (v := nI 0) hx hb dX8_even_10 rfl ?_
    exact r_iret C hw dX8_even_11 ⟨rfl, (by congr 1; omega)⟩
  · refine lv_iconst (v := nI 1) hx hb dX8_even_6 rfl ?_
    refine lv_goto (tgt := 11) hx hb dX8_even_7 (by decide) ?_
    exact r_iret C hw dX8_even_11 ⟨rfl, (by congr 1; omega)⟩

set_option maxHeartbeats 4000000 in
set_option maxRecDepth 100000 in
theorem c_X8_codeOf {l : Launch} {G : vG} {tC : Nat} {ad : Nat → Nat} {N : Nat} {E : Nat → va_E} {v : Nat} (hv : v < 16) : MI l yX8_codeOf wsX8_codeOf ({ frames := 1, cells := 0, slots := 0, locals := 20 } : Room) G tC ad N E [.int (nI v)] (fun r E2 => E2 = E ∧ r = nI (codeN v)) := by
  refine MI_of RX8 rfl (by decide) rfl (Nat.le_of_ble_eq_true rfl) ?_
  intro pp_ ee_ ss_ mm_ aa_ bb_ me_ cc_ A ls C hw hl
  have hx := C.1
  have hb := C.2.1
  have hown := C.2.2.2.2.1
  have hts := C.2.2.2.2.2.1
  have hl : lv_has ls 9 [(0, .int (nI v))] := hl
  refine lv_iload_n hx hb dX8_codeOf_0 rfl (lv_at hl 0 rfl) ?_
  refine lv_iconst (v := nI 1) hx hb dX8_codeOf_1 rfl ?_
  refine lv_iand hx hb dX8_codeOf_2 ?_
  refine r_nat (v % 2) (pk_andN (by omega) 1 rfl) ?_
  refine lv_istore_n (lv' := [(1, .int (nI (v % 2))), (0, .int (nI v))]) hx hb dX8_codeOf_3 rfl hl (by decide) rfl (fun ls hl => ?_)
  refine lv_iload_n hx hb dX8_codeOf_4 rfl (lv_at hl 1 rfl) ?_
  refine lv_iconst (v := nI 1) hx hb dX8_codeOf_5 rfl ?_
  refine lv_ishr hx hb dX8_codeOf_6 ?_
  refine lv_iconst (v := nI 1) hx hb dX8_codeOf_7 rfl ?_
  refine lv_iand hx hb dX8_codeOf_8 ?_
  refine r_nat (v / 2 ^ 1 % 2) (bit_nI (by omega) (by omega)) ?_
  refine lv_istore_n (lv' := [(2, .int (nI (v / 2 ^ 1 % 2))), (1, .int (nI (v % 2))), (0, .int (nI v))]) hx hb dX8_codeOf_9 rfl hl (by decide) rfl (fun ls hl => ?_)
  refine lv_iload_n hx hb dX8_codeOf_10 rfl (lv_at hl 2 rfl) ?_
  refine lv_iconst (v := nI 2) hx hb dX8_codeOf_11 rfl ?_
  refine lv_ishr hx hb dX8_codeOf_12 ?_
  refine lv_iconst (v := nI 1) hx hb dX8_codeOf_13 rfl ?_
  refine lv_iand hx hb dX8_codeOf_14 ?_
  refine r_nat (v / 2 ^ 2 % 2) (bit_nI (by omega) (by omega)) ?_
  refine lv_istore_n (lv' := [(3, .int (nI (v / 2 ^ 2 % 2))), (2, .int (nI (v / 2 ^ 1 % 2))), (1, .int (nI (v % 2))), (0, .int (nI v))]) hx hb dX8_codeOf_15 rfl hl (by decide) rfl (fun ls hl => ?_)
  refine lv_iload_n hx hb dX8_codeOf_16 rfl (lv_at hl 3 rfl) ?_
  refine lv_iconst (v := nI 3) hx hb dX8_codeOf_17 rfl ?_
  refine lv_ishr hx hb dX8_codeOf_18 ?_
  refine lv_iconst (v := nI 1) hx hb dX8_codeOf_19 rfl ?_
  refine lv_iand hx hb dX8_codeOf_20 ?_
  refine r_nat (v / 2 ^ 3 % 2) (bit_nI (by omega) (by omega)) ?_
  refine lv_istore (lv' := [(4, .int (nI (v / 2 ^ 3 % 2))), (3, .int (nI (v / 2 ^ 2 % 2))), (2, .int (nI (v / 2 ^ 1 % 2))), (1, .int (nI (v % 2))), (0, .int (nI v))]) hx hb dX8_codeOf_21 hl (by decide) rfl (fun ls hl => ?_)
  refine lv_iload_n hx hb dX8_codeOf_23 rfl (lv_at hl 3 rfl) ?_
  refine lv_iload_n hx hb dX8_codeOf_24 rfl (lv_at hl 1 rfl) ?_
  refine lv_iadd hx hb dX8_codeOf_25 ?_
  refine r_nat ((v % 2) + (v / 2 ^ 2 % 2)) (nI_add _ _) ?_
  refine lv_iload hx hb dX8_codeOf_26 (lv_at hl 0 rfl) ?_
  refine lv_iadd hx hb dX8_codeOf_28 ?_
  refine r_nat (((v % 2) + (v / 2 ^ 2 % 2)) + (v / 2 ^ 3 % 2)) (nI_add _ _) ?_
  refine r_sI C hw hl.1 [.int (nI (((v % 2) + (v / 2 ^ 2 % 2)) + (v / 2 ^ 3 % 2)))] 1 rfl (c_X8_even (l := l) (G := G) (tC := tC) (ad := ad) (N := N) (E := E) (n := ((v % 2) + (v / 2 ^ 2 % 2)) + (v / 2 ^ 3 % 2))   (by first | assumption | omega)) gX8_codeOf_X8_even rfl ⟨rfl, rfl⟩ (by decide +kernel) ⟨Nat.le_of_ble_eq_true rfl, Nat.le_of_ble_eq_true rfl⟩ (rest := []) rfl (Nat.le_of_ble_eq_true rfl) dX8_codeOf_29 ⟨Nat.zero_le _, Nat.zero_le _⟩ (fun zr1 zE1 zH1 zL1 zp1 zw1 => ?_)
  obtain ⟨ze1, zq1⟩ := zp1
  rw [ze1] at zw1
  clear ze1
  rw [zq1]
  refine lv_istore (lv' := [(5, .int (nI (1 - (((v % 2) + (v / 2 ^ 2 % 2)) + (v / 2 ^ 3 % 2)) % 2))), (4, .int (nI (v / 2 ^ 3 % 2))), (3, .int (nI (v / 2 ^ 2 % 2))), (2, .int (nI (v / 2 ^ 1 % 2))), (1, .int (nI (v % 2))), (0, .int (nI v))]) hx hb dX8_codeOf_32 hl (by decide) rfl (fun ls hl => ?_)
  refine lv_iload_n hx hb dX8_codeOf_34 rfl (lv_at hl 4 rfl) ?_
  refine lv_iload_n hx hb dX8_codeOf_35 rfl (lv_at hl 3 rfl) ?_
  refine lv_iadd hx hb dX8_codeOf_36 ?_
  refine r_nat ((v % 2) + (v / 2 ^ 1 % 2)) (nI_add _ _) ?_
  refine lv_iload hx hb dX8_codeOf_37 (lv_at hl 1 rfl) ?_
  refine lv_iadd hx hb dX8_codeOf_39 ?_
  refine r_nat (((v % 2) + (v / 2 ^ 1 % 2)) + (v / 2 ^ 3 % 2)) (nI_add _ _) ?_
  refine r_sI C zw1 hl.1 [.int (nI (((v % 2) + (v / 2 ^ 1 % 2)) + (v / 2 ^ 3 % 2)))] 1 rfl (c_X8_even (l := l) (G := G) (tC := tC) (ad := ad) (N := N) (E := E) (n := ((v % 2) + (v / 2 ^ 1 % 2)) + (v / 2 ^ 3 % 2))   (by first | assumption | omega)) gX8_codeOf_X8_even rfl ⟨rfl, rfl⟩ (by decide +kernel) ⟨Nat.le_of_ble_eq_true rfl, Nat.le_of_ble_eq_true rfl⟩ (rest := []) rfl (Nat.le_of_ble_eq_true rfl) dX8_codeOf_40 ⟨Nat.zero_le _, Nat.zero_le _⟩ (fun zr2 zE2 zH2 zL2 zp2 zw2 => ?_)
  obtain ⟨ze2, zq2⟩ := zp2
  rw [ze2] at zw2
  clear ze2
  rw [zq2]
  refine lv_istore (lv' := [(6, .int (nI (1 - (((v % 2) + (v / 2 ^ 1 % 2)) + (v / 2 ^ 3 % 2)) % 2))), (5, .int (nI (1 - (((v % 2) + (v / 2 ^ 2 % 2)) + (v / 2 ^ 3 % 2)) % 2))), (4, .int (nI (v / 2 ^ 3 % 2))), (3, .int (nI (v / 2 ^ 2 % 2))), (2, .int (nI (v / 2 ^ 1 % 2))), (1, .int (nI (v % 2))), (0, .int (nI v))]) hx hb dX8_codeOf_43 hl (by decide) rfl (fun ls hl => ?_)
  refine lv_iload_n hx hb dX8_codeOf_45 rfl (lv_at hl 5 rfl) ?_
  refine lv_iload_n hx hb dX8_codeOf_46 rfl (lv_at hl 4 rfl) ?_
  refine lv_iadd hx hb dX8_codeOf_47 ?_
  refine r_nat ((v % 2) + (v / 2 ^ 1 % 2)) (nI_add _ _) ?_
  refine lv_iload_n hx hb dX8_codeOf_48 rfl (lv_at hl 3 rfl) ?_
  refine lv_iadd hx hb dX8_codeOf_49 ?_
  refine r_nat (((v % 2) + (v / 2 ^ 1 % 2)) + (v / 2 ^ 2 % 2)) (nI_add _ _) ?_
  refine r_sI C zw2 hl.1 [.int (nI (((v % 2) + (v / 2 ^ 1 % 2)) + (v / 2 ^ 2 % 2)))] 1 rfl (c_X8_even (l := l) (G := G) (tC := tC) (ad := ad) (N := N) (E := E) (n := ((v % 2) + (v / 2 ^ 1 % 2)) + (v / 2 ^ 2 % 2))   (by first | assumption | omega)) gX8_codeOf_X8_even rfl ⟨rfl, rfl⟩ (by decide +kernel) ⟨Nat.le_of_ble_eq_true rfl, Nat.le_of_ble_eq_true rfl⟩ (rest := []) rfl (Nat.le_of_ble_eq_true rfl) dX8_codeOf_50 ⟨Nat.zero_le _, Nat.zero_le _⟩ (fun zr3 zE3 zH3 zL3 zp3 zw3 => ?_)
  obtain ⟨ze3, zq3⟩ := zp3
  rw [ze3] at zw3
  clear ze3
  rw [zq3]
  refine lv_istore (lv' := [(7, .int (nI (1 - (((v % 2) + (v / 2 ^ 1 % 2)) + (v / 2 ^ 2 % 2)) % 2))), (6, .int (nI (1 - (((v % 2) + (v / 2 ^ 1 % 2)) + (v / 2 ^ 3 % 2)) % 2))), (5, .int (nI (1 - (((v % 2) + (v / 2 ^ 2 % 2)) + (v / 2 ^ 3 % 2)) % 2))), (4, .int (nI (v / 2 ^ 3 % 2))), (3, .int (nI (v / 2 ^ 2 % 2))), (2, .int (nI (v / 2 ^ 1 % 2))), (1, .int (nI (v % 2))), (0, .int (nI v))]) hx hb dX8_codeOf_53 hl (by decide) rfl (fun ls hl => ?_)
  refine lv_iload hx hb dX8_codeOf_55 (lv_at hl 2 rfl) ?_
  refine lv_iload_n hx hb dX8_codeOf_57 rfl (lv_at hl 6 rfl) ?_
  refine lv_iadd hx hb dX8_codeOf_58 ?_
  refine r_nat ((1 - (((v % 2) + (v / 2 ^ 2 % 2)) + (v / 2 ^ 3 % 2)) % 2) + (v % 2)) (nI_add _ _) ?_
  refine lv_iload hx hb dX8_codeOf_59 (lv_at hl 1 rfl) ?_
  refine lv_iadd hx hb dX8_codeOf_61 ?_
  refine r_nat (((1 - (((v % 2) + (v / 2 ^ 2 % 2)) + (v / 2 ^ 3 % 2)) % 2) + (v % 2)) + (1 - (((v % 2) + (v / 2 ^ 1 % 2)) + (v / 2 ^ 3 % 2)) % 2)) (nI_add _ _) ?_
  refine lv_iload_n hx hb dX8_codeOf_62 rfl (lv_at hl 5 rfl) ?_
  refine lv_iadd hx hb dX8_codeOf_63 ?_
  refine r_nat ((((1 - (((v % 2) + (v / 2 ^ 2 % 2)) + (v / 2 ^ 3 % 2)) % 2) + (v % 2)) + (1 - (((v % 2) + (v / 2 ^ 1 % 2)) + (v / 2 ^ 3 % 2)) % 2)) + (v / 2 ^ 1 % 2)) (nI_add _ _) ?_
  refine lv_iload hx hb dX8_codeOf_64 (lv_at hl 0 rfl) ?_
  refine lv_iadd hx hb dX8_codeOf_66 ?_
  refine r_nat (((((1 - (((v % 2) + (v / 2 ^ 2 % 2)) + (v / 2 ^ 3 % 2)) % 2) + (v % 2)) + (1 - (((v % 2) + (v / 2 ^ 1 % 2)) + (v / 2 ^ 3 % 2)) % 2)) + (v / 2 ^ 1 % 2)) + (1 - (((v % 2) + (v / 2 ^ 1 % 2)) + (v / 2 ^ 2 % 2)) % 2)) (nI_add _ _) ?_
  refine lv_iload_n hx hb dX8_codeOf_67 rfl (lv_at hl 4 rfl) ?_
  refine lv_iadd hx hb dX8_codeOf_68 ?_
  refine r_nat ((((((1 - (((v % 2) + (v / 2 ^ 2 % 2)) + (v / 2 ^ 3 % 2)) % 2) + (v % 2)) + (1 - (((v % 2) + (v / 2 ^ 1 % 2)) + (v / 2 ^ 3 % 2)) % 2)) + (v / 2 ^ 1 % 2)) + (1 - (((v % 2) + (v / 2 ^ 1 % 2)) + (v / 2 ^ 2 % 2)) % 2)) + (v / 2 ^ 2 % 2)) (nI_add _ _) ?_
  refine lv_iload hx hb dX8_codeOf_69 (lv_at hl 3 rfl) ?_
  refine lv_iadd hx hb dX8_codeOf_71 ?_
  refine r_nat (((((((1 - (((v % 2) + (v / 2 ^ 2 % 2)) + (v / 2 ^ 3 % 2)) % 2) + (v % 2)) + (1 - (((v % 2) + (v / 2 ^ 1 % 2)) + (v / 2 ^ 3 % 2)) % 2)) + (v / 2 ^ 1 % 2)) + (1 - (((v % 2) + (v / 2 ^ 1 % 2)) + (v / 2 ^ 2 % 2)) % 2)) + (v / 2 ^ 2 % 2)) + (v / 2 ^ 3 % 2)) (nI_add _ _) ?_
  refine r_sI C zw3 hl.1 [.int (nI (((((((1 - (((v % 2) + (v / 2 ^ 2 % 2)) + (v / 2 ^ 3 % 2)) % 2) + (v % 2)) + (1 - (((v % 2) + (v / 2 ^ 1 % 2)) + (v / 2 ^ 3 % 2)) % 2)) + (v / 2 ^ 1 % 2)) + (1 - (((v % 2) + (v / 2 ^ 1 % 2)) + (v / 2 ^ 2 % 2)) % 2)) + (v / 2 ^ 2 % 2)) + (v / 2 ^ 3 % 2)))] 1 rfl (c_X8_even (l := l) (G := G) (tC := tC) (ad := ad) (N := N) (E := E) (n := ((((((1 - (((v % 2) + (v / 2 ^ 2 % 2)) + (v / 2 ^ 3 % 2)) % 2) + (v % 2)) + (1 - (((v % 2) + (v / 2 ^ 1 % 2)) + (v / 2 ^ 3 % 2)) % 2)) + (v / 2 ^ 1 % 2)) + (1 - (((v % 2) + (v / 2 ^ 1 % 2)) + (v / 2 ^ 2 % 2)) % 2)) + (v / 2 ^ 2 % 2)) + (v / 2 ^ 3 % 2))   (by first | assumption | omega)) gX8_codeOf_X8_even rfl ⟨rfl, rfl⟩ (by decide +kernel) ⟨Nat.le_of_ble_eq_true rfl, Nat.le_of_ble_eq_true rfl⟩ (rest := []) rfl (Nat.le_of_ble_eq_true rfl) dX8_codeOf_72 ⟨Nat.zero_le _, Nat.zero_le _⟩ (fun zr4 zE4 zH4 zL4 zp4 zw4 => ?_)
  obtain ⟨ze4, zq4⟩ := zp4
  rw [ze4] at zw4
  clear ze4
  rw [zq4]
  refine lv_istore (lv' := [(8, .int (nI (1 - (((((((1 - (((v % 2) + (v / 2 ^ 2 % 2)) + (v / 2 ^ 3 % 2)) % 2) + (v % 2)) + (1 - (((v % 2) + (v / 2 ^ 1 % 2)) + (v / 2 ^ 3 % 2)) % 2)) + (v / 2 ^ 1 % 2)) + (1 - (((v % 2) + (v / 2 ^ 1 % 2)) + (v / 2 ^ 2 % 2)) % 2)) + (v / 2 ^ 2 % 2)) + (v / 2 ^ 3 % 2)) % 2))), (7, .int (nI (1 - (((v % 2) + (v / 2 ^ 1 % 2)) + (v / 2 ^ 2 % 2)) % 2))), (6, .int (nI (1 - (((v % 2) + (v / 2 ^ 1 % 2)) + (v / 2 ^ 3 % 2)) % 2))), (5, .int (nI (1 - (((v % 2) + (v / 2 ^ 2 % 2)) + (v / 2 ^ 3 % 2)) % 2))), (4, .int (nI (v / 2 ^ 3 % 2))), (3, .int (nI (v / 2 ^ 2 % 2))), (2, .int (nI (v / 2 ^ 1 % 2))), (1, .int (nI (v % 2))), (0, .int (nI v))]) hx hb dX8_codeOf_75 hl (by decide) rfl (fun ls hl => ?_)
  refine lv_iload hx hb dX8_codeOf_77 (lv_at hl 3 rfl) ?_
  refine lv_iload_n hx hb dX8_codeOf_79 rfl (lv_at hl 7 rfl) ?_
  refine lv_iconst (v := nI 1) hx hb dX8_codeOf_80 rfl ?_
  refine lv_ishl hx hb dX8_codeOf_81 ?_
  refine lv_ior hx hb dX8_codeOf_82 ?_
  refine lv_iload hx hb dX8_codeOf_83 (lv_at hl 2 rfl) ?_
  refine lv_iconst (v := nI 2) hx hb dX8_codeOf_85 rfl ?_
  refine lv_ishl hx hb dX8_codeOf_86 ?_
  refine lv_ior hx hb dX8_codeOf_87 ?_
  refine lv_iload_n hx hb dX8_codeOf_88 rfl (lv_at hl 6 rfl) ?_
  refine lv_iconst (v := nI 3) hx hb dX8_codeOf_89 rfl ?_
  refine lv_ishl hx hb dX8_codeOf_90 ?_
  refine lv_ior hx hb dX8_codeOf_91 ?_
  refine lv_iload hx hb dX8_codeOf_92 (lv_at hl 1 rfl) ?_
  refine lv_iconst (v := nI 4) hx hb dX8_codeOf_94 rfl ?_
  refine lv_ishl hx hb dX8_codeOf_95 ?_
  refine lv_ior hx hb dX8_codeOf_96 ?_
  refine lv_iload_n hx hb dX8_codeOf_97 rfl (lv_at hl 5 rfl) ?_
  refine lv_iconst (v := nI 5) hx hb dX8_codeOf_98 rfl ?_
  refine lv_ishl hx hb dX8_codeOf_99 ?_
  refine lv_ior hx hb dX8_codeOf_100 ?_
  refine lv_iload hx hb dX8_codeOf_101 (lv_at hl 0 rfl) ?_
  refine lv_bipush (v := nI 6) hx hb dX8_codeOf_103 rfl ?_
  refine lv_ishl hx hb dX8_codeOf_105 ?_
  refine lv_ior hx hb dX8_codeOf_106 ?_
  refine lv_iload hx hb dX8_codeOf_107 (lv_at hl 4 rfl) ?_
  refine lv_bipush (v := nI 7) hx hb dX8_codeOf_109 rfl ?_
  refine lv_ishl hx hb dX8_codeOf_111 ?_
  refine lv_ior hx hb dX8_codeOf_112 ?_
  exact r_iret C zw4 dX8_codeOf_113 ⟨rfl, (by exact (by decide +kernel : ∀ v, v < 16 → (((((((nI (1 - (((v % 2) + (v / 2 ^ 2 % 2)) + (v / 2 ^ 3 % 2)) % 2)) ||| ((nI (v % 2)) <<< (nI 1 &&& 31))) ||| ((nI (1 - (((v % 2) + (v / 2 ^ 1 % 2)) + (v / 2 ^ 3 % 2)) % 2)) <<< (nI 2 &&& 31))) ||| ((nI (v / 2 ^ 1 % 2)) <<< (nI 3 &&& 31))) ||| ((nI (1 - (((v % 2) + (v / 2 ^ 1 % 2)) + (v / 2 ^ 2 % 2)) % 2)) <<< (nI 4 &&& 31))) ||| ((nI (v / 2 ^ 2 % 2)) <<< (nI 5 &&& 31))) ||| ((nI (1 - (((((((1 - (((v % 2) + (v / 2 ^ 2 % 2)) + (v / 2 ^ 3 % 2)) % 2) + (v % 2)) + (1 - (((v % 2) + (v / 2 ^ 1 % 2)) + (v / 2 ^ 3 % 2)) % 2)) + (v / 2 ^ 1 % 2)) + (1 - (((v % 2) + (v / 2 ^ 1 % 2)) + (v / 2 ^ 2 % 2)) % 2)) + (v / 2 ^ 2 % 2)) + (v / 2 ^ 3 % 2)) % 2)) <<< (nI 6 &&& 31))) ||| ((nI (v / 2 ^ 3 % 2)) <<< (nI 7 &&& 31)) = nI (codeN v)) v hv)⟩

set_option maxHeartbeats 4000000 in
set_option maxRecDepth 100000 in
theorem c_X8_numberOf {l : Launch} {G : vG} {tC : Nat} {ad : Nat → Nat} {N : Nat} {E : Nat → va_E} {o : Nat} (ho : o < 256) : MI l yX8_numberOf wsX8_numberOf ({ frames := 2, cells := 0, slots := 0, locals := 48 } : Room) G tC ad N E [.int (nI o)] (fun r E2 => E2 = E ∧ r = dec o) := by
  refine MI_of RX8 rfl (by decide) rfl (Nat.le_of_ble_eq_true rfl) ?_
  intro pp_ ee_ ss_ mm_ aa_ bb_ me_ cc_ A ls C hw hl
  have hx := C.1
  have hb := C.2.1
  have hown := C.2.2.2.2.1
  have hts := C.2.2.2.2.2.1
  have hl : lv_has ls 3 [(0, .int (nI o))] := hl
  refine lv_iconst (v := -1) hx hb dX8_numberOf_0 (by decide) ?_
  refine lv_istore_n (lv' := [(1, .int (-1)), (0, .int (nI o))]) hx hb dX8_numberOf_1 rfl hl (by decide) rfl (fun ls hl => ?_)
  refine lv_iconst (v := nI 0) hx hb dX8_numberOf_2 rfl ?_
  refine lv_istore_n (lv' := [(2, .int (nI 0)), (1, .int (-1)), (0, .int (nI o))]) hx hb dX8_numberOf_3 rfl hl (by decide) rfl (fun ls hl => ?_)
  have zlp4 : ∀ (zn : Nat) (v : Nat), 16 - v < zn → (v ≤ 16) → ∀ (H9 : Heap) (L9 : List Loc), Wd G A ss_.heap H9 L9 ad E N → ∀ (ls : Array Slot), lv_has ls 3 [(0, .int (nI o)), (1, .int (decL o v)), (2, .int (nI v))] → W pp_ l ee_ ({ frames := 2, cells := 0, slots := 0, locals := 48 } : Room) ss_ mm_ aa_ bb_ me_ cc_ H9 L9 0 0 (QI bb_ aa_ ss_ G ad N A (fun r E2 => E2 = E ∧ r = dec o)) (F0 mm_ 4 ls []) := by
    intro zn
    induction zn with
    | zero => intro v zhm; exact absurd zhm (Nat.not_lt_zero _)
    | succ zn zih4 =>
      intro v zhm4 hv zH_4 zL_4 zlw4 ls hl
      refine lv_iload_n hx hb dX8_numberOf_4 rfl (lv_at hl 2 rfl) ?_
      refine lv_bipush (v := nI 16) hx hb dX8_numberOf_5 rfl ?_
      refine n_icmp_ge (tgt := 35) hx hb dX8_numberOf_7 (by decide) (by omega) (by omega) (fun zc7 => ?_) (fun zc7 => ?_)
      · refine lv_iload_n hx hb dX8_numberOf_35 rfl (lv_at hl 1 rfl) ?_
        exact r_iret C zlw4 dX8_numberOf_36 ⟨rfl, (by rw [show v = 16 by omega]; exact decL_16 o ho)⟩
      · refine lv_iload_n hx hb dX8_numberOf_10 rfl (lv_at hl 2 rfl) ?_
        refine r_sI C zlw4 hl.1 [.int (nI v)] 1 rfl (c_X8_codeOf (l := l) (G := G) (tC := tC) (ad := ad) (N := N) (E := E) (v := v)   (by first | assumption | omega)) gX8_numberOf_X8_codeOf rfl ⟨rfl, rfl⟩ (by decide +kernel) ⟨Nat.le_of_ble_eq_true rfl, Nat.le_of_ble_eq_true rfl⟩ (rest := []) rfl (Nat.le_of_ble_eq_true rfl) dX8_numberOf_11 ⟨Nat.zero_le _, Nat.zero_le _⟩ (fun zr1 zE1 zH1 zL1 zp1 zw1 => ?_)
        obtain ⟨ze1, zq1⟩ := zp1
        rw [ze1] at zw1
        clear ze1
        rw [zq1]
        refine lv_iload_n hx hb dX8_numberOf_14 rfl (lv_at hl 0 rfl) ?_
        refine lv_ixor hx hb dX8_numberOf_15 ?_
        refine r_nat (codeN v ^^^ o) (xor_nI _ _) ?_
        refine r_sI C zw1 hl.1 [.int (nI (codeN v ^^^ o))] 1 rfl (c_X8_ones (l := l) (G := G) (tC := tC) (ad := ad) (N := N) (E := E) (v := codeN v ^^^ o)   (xor_lt (codeN_lt v (by omega)) ho)) gX8_numberOf_X8_ones rfl ⟨rfl, rfl⟩ (by decide +kernel) ⟨Nat.le_of_ble_eq_true rfl, Nat.le_of_ble_eq_true rfl⟩ (rest := []) rfl (Nat.le_of_ble_eq_true rfl) dX8_numberOf_16 ⟨Nat.zero_le _, Nat.zero_le _⟩ (fun zr2 zE2 zH2 zL2 zp2 zw2 => ?_)
        obtain ⟨ze2, zq2⟩ := zp2
        rw [ze2] at zw2
        clear ze2
        rw [zq2]
        refine lv_iconst (v := nI 2) hx hb dX8_numberOf_19 rfl ?_
        have zb8 := pc8_le (codeN v ^^^ o)
        refine n_icmp_ge (tgt := 27) hx hb dX8_numberOf_20 (by decide) (by omega) (by omega) (fun zc20 => ?_) (fun zc20 => ?_)
        · refine lv_iload_n hx hb dX8_numberOf_27 rfl (lv_at hl 1 rfl) ?_
          refine r_as (decL o (v + 1)) (by rw [decL, if_neg (by omega)]) ?_
          refine lv_istore_n (lv' := [(1, .int (decL o (v + 1))), (0, .int (nI o)), (2, .int (nI v))]) hx hb dX8_numberOf_28 rfl hl (by decide) rfl (fun ls hl => ?_)
          refine lv_iinc (v := nI (v + 1)) (lv' := [(2, .int (nI (v + 1))), (1, .int (decL o (v + 1))), (0, .int (nI o))]) hx hb dX8_numberOf_29 hl (k := 2) rfl (by rw [show Int32.ofInt 1 = nI 1 from rfl, nI_add]) (by decide) rfl (fun ls hl => ?_)
          refine lv_goto (tgt := 4) hx hb dX8_numberOf_32 (by decide) ?_
          exact zih4 (v + 1) (by omega) (by omega) _ _ zw2 _ (lv_sub hl [2, 1, 0] rfl)
        · refine lv_iload_n hx hb dX8_numberOf_23 rfl (lv_at hl 2 rfl) ?_
          refine lv_goto (tgt := 28) hx hb dX8_numberOf_24 (by decide) ?_
          refine r_as (decL o (v + 1)) (by rw [decL, if_pos zc20]) ?_
          refine lv_istore_n (lv' := [(1, .int (decL o (v + 1))), (0, .int (nI o)), (2, .int (nI v))]) hx hb dX8_numberOf_28 rfl hl (by decide) rfl (fun ls hl => ?_)
          refine lv_iinc (v := nI (v + 1)) (lv' := [(2, .int (nI (v + 1))), (1, .int (decL o (v + 1))), (0, .int (nI o))]) hx hb dX8_numberOf_29 hl (k := 2) rfl (by rw [show Int32.ofInt 1 = nI 1 from rfl, nI_add]) (by decide) rfl (fun ls hl => ?_)
          refine lv_goto (tgt := 4) hx hb dX8_numberOf_32 (by decide) ?_
          exact zih4 (v + 1) (by omega) (by omega) _ _ zw2 _ (lv_sub hl [2, 1, 0] rfl)
  exact zlp4 _ 0 (Nat.lt_succ_self _) (by omega) _ _ hw _ (lv_sub hl [2, 1, 0] rfl)

set_option maxHeartbeats 4000000 in
set_option maxRecDepth 100000 in
theorem c_X8_isMended {l : Launch} {G : vG} {tC : Nat} {ad : Nat → Nat} {N : Nat} {E : Nat → va_E} {o : Nat} (ho : o < 256) : MI l yX8_isMended wsX8_isMended ({ frames := 3, cells := 0, slots := 0, locals := 70 } : Room) G tC ad N E [.int (nI o)] (fun r E2 => E2 = E ∧ r = if mendB o then 1 else 0) := by
  refine MI_of RX8 rfl (by decide) rfl (Nat.le_of_ble_eq_true rfl) ?_
  intro pp_ ee_ ss_ mm_ aa_ bb_ me_ cc_ A ls C hw hl
  have hx := C.1
  have hb := C.2.1
  have hown := C.2.2.2.2.1
  have hts := C.2.2.2.2.2.1
  have hl : lv_has ls 2 [(0, .int (nI o))] := hl
  refine lv_iload_n hx hb dX8_isMended_0 rfl (lv_at hl 0 rfl) ?_
  refine r_sI C hw hl.1 [.int (nI o)] 1 rfl (c_X8_numberOf (l := l) (G := G) (tC := tC) (ad := ad) (N := N) (E := E) (o := o)   (by first | assumption | omega)) gX8_isMended_X8_numberOf rfl ⟨rfl, rfl⟩ (by decide +kernel) ⟨Nat.le_of_ble_eq_true rfl, Nat.le_of_ble_eq_true rfl⟩ (rest := []) rfl (Nat.le_of_ble_eq_true rfl) dX8_isMended_1 ⟨Nat.zero_le _, Nat.zero_le _⟩ (fun zr1 zE1 zH1 zL1 zp1 zw1 => ?_)
  obtain ⟨ze1, zq1⟩ := zp1
  rw [ze1] at zw1
  clear ze1
  rw [zq1]
  refine lv_istore_n (lv' := [(1, .int (dec o)), (0, .int (nI o))]) hx hb dX8_isMended_4 rfl hl (by decide) rfl (fun ls hl => ?_)
  refine lv_iload_n hx hb dX8_isMended_5 rfl (lv_at hl 0 rfl) ?_
  refine lv_iconst (v := -1) hx hb dX8_isMended_6 (by decide) ?_
  refine lv_icmp_eq (tgt := 22) hx hb dX8_isMended_7 (by decide) (fun zc7 => ?_) (fun zc7 => ?_)
  · refine lv_iconst (v := nI 0) hx hb dX8_isMended_22 rfl ?_
    exact r_zret C zw1 dX8_isMended_23 (Or.inl rfl) ⟨rfl, (by first | (rw [if_neg (fun zq => (dec_m1.mp zc7) zq.1)]; rfl) | (rw [if_neg (fun zq => zq.2 zc15)]; rfl) | (rw [if_pos ⟨(dec_nat zc7).2, zc15⟩]; rfl))⟩
  · refine lv_iload_n hx hb dX8_isMended_10 rfl (lv_at hl 0 rfl) ?_
    refine r_nat (decN o) (dec_nat zc7).1 ?_
    have zcn := codeN_lt _ (dec_nat zc7).2
    refine r_sI C zw1 hl.1 [.int (nI (decN o))] 1 rfl (c_X8_codeOf (l := l) (G := G) (tC := tC) (ad := ad) (N := N) (E := E) (v := decN o)   (dec_nat zc7).2) gX8_isMended_X8_codeOf rfl ⟨rfl, rfl⟩ (by decide +kernel) ⟨Nat.le_of_ble_eq_true rfl, Nat.le_of_ble_eq_true rfl⟩ (rest := []) rfl (Nat.le_of_ble_eq_true rfl) dX8_isMended_11 ⟨Nat.zero_le _, Nat.zero_le _⟩ (fun zr2 zE2 zH2 zL2 zp2 zw2 => ?_)
    obtain ⟨ze2, zq2⟩ := zp2
    rw [ze2] at zw2
    clear ze2
    rw [zq2]
    refine lv_iload_n hx hb dX8_isMended_14 rfl (lv_at hl 1 rfl) ?_
    refine n_icmp_eq (tgt := 22) hx hb dX8_isMended_15 (by decide) (by omega) (by omega) (fun zc15 => ?_) (fun zc15 => ?_)
    · refine lv_iconst (v := nI 0) hx hb dX8_isMended_22 rfl ?_
      exact r_zret C zw2 dX8_isMended_23 (Or.inl rfl) ⟨rfl, (by first | (rw [if_neg (fun zq => (dec_m1.mp zc7) zq.1)]; rfl) | (rw [if_neg (fun zq => zq.2 zc15)]; rfl) | (rw [if_pos ⟨(dec_nat zc7).2, zc15⟩]; rfl))⟩
    · refine lv_iconst (v := nI 1) hx hb dX8_isMended_18 rfl ?_
      refine lv_goto (tgt := 23) hx hb dX8_isMended_19 (by decide) ?_
      exact r_zret C zw2 dX8_isMended_23 (Or.inr rfl) ⟨rfl, (by first | (rw [if_neg (fun zq => (dec_m1.mp zc7) zq.1)]; rfl) | (rw [if_neg (fun zq => zq.2 zc15)]; rfl) | (rw [if_pos ⟨(dec_nat zc7).2, zc15⟩]; rfl))⟩

set_option maxHeartbeats 4000000 in
set_option maxRecDepth 100000 in
theorem c_X8_lettered {l : Launch} {G : vG} {tC : Nat} {ad : Nat → Nat} {N : Nat} {E : Nat → va_E} {n : Nat} (hn : n < 128) : MI l yX8_lettered wsX8_lettered ({ frames := 1, cells := 0, slots := 0, locals := 22 } : Room) G tC ad N E [.int (nI n)] (fun r E2 => E2 = E ∧ r = nI (if pc8 n % 2 = 1 then n else n + 128)) := by
  refine MI_of RX8 rfl (by decide) rfl (Nat.le_of_ble_eq_true rfl) ?_
  intro pp_ ee_ ss_ mm_ aa_ bb_ me_ cc_ A ls C hw hl
  have hx := C.1
  have hb := C.2.1
  have hown := C.2.2.2.2.1
  have hts := C.2.2.2.2.2.1
  have hl : lv_has ls 1 [(0, .int (nI n))] := hl
  refine lv_iload_n hx hb dX8_lettered_0 rfl (lv_at hl 0 rfl) ?_
  refine lv_iload_n hx hb dX8_lettered_1 rfl (lv_at hl 0 rfl) ?_
  refine r_sI C hw hl.1 [.int (nI n)] 1 rfl (c_X8_ones (l := l) (G := G) (tC := tC) (ad := ad) (N := N) (E := E) (v := n)   (by first | assumption | omega)) gX8_lettered_X8_ones rfl ⟨rfl, rfl⟩ (by decide +kernel) ⟨Nat.le_of_ble_eq_true rfl, Nat.le_of_ble_eq_true rfl⟩ (rest := [.int (nI n)]) rfl (Nat.le_of_ble_eq_true rfl) dX8_lettered_2 ⟨Nat.zero_le _, Nat.zero_le _⟩ (fun zr1 zE1 zH1 zL1 zp1 zw1 => ?_)
  obtain ⟨ze1, zq1⟩ := zp1
  rw [ze1] at zw1
  clear ze1
  rw [zq1]
  refine lv_iconst (v := nI 2) hx hb dX8_lettered_5 rfl ?_
  refine lv_irem hx hb dX8_lettered_6 (by decide) ?_
  refine r_nat (pc8 n % 2) (rem2_nI (by have := pc8_le n; omega) (by omega) (by omega)) ?_
  refine n_if_ne (tgt := 16) hx hb dX8_lettered_7 (by decide) (by omega) (fun zc7 => ?_) (fun zc7 => ?_)
  · refine lv_iconst (v := nI 0) hx hb dX8_lettered_16 rfl ?_
    refine lv_ior hx hb dX8_lettered_17 ?_
    refine r_nat n (or0 n) ?_
    exact r_iret C zw1 dX8_lettered_18 ⟨rfl, (by first | rw [if_pos (by omega)] | rw [if_neg (by omega)])⟩
  · refine lv_sipush (v := nI 128) hx hb dX8_lettered_10 rfl ?_
    refine lv_goto (tgt := 17) hx hb dX8_lettered_13 (by decide) ?_
    refine lv_ior hx hb dX8_lettered_17 ?_
    refine r_nat (n + 128) (or128 n hn) ?_
    exact r_iret C zw1 dX8_lettered_18 ⟨rfl, (by first | rw [if_pos (by omega)] | rw [if_neg (by omega)])⟩

set_option maxHeartbeats 4000000 in
set_option maxRecDepth 100000 in
theorem c_X8_mends {l : Launch} {G : vG} {tC : Nat} {ad : Nat → Nat} {N : Nat} {E : Nat → va_E} {q co pm em : Nat} {th : Int32} {se : Int64} {s : Nat → Int32} {pt : Nat → Int32} {pk : Nat → Nat} {a b : Nat} (hN0 : q + 13 ≤ N) (hE0 : E q = .inr (5, [.int th, .ref (ad (q + 1)), .long se, .ref (ad (q + 2)), .ref (ad (q + 3)), .int (nI co), .ref (ad (q + 4)), .int (nI pm), .ref (ad (q + 5)), .ref (ad (q + 6)), .ref (ad (q + 7)), .ref (ad (q + 8)), .int (nI em), .ref (ad (q + 9)), .ref (ad (q + 10)), .ref (ad (q + 11)), .ref (ad (q + 12))])) (hE1 : E (q + 1) = eI G 508 s) (hE2 : E (q + 2) = eI G 10 pt) (hab : a ≤ b + 1) (hb10 : b < 10) (hpk : ∀ j, j < 10 → pt j = nI (pk j) ∧ pk j < 256) : MV l yX8_mends wsX8_mends ({ frames := 4, cells := 0, slots := 0, locals := 91 } : Room) G tC ad N E [.ref (ad q), .int (nI a), .int (nI b)] (fun E2 => E2 (q + 1) = eI G 508 (upd s 3 (mdF pk a (b + 1 - a) (s 3))) ∧ (∀ j, j ≠ (q + 1) → E2 j = E j)) := by
  refine MV_of RX8 rfl (by decide) rfl (Nat.le_of_ble_eq_true rfl) ?_
  intro pp_ ee_ ss_ mm_ aa_ bb_ me_ cc_ A ls C hw hl
  have hx := C.1
  have hb := C.2.1
  have hown := C.2.2.2.2.1
  have hts := C.2.2.2.2.2.1
  have hl : lv_has ls 4 [(0, .ref (ad q)), (1, .int (nI a)), (2, .int (nI b))] := hl
  have hinX8 : ∀ w ∈ u_ws RX8 TX8 17, w ∈ wsX8_mends := by decide +kernel
  refine lv_iload_n hx hb dX8_mends_0 rfl (lv_at hl 1 rfl) ?_
  refine lv_istore_n (lv' := [(3, .int (nI a)), (0, .ref (ad q)), (1, .int (nI a)), (2, .int (nI b))]) hx hb dX8_mends_1 rfl hl (by decide) rfl (fun ls hl => ?_)
  have zlp2 : ∀ (zn : Nat) (k : Nat) (g : Nat → Int32), b + 1 - k < zn → (a ≤ k) → (k ≤ b + 1) → (g = upd s 3 (mdF pk a (k - a) (s 3))) → ∀ (E9 : Nat → va_E) (H9 : Heap) (L9 : List Loc), E9 q = .inr (5, [.int th, .ref (ad (q + 1)), .long se, .ref (ad (q + 2)), .ref (ad (q + 3)), .int (nI co), .ref (ad (q + 4)), .int (nI pm), .ref (ad (q + 5)), .ref (ad (q + 6)), .ref (ad (q + 7)), .ref (ad (q + 8)), .int (nI em), .ref (ad (q + 9)), .ref (ad (q + 10)), .ref (ad (q + 11)), .ref (ad (q + 12))]) → E9 (q + 1) = eI G 508 g → E9 (q + 2) = eI G 10 pt → (∀ j, j ≠ (q + 1) → E9 j = E j) → Wd G A ss_.heap H9 L9 ad E9 N → ∀ (ls : Array Slot), lv_has ls 4 [(0, .ref (ad q)), (1, .int (nI a)), (2, .int (nI b)), (3, .int (nI k))] → W pp_ l ee_ ({ frames := 4, cells := 0, slots := 0, locals := 91 } : Room) ss_ mm_ aa_ bb_ me_ cc_ H9 L9 0 0 (QV bb_ aa_ ss_ G ad N A (fun E2 => E2 (q + 1) = eI G 508 (upd s 3 (mdF pk a (b + 1 - a) (s 3))) ∧ (∀ j, j ≠ (q + 1) → E2 j = E j))) (F0 mm_ 2 ls []) := by
    intro zn
    induction zn with
    | zero => intro k g zhm; exact absurd zhm (Nat.not_lt_zero _)
    | succ zn zih2 =>
      intro k g zhm2 hk1 hk2 hg zE_2 zH_2 zL_2 zl2_0 zl2_1 zl2_2 zlf2 zlw2 ls hl
      refine lv_iload_n hx hb dX8_mends_2 rfl (lv_at hl 3 rfl) ?_
      refine lv_iload_n hx hb dX8_mends_3 rfl (lv_at hl 2 rfl) ?_
      refine n_icmp_gt (tgt := 50) hx hb dX8_mends_4 (by decide) (by omega) (by omega) (fun zc4 => ?_) (fun zc4 => ?_)
      · exact r_vret C zlw2 dX8_mends_50 ⟨(zl2_1.trans (by rw [hg, show k = b + 1 by omega])), (fun j zm0 => zlf2 j zm0)⟩
      · refine lv_aload_n hx hb dX8_mends_7 rfl (lv_at hl 0 rfl) ?_
        refine r_get C zlw2 RX8 TX8 17 5 hinX8 (i := q) (by omega) zl2_0 rfl 1 (by decide) (by decide +kernel) rfl (v := .ref (ad (q + 1))) rfl dX8_mends_8 ?_
        refine lv_iconst (v := nI 3) hx hb dX8_mends_11 rfl ?_
        refine lv_dup2_11 hx hb dX8_mends_12 rfl rfl ?_
        refine r_iaN C zlw2 (i := (q + 1)) (by omega) zl2_1 (j := 3) (by omega) (by omega) dX8_mends_13 ?_
        refine lv_aload_n hx hb dX8_mends_14 rfl (lv_at hl 0 rfl) ?_
        refine r_get C zlw2 RX8 TX8 17 5 hinX8 (i := q) (by omega) zl2_0 rfl 3 (by decide) (by decide +kernel) rfl (v := .ref (ad (q + 2))) rfl dX8_mends_15 ?_
        refine lv_iload_n hx hb dX8_mends_18 rfl (lv_at hl 3 rfl) ?_
        refine r_iaN C zlw2 (i := (q + 2)) (by omega) zl2_2 (j := k) (by omega) (by omega) dX8_mends_19 ?_
        refine r_nat (pk k) (hpk k (by omega)).1 ?_
        refine r_sI C zlw2 hl.1 [.int (nI (pk k))] 1 rfl (c_X8_isMended (l := l) (G := G) (tC := tC) (ad := ad) (N := N) (E := zE_2) (o := pk k)   (hpk k (by omega)).2) gX8_mends_X8_isMended rfl ⟨rfl, rfl⟩ (by decide +kernel) ⟨Nat.le_of_ble_eq_true rfl, Nat.le_of_ble_eq_true rfl⟩ (rest := [.int (g 3), .int (nI 3), .ref (ad (q + 1))]) rfl (Nat.le_of_ble_eq_true rfl) dX8_mends_20 ⟨Nat.zero_le _, Nat.zero_le _⟩ (fun zr1 zE1 zH1 zL1 zp1 zw1 => ?_)
        obtain ⟨ze1, zq1⟩ := zp1
        rw [ze1] at zw1
        clear ze1
        rw [zq1]
        refine b_if_eq (tgt := 41) hx hb dX8_mends_23 (by decide) (fun zc23 => ?_) (fun zc23 => ?_)
        · refine lv_iconst (v := nI 0) hx hb dX8_mends_41 rfl ?_
          refine lv_iadd hx hb dX8_mends_42 ?_
          refine r_iasN C zw1 (i := (q + 1)) (by omega) zl2_1 (j := 3) (by omega) (by omega) dX8_mends_43 (fun zE2 zH2 zL2 zg2 zf2 zw2 => ?_)
          have zh2_0 : zE2 (q + 1) = eI G 508 (upd g 3 ((g 3) + (nI 0))) := zg2
          have zk2_0 : zE2 q = .inr (5, [.int th, .ref (ad (q + 1)), .long se, .ref (ad (q + 2)), .ref (ad (q + 3)), .int (nI co), .ref (ad (q + 4)), .int (nI pm), .ref (ad (q + 5)), .ref (ad (q + 6)), .ref (ad (q + 7)), .ref (ad (q + 8)), .int (nI em), .ref (ad (q + 9)), .ref (ad (q + 10)), .ref (ad (q + 11)), .ref (ad (q + 12))]) := (zf2 _ (by omega)).trans zl2_0
          have zk2_1 : zE2 (q + 2) = eI G 10 pt := (zf2 _ (by omega)).trans zl2_2
          have zfr2 : ∀ j, j ≠ (q + 1) → zE2 j = E j := fun j zm0 => (zf2 j zm0).trans (zlf2 j zm0)
          refine lv_iinc (v := nI (k + 1)) (lv' := [(3, .int (nI (k + 1))), (0, .ref (ad q)), (1, .int (nI a)), (2, .int (nI b))]) hx hb dX8_mends_44 hl (k := 3) rfl (by rw [show Int32.ofInt 1 = nI 1 from rfl, nI_add]) (by decide) rfl (fun ls hl => ?_)
          refine lv_goto (tgt := 2) hx hb dX8_mends_47 (by decide) ?_
          exact zih2 (k + 1) (upd g 3 ((g 3) + (nI 0))) (by omega) (by omega) (by omega) (by rw [hg, upd2, upd_s, mdF_s _ _ hk1]; simp only [mend1]; first | (rw [if_pos ⟨zc23, by rw [hg, upd_s] at zc34; exact Int32.not_le.mp zc34⟩]; rfl) | (rw [if_neg (fun zq => Int32.not_le.mpr zq.2 (by rw [hg, upd_s] at zc34; exact zc34))]; rw [add_0]) | (rw [if_neg (fun zq => zc23 zq.1)]; rw [add_0])) _ _ _ zk2_0 zh2_0 zk2_1 (fun j zm0 => zfr2 j zm0) zw2 _ (lv_sub hl [1, 2, 3, 0] rfl)
        · refine lv_aload_n hx hb dX8_mends_26 rfl (lv_at hl 0 rfl) ?_
          refine r_get C zw1 RX8 TX8 17 5 hinX8 (i := q) (by omega) zl2_0 rfl 1 (by decide) (by decide +kernel) rfl (v := .ref (ad (q + 1))) rfl dX8_mends_27 ?_
          refine lv_iconst (v := nI 3) hx hb dX8_mends_30 rfl ?_
          refine r_iaN C zw1 (i := (q + 1)) (by omega) zl2_1 (j := 3) (by omega) (by omega) dX8_mends_31 ?_
          refine lv_ldc (v := 99999) hx hb hown (hts (.constant RX8 81 (99999)) (by decide +kernel)) dX8_mends_32 ?_
          refine r_nat 99999 rfl ?_
          refine lv_icmp_ge (tgt := 41) hx hb dX8_mends_34 (by decide) (fun zc34 => ?_) (fun zc34 => ?_)
          · refine lv_iconst (v := nI 0) hx hb dX8_mends_41 rfl ?_
            refine lv_iadd hx hb dX8_mends_42 ?_
            refine r_iasN C zw1 (i := (q + 1)) (by omega) zl2_1 (j := 3) (by omega) (by omega) dX8_mends_43 (fun zE3 zH3 zL3 zg3 zf3 zw3 => ?_)
            have zh3_0 : zE3 (q + 1) = eI G 508 (upd g 3 ((g 3) + (nI 0))) := zg3
            have zk3_0 : zE3 q = .inr (5, [.int th, .ref (ad (q + 1)), .long se, .ref (ad (q + 2)), .ref (ad (q + 3)), .int (nI co), .ref (ad (q + 4)), .int (nI pm), .ref (ad (q + 5)), .ref (ad (q + 6)), .ref (ad (q + 7)), .ref (ad (q + 8)), .int (nI em), .ref (ad (q + 9)), .ref (ad (q + 10)), .ref (ad (q + 11)), .ref (ad (q + 12))]) := (zf3 _ (by omega)).trans zl2_0
            have zk3_1 : zE3 (q + 2) = eI G 10 pt := (zf3 _ (by omega)).trans zl2_2
            have zfr3 : ∀ j, j ≠ (q + 1) → zE3 j = E j := fun j zm0 => (zf3 j zm0).trans (zlf2 j zm0)
            refine lv_iinc (v := nI (k + 1)) (lv' := [(3, .int (nI (k + 1))), (0, .ref (ad q)), (1, .int (nI a)), (2, .int (nI b))]) hx hb dX8_mends_44 hl (k := 3) rfl (by rw [show Int32.ofInt 1 = nI 1 from rfl, nI_add]) (by decide) rfl (fun ls hl => ?_)
            refine lv_goto (tgt := 2) hx hb dX8_mends_47 (by decide) ?_
            exact zih2 (k + 1) (upd g 3 ((g 3) + (nI 0))) (by omega) (by omega) (by omega) (by rw [hg, upd2, upd_s, mdF_s _ _ hk1]; simp only [mend1]; first | (rw [if_pos ⟨zc23, by rw [hg, upd_s] at zc34; exact Int32.not_le.mp zc34⟩]; rfl) | (rw [if_neg (fun zq => Int32.not_le.mpr zq.2 (by rw [hg, upd_s] at zc34; exact zc34))]; rw [add_0]) | (rw [if_neg (fun zq => zc23 zq.1)]; rw [add_0])) _ _ _ zk3_0 zh3_0 zk3_1 (fun j zm0 => zfr3 j zm0) zw3 _ (lv_sub hl [1, 2, 3, 0] rfl)
          · refine lv_iconst (v := nI 1) hx hb dX8_mends_37 rfl ?_
            refine lv_goto (tgt := 42) hx hb dX8_mends_38 (by decide) ?_
            refine lv_iadd hx hb dX8_mends_42 ?_
            refine r_iasN C zw1 (i := (q + 1)) (by omega) zl2_1 (j := 3) (by omega) (by omega) dX8_mends_43 (fun zE4 zH4 zL4 zg4 zf4 zw4 => ?_)
            have zh4_0 : zE4 (q + 1) = eI G 508 (upd g 3 ((g 3) + (nI 1))) := zg4
            have zk4_0 : zE4 q = .inr (5, [.int th, .ref (ad (q + 1)), .long se, .ref (ad (q + 2)), .ref (ad (q + 3)), .int (nI co), .ref (ad (q + 4)), .int (nI pm), .ref (ad (q + 5)), .ref (ad (q + 6)), .ref (ad (q + 7)), .ref (ad (q + 8)), .int (nI em), .ref (ad (q + 9)), .ref (ad (q + 10)), .ref (ad (q + 11)), .ref (ad (q + 12))]) := (zf4 _ (by omega)).trans zl2_0
            have zk4_1 : zE4 (q + 2) = eI G 10 pt := (zf4 _ (by omega)).trans zl2_2
            have zfr4 : ∀ j, j ≠ (q + 1) → zE4 j = E j := fun j zm0 => (zf4 j zm0).trans (zlf2 j zm0)
            refine lv_iinc (v := nI (k + 1)) (lv' := [(3, .int (nI (k + 1))), (0, .ref (ad q)), (1, .int (nI a)), (2, .int (nI b))]) hx hb dX8_mends_44 hl (k := 3) rfl (by rw [show Int32.ofInt 1 = nI 1 from rfl, nI_add]) (by decide) rfl (fun ls hl => ?_)
            refine lv_goto (tgt := 2) hx hb dX8_mends_47 (by decide) ?_
            exact zih2 (k + 1) (upd g 3 ((g 3) + (nI 1))) (by omega) (by omega) (by omega) (by rw [hg, upd2, upd_s, mdF_s _ _ hk1]; simp only [mend1]; first | (rw [if_pos ⟨zc23, by rw [hg, upd_s] at zc34; exact Int32.not_le.mp zc34⟩]; rfl) | (rw [if_neg (fun zq => Int32.not_le.mpr zq.2 (by rw [hg, upd_s] at zc34; exact zc34))]; rw [add_0]) | (rw [if_neg (fun zq => zc23 zq.1)]; rw [add_0])) _ _ _ zk4_0 zh4_0 zk4_1 (fun j zm0 => zfr4 j zm0) zw4 _ (lv_sub hl [1, 2, 3, 0] rfl)
  exact zlp2 _ a s (Nat.lt_succ_self _) (by omega) (by omega) (by rw [Nat.sub_self, mdF, upd_id]) _ _ _ hE0 hE1 hE2 (fun j _ => rfl) hw _ (lv_sub hl [1, 2, 3, 0] rfl)

set_option maxHeartbeats 4000000 in
set_option maxRecDepth 100000 in
theorem c_X8_number {l : Launch} {G : vG} {tC : Nat} {ad : Nat → Nat} {N : Nat} {E : Nat → va_E} {q co pm em : Nat} {th : Int32} {se : Int64} {pt : Nat → Int32} {pk : Nat → Nat} {k : Nat} (hN0 : q + 13 ≤ N) (hE0 : E q = .inr (5, [.int th, .ref (ad (q + 1)), .long se, .ref (ad (q + 2)), .ref (ad (q + 3)), .int (nI co), .ref (ad (q + 4)), .int (nI pm), .ref (ad (q + 5)), .ref (ad (q + 6)), .ref (ad (q + 7)), .ref (ad (q + 8)), .int (nI em), .ref (ad (q + 9)), .ref (ad (q + 10)), .ref (ad (q + 11)), .ref (ad (q + 12))])) (hE1 : E (q + 2) = eI G 10 pt) (hk : k < 10) (hpk : ∀ j, j < 10 → pt j = nI (pk j) ∧ pk j < 256) : MI l yX8_number wsX8_number ({ frames := 3, cells := 0, slots := 0, locals := 70 } : Room) G tC ad N E [.ref (ad q), .int (nI k)] (fun r E2 => E2 = E ∧ r = dec (pk k)) := by
  refine MI_of RX8 rfl (by decide) rfl (Nat.le_of_ble_eq_true rfl) ?_
  intro pp_ ee_ ss_ mm_ aa_ bb_ me_ cc_ A ls C hw hl
  have hx := C.1
  have hb := C.2.1
  have hown := C.2.2.2.2.1
  have hts := C.2.2.2.2.2.1
  have hl : lv_has ls 2 [(0, .ref (ad q)), (1, .int (nI k))] := hl
  have hinX8 : ∀ w ∈ u_ws RX8 TX8 17, w ∈ wsX8_number := by decide +kernel
  refine lv_aload_n hx hb dX8_number_0 rfl (lv_at hl 0 rfl) ?_
  refine r_get C hw RX8 TX8 17 5 hinX8 (i := q) (by omega) hE0 rfl 3 (by decide) (by decide +kernel) rfl (v := .ref (ad (q + 2))) rfl dX8_number_1 ?_
  refine lv_iload_n hx hb dX8_number_4 rfl (lv_at hl 1 rfl) ?_
  refine r_iaN C hw (i := (q + 2)) (by omega) hE1 (j := k) (by omega) (by omega) dX8_number_5 ?_
  refine r_nat (pk k) (hpk k hk).1 ?_
  refine r_sI C hw hl.1 [.int (nI (pk k))] 1 rfl (c_X8_numberOf (l := l) (G := G) (tC := tC) (ad := ad) (N := N) (E := E) (o := pk k)   (hpk k hk).2) gX8_number_X8_numberOf rfl ⟨rfl, rfl⟩ (by decide +kernel) ⟨Nat.le_of_ble_eq_true rfl, Nat.le_of_ble_eq_true rfl⟩ (rest := []) rfl (Nat.le_of_ble_eq_true rfl) dX8_number_6 ⟨Nat.zero_le _, Nat.zero_le _⟩ (fun zr1 zE1 zH1 zL1 zp1 zw1 => ?_)
  obtain ⟨ze1, zq1⟩ := zp1
  rw [ze1] at zw1
  clear ze1
  rw [zq1]
  exact r_iret C zw1 dX8_number_9 ⟨rfl, (by rfl)⟩

set_option maxHeartbeats 4000000 in
set_option maxRecDepth 100000 in
theorem c_X8_pageOf {l : Launch} {G : vG} {tC : Nat} {ad : Nat → Nat} {N : Nat} {E : Nat → va_E} {q co pm em : Nat} {th : Int32} {se : Int64} {pg : Nat} {s : Nat → Int32} {b n p9 : Int32} (hN0 : q + 13 ≤ N) (hE0 : E q = .inr (5, [.int th, .ref (ad (q + 1)), .long se, .ref (ad (q + 2)), .ref (ad (q + 3)), .int (nI co), .ref (ad (q + 4)), .int (nI pm), .ref (ad (q + 5)), .ref (ad (q + 6)), .ref (ad (q + 7)), .ref (ad (q + 8)), .int (nI em), .ref (ad (q + 9)), .ref (ad (q + 10)), .ref (ad (q + 11)), .ref (ad (q + 12))])) (hE1 : E (q + 1) = eI G 508 s) (hs0 : s 0 = nI pg) (hpg : pg ≤ 10) : MI l yX8_pageOf wsX8_pageOf ({ frames := 2, cells := 0, slots := 0, locals := 42 } : Room) G tC ad N E [.ref (ad q), .int b, .int n, .int p9] (fun r E2 => E2 = E ∧ r = fdI (srch (cel s) b n p9 pg 0) pg) := by
  refine MI_of RX8 rfl (by decide) rfl (Nat.le_of_ble_eq_true rfl) ?_
  intro pp_ ee_ ss_ mm_ aa_ bb_ me_ cc_ A ls C hw hl
  have hx := C.1
  have hb := C.2.1
  have hown := C.2.2.2.2.1
  have hts := C.2.2.2.2.2.1
  have hl : lv_has ls 5 [(0, .ref (ad q)), (1, .int b), (2, .int n), (3, .int p9)] := hl
  have hinX8 : ∀ w ∈ u_ws RX8 TX8 17, w ∈ wsX8_pageOf := by decide +kernel
  refine lv_iconst (v := nI 0) hx hb dX8_pageOf_0 rfl ?_
  refine lv_istore (lv' := [(4, .int (nI 0)), (0, .ref (ad q)), (1, .int b), (2, .int n), (3, .int p9)]) hx hb dX8_pageOf_1 hl (by decide) rfl (fun ls hl => ?_)
  have zlp3 : ∀ (zn : Nat) (k : Nat), pg - k < zn → (k ≤ pg) → (srch (cel s) b n p9 (pg - k) k = srch (cel s) b n p9 pg 0) → ∀ (H9 : Heap) (L9 : List Loc), Wd G A ss_.heap H9 L9 ad E N → ∀ (ls : Array Slot), lv_has ls 5 [(0, .ref (ad q)), (1, .int b), (2, .int n), (3, .int p9), (4, .int (nI k))] → W pp_ l ee_ ({ frames := 2, cells := 0, slots := 0, locals := 42 } : Room) ss_ mm_ aa_ bb_ me_ cc_ H9 L9 0 0 (QI bb_ aa_ ss_ G ad N A (fun r E2 => E2 = E ∧ r = fdI (srch (cel s) b n p9 pg 0) pg)) (F0 mm_ 3 ls []) := by
    intro zn
    induction zn with
    | zero => intro k zhm; exact absurd zhm (Nat.not_lt_zero _)
    | succ zn zih3 =>
      intro k zhm3 hk hr zH_3 zL_3 zlw3 ls hl
      refine lv_iload hx hb dX8_pageOf_3 (lv_at hl 4 rfl) ?_
      refine lv_aload_n hx hb dX8_pageOf_5 rfl (lv_at hl 0 rfl) ?_
      refine r_get C zlw3 RX8 TX8 17 5 hinX8 (i := q) (by omega) hE0 rfl 1 (by decide) (by decide +kernel) rfl (v := .ref (ad (q + 1))) rfl dX8_pageOf_6 ?_
      refine lv_iconst (v := nI 0) hx hb dX8_pageOf_9 rfl ?_
      refine r_iaN C zlw3 (i := (q + 1)) (by omega) hE1 (j := 0) (by omega) (by omega) dX8_pageOf_10 ?_
      refine r_nat pg hs0 ?_
      refine n_icmp_ge (tgt := 56) hx hb dX8_pageOf_11 (by decide) (by omega) (by omega) (fun zc11 => ?_) (fun zc11 => ?_)
      · refine lv_iconst (v := -1) hx hb dX8_pageOf_56 (by decide) ?_
        exact r_iret C zlw3 dX8_pageOf_57 ⟨rfl, (by rw [← hr, show pg - k = 0 by omega, srch, fdI, if_neg (by omega)])⟩
      · refine lv_aload_n hx hb dX8_pageOf_14 rfl (lv_at hl 0 rfl) ?_
        refine lv_iload hx hb dX8_pageOf_15 (lv_at hl 4 rfl) ?_
        refine lv_iconst (v := nI 0) hx hb dX8_pageOf_17 rfl ?_
        refine r_vI C zlw3 hl.1 (i := q) (by omega) hE0 (T := TX8) (n := 17) rfl [.int (nI k), .int (nI 0)] 2 rfl (c_X8_of (l := l) (G := G) (tC := tC) (ad := ad) (N := N) (E := E) (q := q) (co := co) (pm := pm) (em := em) (th := th) (se := se) (s := s) (k := k) (w := 0) (by omega) hE0 hE1 (by first | assumption | omega)) gX8_pageOf_X8_of rfl ⟨rfl, rfl⟩ (by decide +kernel) ⟨Nat.le_of_ble_eq_true rfl, Nat.le_of_ble_eq_true rfl⟩ (rest := []) rfl (Nat.le_of_ble_eq_true rfl) dX8_pageOf_18 ⟨Nat.zero_le _, Nat.zero_le _⟩ (fun zr1 zE1 zH1 zL1 zp1 zw1 => ?_)
        obtain ⟨ze1, zq1⟩ := zp1
        rw [ze1] at zw1
        clear ze1
        rw [zq1]
        refine lv_iload_n hx hb dX8_pageOf_21 rfl (lv_at hl 1 rfl) ?_
        refine lv_icmp_ne (tgt := 50) hx hb dX8_pageOf_22 (by decide) (fun zc22 => ?_) (fun zc22 => ?_)
        · refine lv_iinc (v := nI (k + 1)) (lv' := [(4, .int (nI (k + 1))), (0, .ref (ad q)), (1, .int b), (2, .int n), (3, .int p9)]) hx hb dX8_pageOf_50 hl (k := 4) rfl (by rw [show Int32.ofInt 1 = nI 1 from rfl, nI_add]) (by decide) rfl (fun ls hl => ?_)
          refine lv_goto (tgt := 3) hx hb dX8_pageOf_53 (by decide) ?_
          exact zih3 (k + 1) (by omega) (by omega) (by rw [← hr, srch_n (k := k) zc11 (fun zq => by first | exact zc22 zq.1 | exact zc33 zq.2.1 | exact zc44 zq.2.2)]) _ _ zw1 _ (lv_sub hl [1, 2, 3, 4, 0] rfl)
        · refine lv_aload_n hx hb dX8_pageOf_25 rfl (lv_at hl 0 rfl) ?_
          refine lv_iload hx hb dX8_pageOf_26 (lv_at hl 4 rfl) ?_
          refine lv_iconst (v := nI 1) hx hb dX8_pageOf_28 rfl ?_
          refine r_vI C zw1 hl.1 (i := q) (by omega) hE0 (T := TX8) (n := 17) rfl [.int (nI k), .int (nI 1)] 2 rfl (c_X8_of (l := l) (G := G) (tC := tC) (ad := ad) (N := N) (E := E) (q := q) (co := co) (pm := pm) (em := em) (th := th) (se := se) (s := s) (k := k) (w := 1) (by omega) hE0 hE1 (by first | assumption | omega)) gX8_pageOf_X8_of rfl ⟨rfl, rfl⟩ (by decide +kernel) ⟨Nat.le_of_ble_eq_true rfl, Nat.le_of_ble_eq_true rfl⟩ (rest := []) rfl (Nat.le_of_ble_eq_true rfl) dX8_pageOf_29 ⟨Nat.zero_le _, Nat.zero_le _⟩ (fun zr2 zE2 zH2 zL2 zp2 zw2 => ?_)
          obtain ⟨ze2, zq2⟩ := zp2
          rw [ze2] at zw2
          clear ze2
          rw [zq2]
          refine lv_iload_n hx hb dX8_pageOf_32 rfl (lv_at hl 2 rfl) ?_
          refine lv_icmp_ne (tgt := 50) hx hb dX8_pageOf_33 (by decide) (fun zc33 => ?_) (fun zc33 => ?_)
          · refine lv_iinc (v := nI (k + 1)) (lv' := [(4, .int (nI (k + 1))), (0, .ref (ad q)), (1, .int b), (2, .int n), (3, .int p9)]) hx hb dX8_pageOf_50 hl (k := 4) rfl (by rw [show Int32.ofInt 1 = nI 1 from rfl, nI_add]) (by decide) rfl (fun ls hl => ?_)
            refine lv_goto (tgt := 3) hx hb dX8_pageOf_53 (by decide) ?_
            exact zih3 (k + 1) (by omega) (by omega) (by rw [← hr, srch_n (k := k) zc11 (fun zq => by first | exact zc22 zq.1 | exact zc33 zq.2.1 | exact zc44 zq.2.2)]) _ _ zw2 _ (lv_sub hl [1, 2, 3, 4, 0] rfl)
          · refine lv_aload_n hx hb dX8_pageOf_36 rfl (lv_at hl 0 rfl) ?_
            refine lv_iload hx hb dX8_pageOf_37 (lv_at hl 4 rfl) ?_
            refine lv_iconst (v := nI 2) hx hb dX8_pageOf_39 rfl ?_
            refine r_vI C zw2 hl.1 (i := q) (by omega) hE0 (T := TX8) (n := 17) rfl [.int (nI k), .int (nI 2)] 2 rfl (c_X8_of (l := l) (G := G) (tC := tC) (ad := ad) (N := N) (E := E) (q := q) (co := co) (pm := pm) (em := em) (th := th) (se := se) (s := s) (k := k) (w := 2) (by omega) hE0 hE1 (by first | assumption | omega)) gX8_pageOf_X8_of rfl ⟨rfl, rfl⟩ (by decide +kernel) ⟨Nat.le_of_ble_eq_true rfl, Nat.le_of_ble_eq_true rfl⟩ (rest := []) rfl (Nat.le_of_ble_eq_true rfl) dX8_pageOf_40 ⟨Nat.zero_le _, Nat.zero_le _⟩ (fun zr3 zE3 zH3 zL3 zp3 zw3 => ?_)
            obtain ⟨ze3, zq3⟩ := zp3
            rw [ze3] at zw3
            clear ze3
            rw [zq3]
            refine lv_iload_n hx hb dX8_pageOf_43 rfl (lv_at hl 3 rfl) ?_
            refine lv_icmp_ne (tgt := 50) hx hb dX8_pageOf_44 (by decide) (fun zc44 => ?_) (fun zc44 => ?_)
            · refine lv_iinc (v := nI (k + 1)) (lv' := [(4, .int (nI (k + 1))), (0, .ref (ad q)), (1, .int b), (2, .int n), (3, .int p9)]) hx hb dX8_pageOf_50 hl (k := 4) rfl (by rw [show Int32.ofInt 1 = nI 1 from rfl, nI_add]) (by decide) rfl (fun ls hl => ?_)
              refine lv_goto (tgt := 3) hx hb dX8_pageOf_53 (by decide) ?_
              exact zih3 (k + 1) (by omega) (by omega) (by rw [← hr, srch_n (k := k) zc11 (fun zq => by first | exact zc22 zq.1 | exact zc33 zq.2.1 | exact zc44 zq.2.2)]) _ _ zw3 _ (lv_sub hl [1, 2, 3, 4, 0] rfl)
            · refine lv_iload hx hb dX8_pageOf_47 (lv_at hl 4 rfl) ?_
              exact r_iret C zw3 dX8_pageOf_49 ⟨rfl, (by rw [← hr, srch_y (k := k) zc11 ⟨zc22, zc33, zc44⟩, fdI, if_pos (by omega)])⟩
  exact zlp3 _ 0 (Nat.lt_succ_self _) (by omega) (by rfl) _ _ hw _ (lv_sub hl [1, 2, 3, 4, 0] rfl)

set_option maxHeartbeats 4000000 in
set_option maxRecDepth 100000 in
theorem c_X8_goes {l : Launch} {G : vG} {tC : Nat} {ad : Nat → Nat} {N : Nat} {E : Nat → va_E} {q co pm em : Nat} {th : Int32} {se : Int64} {pg : Nat} {s : Nat → Int32} {page : Nat} (hN0 : q + 13 ≤ N) (hE0 : E q = .inr (5, [.int th, .ref (ad (q + 1)), .long se, .ref (ad (q + 2)), .ref (ad (q + 3)), .int (nI co), .ref (ad (q + 4)), .int (nI pm), .ref (ad (q + 5)), .ref (ad (q + 6)), .ref (ad (q + 7)), .ref (ad (q + 8)), .int (nI em), .ref (ad (q + 9)), .ref (ad (q + 10)), .ref (ad (q + 11)), .ref (ad (q + 12))])) (hE1 : E (q + 1) = eI G 508 s) (hs0 : s 0 = nI pg) (hpg : pg ≤ 10) (hp : page < pg) : MV l yX8_goes wsX8_goes ({ frames := 1, cells := 0, slots := 0, locals := 20 } : Room) G tC ad N E [.ref (ad q), .int (nI page)] (fun E2 => E2 (q + 1) = eI G 508 (goesF s pg page) ∧ (∀ j, j ≠ (q + 1) → E2 j = E j)) := by
  refine MV_of RX8 rfl (by decide) rfl (Nat.le_of_ble_eq_true rfl) ?_
  intro pp_ ee_ ss_ mm_ aa_ bb_ me_ cc_ A ls C hw hl
  have hx := C.1
  have hb := C.2.1
  have hown := C.2.2.2.2.1
  have hts := C.2.2.2.2.2.1
  have hl : lv_has ls 4 [(0, .ref (ad q)), (1, .int (nI page))] := hl
  have hinX8 : ∀ w ∈ u_ws RX8 TX8 17, w ∈ wsX8_goes := by decide +kernel
  refine lv_iload_n hx hb dX8_goes_0 rfl (lv_at hl 1 rfl) ?_
  refine r_sI C hw hl.1 [.int (nI page)] 1 rfl (c_X8_at (l := l) (G := G) (tC := tC) (ad := ad) (N := N) (E := E) (k := page)   ) gX8_goes_X8_at rfl ⟨rfl, rfl⟩ (by decide +kernel) ⟨Nat.le_of_ble_eq_true rfl, Nat.le_of_ble_eq_true rfl⟩ (rest := []) rfl (Nat.le_of_ble_eq_true rfl) dX8_goes_1 ⟨Nat.zero_le _, Nat.zero_le _⟩ (fun zr1 zE1 zH1 zL1 zp1 zw1 => ?_)
  obtain ⟨ze1, zq1⟩ := zp1
  rw [ze1] at zw1
  clear ze1
  rw [zq1]
  refine lv_istore_n (lv' := [(2, .int (nI (8 + 50 * page))), (0, .ref (ad q)), (1, .int (nI page))]) hx hb dX8_goes_4 rfl hl (by decide) rfl (fun ls hl => ?_)
  have zlp5 : ∀ (zn : Nat) (i : Nat) (g : Nat → Int32), 8 + 50 * pg - i < zn → (8 + 50 * page ≤ i) → (i ≤ 8 + 50 * (pg - 1)) → (g = shF s (8 + 50 * page) i) → ∀ (E9 : Nat → va_E) (H9 : Heap) (L9 : List Loc), E9 q = .inr (5, [.int th, .ref (ad (q + 1)), .long se, .ref (ad (q + 2)), .ref (ad (q + 3)), .int (nI co), .ref (ad (q + 4)), .int (nI pm), .ref (ad (q + 5)), .ref (ad (q + 6)), .ref (ad (q + 7)), .ref (ad (q + 8)), .int (nI em), .ref (ad (q + 9)), .ref (ad (q + 10)), .ref (ad (q + 11)), .ref (ad (q + 12))]) → E9 (q + 1) = eI G 508 g → (∀ j, j ≠ (q + 1) → E9 j = E j) → Wd G A ss_.heap H9 L9 ad E9 N → ∀ (ls : Array Slot), lv_has ls 4 [(0, .ref (ad q)), (1, .int (nI page)), (2, .int (nI i))] → W pp_ l ee_ ({ frames := 1, cells := 0, slots := 0, locals := 20 } : Room) ss_ mm_ aa_ bb_ me_ cc_ H9 L9 0 0 (QV bb_ aa_ ss_ G ad N A (fun E2 => E2 (q + 1) = eI G 508 (goesF s pg page) ∧ (∀ j, j ≠ (q + 1) → E2 j = E j))) (F0 mm_ 5 ls []) := by
    intro zn
    induction zn with
    | zero => intro i g zhm; exact absurd zhm (Nat.not_lt_zero _)
    | succ zn zih5 =>
      intro i g zhm5 hi1 hi2 hg zE_5 zH_5 zL_5 zl5_0 zl5_1 zlf5 zlw5 ls hl
      refine lv_iload_n hx hb dX8_goes_5 rfl (lv_at hl 2 rfl) ?_
      refine lv_aload_n hx hb dX8_goes_6 rfl (lv_at hl 0 rfl) ?_
      refine r_get C zlw5 RX8 TX8 17 5 hinX8 (i := q) (by omega) zl5_0 rfl 1 (by decide) (by decide +kernel) rfl (v := .ref (ad (q + 1))) rfl dX8_goes_7 ?_
      refine lv_iconst (v := nI 0) hx hb dX8_goes_10 rfl ?_
      refine r_iaN C zlw5 (i := (q + 1)) (by omega) zl5_1 (j := 0) (by omega) (by omega) dX8_goes_11 ?_
      refine r_nat pg (by rw [hg, shF_lo _ (by omega)]; exact hs0) ?_
      refine lv_iconst (v := nI 1) hx hb dX8_goes_12 rfl ?_
      refine lv_isub hx hb dX8_goes_13 ?_
      refine r_nat (pg - 1) (pk_sub (by omega)) ?_
      refine r_sI C zlw5 hl.1 [.int (nI (pg - 1))] 1 rfl (c_X8_at (l := l) (G := G) (tC := tC) (ad := ad) (N := N) (E := zE_5) (k := pg - 1)   ) gX8_goes_X8_at rfl ⟨rfl, rfl⟩ (by decide +kernel) ⟨Nat.le_of_ble_eq_true rfl, Nat.le_of_ble_eq_true rfl⟩ (rest := [.int (nI i)]) rfl (Nat.le_of_ble_eq_true rfl) dX8_goes_14 ⟨Nat.zero_le _, Nat.zero_le _⟩ (fun zr2 zE2 zH2 zL2 zp2 zw2 => ?_)
      obtain ⟨ze2, zq2⟩ := zp2
      rw [ze2] at zw2
      clear ze2
      rw [zq2]
      refine n_icmp_ge (tgt := 41) hx hb dX8_goes_17 (by decide) (by omega) (by omega) (fun zc17 => ?_) (fun zc17 => ?_)
      · refine lv_aload_n hx hb dX8_goes_41 rfl (lv_at hl 0 rfl) ?_
        refine r_get C zw2 RX8 TX8 17 5 hinX8 (i := q) (by omega) zl5_0 rfl 1 (by decide) (by decide +kernel) rfl (v := .ref (ad (q + 1))) rfl dX8_goes_42 ?_
        refine lv_iconst (v := nI 0) hx hb dX8_goes_45 rfl ?_
        refine lv_dup2_11 hx hb dX8_goes_46 rfl rfl ?_
        refine r_iaN C zw2 (i := (q + 1)) (by omega) zl5_1 (j := 0) (by omega) (by omega) dX8_goes_47 ?_
        refine r_nat pg (by rw [hg, shF_lo _ (by omega)]; exact hs0) ?_
        refine lv_iconst (v := nI 1) hx hb dX8_goes_48 rfl ?_
        refine lv_isub hx hb dX8_goes_49 ?_
        refine r_nat (pg - 1) (pk_sub (by omega)) ?_
        refine r_iasN C zw2 (i := (q + 1)) (by omega) zl5_1 (j := 0) (by omega) (by omega) dX8_goes_50 (fun zE3 zH3 zL3 zg3 zf3 zw3 => ?_)
        have zh3_0 : zE3 (q + 1) = eI G 508 (upd g 0 (nI (pg - 1))) := zg3
        have zk3_0 : zE3 q = .inr (5, [.int th, .ref (ad (q + 1)), .long se, .ref (ad (q + 2)), .ref (ad (q + 3)), .int (nI co), .ref (ad (q + 4)), .int (nI pm), .ref (ad (q + 5)), .ref (ad (q + 6)), .ref (ad (q + 7)), .ref (ad (q + 8)), .int (nI em), .ref (ad (q + 9)), .ref (ad (q + 10)), .ref (ad (q + 11)), .ref (ad (q + 12))]) := (zf3 _ (by omega)).trans zl5_0
        have zfr3 : ∀ j, j ≠ (q + 1) → zE3 j = E j := fun j zm0 => (zf3 j zm0).trans (zlf5 j zm0)
        refine lv_iconst (v := nI 0) hx hb dX8_goes_51 rfl ?_
        refine lv_istore_n (lv' := [(2, .int (nI 0)), (0, .ref (ad q)), (1, .int (nI page))]) hx hb dX8_goes_52 rfl hl (by decide) rfl (fun ls hl => ?_)
        have zlp53 : ∀ (zn : Nat) (b : Nat) (h : Nat → Int32), 4 - b < zn → (b ≤ 4) → (h = shP (upd (shF s (8 + 50 * page) (8 + 50 * (pg - 1))) 0 (nI (pg - 1))) page b) → ∀ (E9 : Nat → va_E) (H9 : Heap) (L9 : List Loc), E9 q = .inr (5, [.int th, .ref (ad (q + 1)), .long se, .ref (ad (q + 2)), .ref (ad (q + 3)), .int (nI co), .ref (ad (q + 4)), .int (nI pm), .ref (ad (q + 5)), .ref (ad (q + 6)), .ref (ad (q + 7)), .ref (ad (q + 8)), .int (nI em), .ref (ad (q + 9)), .ref (ad (q + 10)), .ref (ad (q + 11)), .ref (ad (q + 12))]) → E9 (q + 1) = eI G 508 h → (∀ j, j ≠ (q + 1) → E9 j = E j) → Wd G A ss_.heap H9 L9 ad E9 N → ∀ (ls : Array Slot), lv_has ls 4 [(0, .ref (ad q)), (1, .int (nI page)), (2, .int (nI b))] → W pp_ l ee_ ({ frames := 1, cells := 0, slots := 0, locals := 20 } : Room) ss_ mm_ aa_ bb_ me_ cc_ H9 L9 0 0 (QV bb_ aa_ ss_ G ad N A (fun E2 => E2 (q + 1) = eI G 508 (goesF s pg page) ∧ (∀ j, j ≠ (q + 1) → E2 j = E j))) (F0 mm_ 53 ls []) := by
          intro zn
          induction zn with
          | zero => intro b h zhm; exact absurd zhm (Nat.not_lt_zero _)
          | succ zn zih53 =>
            intro b h zhm53 hb4 hh zE_53 zH_53 zL_53 zl53_0 zl53_1 zlf53 zlw53 ls hl
            refine lv_iload_n hx hb dX8_goes_53 rfl (lv_at hl 2 rfl) ?_
            refine lv_iconst (v := nI 4) hx hb dX8_goes_54 rfl ?_
            refine n_icmp_ge (tgt := 102) hx hb dX8_goes_55 (by decide) (by omega) (by omega) (fun zc55 => ?_) (fun zc55 => ?_)
            · exact r_vret C zlw53 dX8_goes_102 ⟨(zl53_1.trans (by rw [hh, show b = 4 by omega]; rfl)), (fun j zm0 => zlf53 j zm0)⟩
            · refine lv_aload_n hx hb dX8_goes_58 rfl (lv_at hl 0 rfl) ?_
              refine r_get C zlw53 RX8 TX8 17 5 hinX8 (i := q) (by omega) zl53_0 rfl 1 (by decide) (by decide +kernel) rfl (v := .ref (ad (q + 1))) rfl dX8_goes_59 ?_
              refine lv_iconst (v := nI 4) hx hb dX8_goes_62 rfl ?_
              refine lv_iload_n hx hb dX8_goes_63 rfl (lv_at hl 2 rfl) ?_
              refine lv_iadd hx hb dX8_goes_64 ?_
              refine r_nat (4 + b) (nI_add _ _) ?_
              refine r_iaN C zlw53 (i := (q + 1)) (by omega) zl53_1 (j := 4 + b) (by omega) (by omega) dX8_goes_65 ?_
              refine lv_istore_n (lv' := [(3, .int (h (4 + b))), (0, .ref (ad q)), (1, .int (nI page)), (2, .int (nI b))]) hx hb dX8_goes_66 rfl hl (by decide) rfl (fun ls hl => ?_)
              refine lv_aload_n hx hb dX8_goes_67 rfl (lv_at hl 1 rfl) ?_
              refine r_get C zlw53 RX8 TX8 17 5 hinX8 (i := q) (by omega) zl53_0 rfl 1 (by decide) (by decide +kernel) rfl (v := .ref (ad (q + 1))) rfl dX8_goes_68 ?_
              refine lv_iconst (v := nI 4) hx hb dX8_goes_71 rfl ?_
              refine lv_iload_n hx hb dX8_goes_72 rfl (lv_at hl 3 rfl) ?_
              refine lv_iadd hx hb dX8_goes_73 ?_
              refine r_nat (4 + b) (nI_add _ _) ?_
              refine lv_iload_n hx hb dX8_goes_74 rfl (lv_at hl 0 rfl) ?_
              refine lv_iload_n hx hb dX8_goes_75 rfl (lv_at hl 2 rfl) ?_
              refine lv_icmp_ne (tgt := 83) hx hb dX8_goes_76 (by decide) (fun zc76 => ?_) (fun zc76 => ?_)
              · refine lv_iload_n hx hb dX8_goes_83 rfl (lv_at hl 0 rfl) ?_
                refine lv_iload_n hx hb dX8_goes_84 rfl (lv_at hl 2 rfl) ?_
                refine lv_icmp_le (tgt := 94) hx hb dX8_goes_85 (by decide) (fun zc85 => ?_) (fun zc85 => ?_)
                · refine lv_iload_n hx hb dX8_goes_94 rfl (lv_at hl 0 rfl) ?_
                  refine r_iasN C zlw53 (i := (q + 1)) (by omega) zl53_1 (j := 4 + b) (by omega) (by omega) dX8_goes_95 (fun zE4 zH4 zL4 zg4 zf4 zw4 => ?_)
                  have zh4_0 : zE4 (q + 1) = eI G 508 (upd h (4 + b) (h (4 + b))) := zg4
                  have zk4_0 : zE4 q = .inr (5, [.int th, .ref (ad (q + 1)), .long se, .ref (ad (q + 2)), .ref (ad (q + 3)), .int (nI co), .ref (ad (q + 4)), .int (nI pm), .ref (ad (q + 5)), .ref (ad (q + 6)), .ref (ad (q + 7)), .ref (ad (q + 8)), .int (nI em), .ref (ad (q + 9)), .ref (ad (q + 10)), .ref (ad (q + 11)), .ref (ad (q + 12))]) := (zf4 _ (by omega)).trans zl53_0
                  have zfr4 : ∀ j, j ≠ (q + 1) → zE4 j = E j := fun j zm0 => (zf4 j zm0).trans (zlf53 j zm0)
                  refine lv_iinc (v := nI (b + 1)) (lv' := [(2, .int (nI (b + 1))), (3, .int (h (4 + b))), (0, .ref (ad q)), (1, .int (nI page))]) hx hb dX8_goes_96 hl (k := 3) rfl (by rw [show Int32.ofInt 1 = nI 1 from rfl, nI_add]) (by decide) rfl (fun ls hl => ?_)
                  refine lv_goto (tgt := 53) hx hb dX8_goes_99 (by decide) ?_
                  exact zih53 (b + 1) (upd h (4 + b) (h (4 + b))) (by omega) (by omega) (by rw [hh]; exact shP_s _ _ _ (by simp only [shO, hh, shP_g]; rw [hh, shP_g] at zc76; first | rw [if_pos zc76] | (rw [if_neg zc76, if_pos (by rw [hh, shP_g] at zc85; exact Int32.not_le.mp zc85)]; rfl) | rw [if_neg zc76, if_neg (by rw [hh, shP_g] at zc85; exact Int32.not_lt.mpr zc85)])) _ _ _ zk4_0 zh4_0 (fun j zm0 => zfr4 j zm0) zw4 _ (lv_sub hl [2, 3, 0] rfl)
                · refine lv_iload_n hx hb dX8_goes_88 rfl (lv_at hl 0 rfl) ?_
                  refine lv_iconst (v := nI 1) hx hb dX8_goes_89 rfl ?_
                  refine lv_isub hx hb dX8_goes_90 ?_
                  refine lv_goto (tgt := 95) hx hb dX8_goes_91 (by decide) ?_
                  refine r_iasN C zlw53 (i := (q + 1)) (by omega) zl53_1 (j := 4 + b) (by omega) (by omega) dX8_goes_95 (fun zE5 zH5 zL5 zg5 zf5 zw5 => ?_)
                  have zh5_0 : zE5 (q + 1) = eI G 508 (upd h (4 + b) ((h (4 + b)) - (nI 1))) := zg5
                  have zk5_0 : zE5 q = .inr (5, [.int th, .ref (ad (q + 1)), .long se, .ref (ad (q + 2)), .ref (ad (q + 3)), .int (nI co), .ref (ad (q + 4)), .int (nI pm), .ref (ad (q + 5)), .ref (ad (q + 6)), .ref (ad (q + 7)), .ref (ad (q + 8)), .int (nI em), .ref (ad (q + 9)), .ref (ad (q + 10)), .ref (ad (q + 11)), .ref (ad (q + 12))]) := (zf5 _ (by omega)).trans zl53_0
                  have zfr5 : ∀ j, j ≠ (q + 1) → zE5 j = E j := fun j zm0 => (zf5 j zm0).trans (zlf53 j zm0)
                  refine lv_iinc (v := nI (b + 1)) (lv' := [(2, .int (nI (b + 1))), (3, .int (h (4 + b))), (0, .ref (ad q)), (1, .int (nI page))]) hx hb dX8_goes_96 hl (k := 3) rfl (by rw [show Int32.ofInt 1 = nI 1 from rfl, nI_add]) (by decide) rfl (fun ls hl => ?_)
                  refine lv_goto (tgt := 53) hx hb dX8_goes_99 (by decide) ?_
                  exact zih53 (b + 1) (upd h (4 + b) ((h (4 + b)) - (nI 1))) (by omega) (by omega) (by rw [hh]; exact shP_s _ _ _ (by simp only [shO, hh, shP_g]; rw [hh, shP_g] at zc76; first | rw [if_pos zc76] | (rw [if_neg zc76, if_pos (by rw [hh, shP_g] at zc85; exact Int32.not_le.mp zc85)]; rfl) | rw [if_neg zc76, if_neg (by rw [hh, shP_g] at zc85; exact Int32.not_lt.mpr zc85)])) _ _ _ zk5_0 zh5_0 (fun j zm0 => zfr5 j zm0) zw5 _ (lv_sub hl [2, 3, 0] rfl)
              · refine lv_iconst (v := -1) hx hb dX8_goes_79 (by decide) ?_
                refine lv_goto (tgt := 95) hx hb dX8_goes_80 (by decide) ?_
                refine r_iasN C zlw53 (i := (q + 1)) (by omega) zl53_1 (j := 4 + b) (by omega) (by omega) dX8_goes_95 (fun zE6 zH6 zL6 zg6 zf6 zw6 => ?_)
                have zh6_0 : zE6 (q + 1) = eI G 508 (upd h (4 + b) (-1)) := zg6
                have zk6_0 : zE6 q = .inr (5, [.int th, .ref (ad (q + 1)), .long se, .ref (ad (q + 2)), .ref (ad (q + 3)), .int (nI co), .ref (ad (q + 4)), .int (nI pm), .ref (ad (q + 5)), .ref (ad (q + 6)), .ref (ad (q + 7)), .ref (ad (q + 8)), .int (nI em), .ref (ad (q + 9)), .ref (ad (q + 10)), .ref (ad (q + 11)), .ref (ad (q + 12))]) := (zf6 _ (by omega)).trans zl53_0
                have zfr6 : ∀ j, j ≠ (q + 1) → zE6 j = E j := fun j zm0 => (zf6 j zm0).trans (zlf53 j zm0)
                refine lv_iinc (v := nI (b + 1)) (lv' := [(2, .int (nI (b + 1))), (3, .int (h (4 + b))), (0, .ref (ad q)), (1, .int (nI page))]) hx hb dX8_goes_96 hl (k := 3) rfl (by rw [show Int32.ofInt 1 = nI 1 from rfl, nI_add]) (by decide) rfl (fun ls hl => ?_)
                refine lv_goto (tgt := 53) hx hb dX8_goes_99 (by decide) ?_
                exact zih53 (b + 1) (upd h (4 + b) (-1)) (by omega) (by omega) (by rw [hh]; exact shP_s _ _ _ (by simp only [shO, hh, shP_g]; rw [hh, shP_g] at zc76; first | rw [if_pos zc76] | (rw [if_neg zc76, if_pos (by rw [hh, shP_g] at zc85; exact Int32.not_le.mp zc85)]; rfl) | rw [if_neg zc76, if_neg (by rw [hh, shP_g] at zc85; exact Int32.not_lt.mpr zc85)])) _ _ _ zk6_0 zh6_0 (fun j zm0 => zfr6 j zm0) zw6 _ (lv_sub hl [2, 3, 0] rfl)
        exact zlp53 _ 0 (upd g 0 (nI (pg - 1))) (Nat.lt_succ_self _) (by omega) (by rw [shP_0, hg, show i = 8 + 50 * (pg - 1) by omega]) _ _ _ zk3_0 zh3_0 (fun j zm0 => zfr3 j zm0) zw3 _ (lv_sub hl [1, 2, 0] rfl)
      · refine lv_aload_n hx hb dX8_goes_20 rfl (lv_at hl 0 rfl) ?_
        refine r_get C zw2 RX8 TX8 17 5 hinX8 (i := q) (by omega) zl5_0 rfl 1 (by decide) (by decide +kernel) rfl (v := .ref (ad (q + 1))) rfl dX8_goes_21 ?_
        refine lv_iload_n hx hb dX8_goes_24 rfl (lv_at hl 2 rfl) ?_
        refine lv_aload_n hx hb dX8_goes_25 rfl (lv_at hl 0 rfl) ?_
        refine r_get C zw2 RX8 TX8 17 5 hinX8 (i := q) (by omega) zl5_0 rfl 1 (by decide) (by decide +kernel) rfl (v := .ref (ad (q + 1))) rfl dX8_goes_26 ?_
        refine lv_iload_n hx hb dX8_goes_29 rfl (lv_at hl 2 rfl) ?_
        refine lv_bipush (v := nI 50) hx hb dX8_goes_30 rfl ?_
        refine lv_iadd hx hb dX8_goes_32 ?_
        refine r_nat (i + 50) (nI_add _ _) ?_
        refine r_iaN C zw2 (i := (q + 1)) (by omega) zl5_1 (j := i + 50) (by omega) (by omega) dX8_goes_33 ?_
        refine r_iasN C zw2 (i := (q + 1)) (by omega) zl5_1 (j := i) (by omega) (by omega) dX8_goes_34 (fun zE7 zH7 zL7 zg7 zf7 zw7 => ?_)
        have zh7_0 : zE7 (q + 1) = eI G 508 (upd g i (g (i + 50))) := zg7
        have zk7_0 : zE7 q = .inr (5, [.int th, .ref (ad (q + 1)), .long se, .ref (ad (q + 2)), .ref (ad (q + 3)), .int (nI co), .ref (ad (q + 4)), .int (nI pm), .ref (ad (q + 5)), .ref (ad (q + 6)), .ref (ad (q + 7)), .ref (ad (q + 8)), .int (nI em), .ref (ad (q + 9)), .ref (ad (q + 10)), .ref (ad (q + 11)), .ref (ad (q + 12))]) := (zf7 _ (by omega)).trans zl5_0
        have zfr7 : ∀ j, j ≠ (q + 1) → zE7 j = E j := fun j zm0 => (zf7 j zm0).trans (zlf5 j zm0)
        refine lv_iinc (v := nI (i + 1)) (lv' := [(2, .int (nI (i + 1))), (0, .ref (ad q)), (1, .int (nI page))]) hx hb dX8_goes_35 hl (k := 2) rfl (by rw [show Int32.ofInt 1 = nI 1 from rfl, nI_add]) (by decide) rfl (fun ls hl => ?_)
        refine lv_goto (tgt := 5) hx hb dX8_goes_38 (by decide) ?_
        exact zih5 (i + 1) (upd g i (g (i + 50))) (by omega) (by omega) (by omega) (by rw [hg]; exact shF_s s hi1) _ _ _ zk7_0 zh7_0 (fun j zm0 => zfr7 j zm0) zw7 _ (lv_sub hl [1, 2, 0] rfl)
  exact zlp5 _ (8 + 50 * page) s (Nat.lt_succ_self _) (by omega) (by omega) (by exact (shF_0 _ _).symm) _ _ _ hE0 hE1 (fun j _ => rfl) zw1 _ (lv_sub hl [1, 2, 0] rfl)

set_option maxHeartbeats 4000000 in
set_option maxRecDepth 100000 in
theorem c_X8_oldest {l : Launch} {G : vG} {tC : Nat} {ad : Nat → Nat} {N : Nat} {E : Nat → va_E} {q co pm em : Nat} {th : Int32} {se : Int64} {pg : Nat} {s : Nat → Int32} (hN0 : q + 13 ≤ N) (hE0 : E q = .inr (5, [.int th, .ref (ad (q + 1)), .long se, .ref (ad (q + 2)), .ref (ad (q + 3)), .int (nI co), .ref (ad (q + 4)), .int (nI pm), .ref (ad (q + 5)), .ref (ad (q + 6)), .ref (ad (q + 7)), .ref (ad (q + 8)), .int (nI em), .ref (ad (q + 9)), .ref (ad (q + 10)), .ref (ad (q + 11)), .ref (ad (q + 12))])) (hE1 : E (q + 1) = eI G 508 s) (hs0 : s 0 = nI pg) (hpg : pg ≤ 10) (hp1 : 1 ≤ pg) : MI l yX8_oldest wsX8_oldest ({ frames := 2, cells := 0, slots := 0, locals := 42 } : Room) G tC ad N E [.ref (ad q)] (fun r E2 => E2 = E ∧ r = nI (oldS (latF s) (pg - 1))) := by
  refine MI_of RX8 rfl (by decide) rfl (Nat.le_of_ble_eq_true rfl) ?_
  intro pp_ ee_ ss_ mm_ aa_ bb_ me_ cc_ A ls C hw hl
  have hx := C.1
  have hb := C.2.1
  have hown := C.2.2.2.2.1
  have hts := C.2.2.2.2.2.1
  have hl : lv_has ls 3 [(0, .ref (ad q))] := hl
  have hinX8 : ∀ w ∈ u_ws RX8 TX8 17, w ∈ wsX8_oldest := by decide +kernel
  refine lv_iconst (v := nI 0) hx hb dX8_oldest_0 rfl ?_
  refine lv_istore_n (lv' := [(1, .int (nI 0)), (0, .ref (ad q))]) hx hb dX8_oldest_1 rfl hl (by decide) rfl (fun ls hl => ?_)
  refine lv_iconst (v := nI 1) hx hb dX8_oldest_2 rfl ?_
  refine lv_istore_n (lv' := [(2, .int (nI 1)), (1, .int (nI 0)), (0, .ref (ad q))]) hx hb dX8_oldest_3 rfl hl (by decide) rfl (fun ls hl => ?_)
  have zlp4 : ∀ (zn : Nat) (k w : Nat), pg - k < zn → (1 ≤ k) → (k ≤ pg) → (w = oldS (latF s) (k - 1)) → (w < k) → ∀ (H9 : Heap) (L9 : List Loc), Wd G A ss_.heap H9 L9 ad E N → ∀ (ls : Array Slot), lv_has ls 3 [(0, .ref (ad q)), (1, .int (nI w)), (2, .int (nI k))] → W pp_ l ee_ ({ frames := 2, cells := 0, slots := 0, locals := 42 } : Room) ss_ mm_ aa_ bb_ me_ cc_ H9 L9 0 0 (QI bb_ aa_ ss_ G ad N A (fun r E2 => E2 = E ∧ r = nI (oldS (latF s) (pg - 1)))) (F0 mm_ 4 ls []) := by
    intro zn
    induction zn with
    | zero => intro k w zhm; exact absurd zhm (Nat.not_lt_zero _)
    | succ zn zih4 =>
      intro k w zhm4 hk1 hk2 hw hwl zH_4 zL_4 zlw4 ls hl
      refine lv_iload_n hx hb dX8_oldest_4 rfl (lv_at hl 2 rfl) ?_
      refine lv_aload_n hx hb dX8_oldest_5 rfl (lv_at hl 0 rfl) ?_
      refine r_get C zlw4 RX8 TX8 17 5 hinX8 (i := q) (by omega) hE0 rfl 1 (by decide) (by decide +kernel) rfl (v := .ref (ad (q + 1))) rfl dX8_oldest_6 ?_
      refine lv_iconst (v := nI 0) hx hb dX8_oldest_9 rfl ?_
      have hw9 := hw
      refine r_iaN C zlw4 (i := (q + 1)) (by omega) hE1 (j := 0) (by omega) (by omega) dX8_oldest_10 ?_
      refine r_nat pg hs0 ?_
      refine n_icmp_ge (tgt := 41) hx hb dX8_oldest_11 (by decide) (by omega) (by omega) (fun zc11 => ?_) (fun zc11 => ?_)
      · refine lv_iload_n hx hb dX8_oldest_41 rfl (lv_at hl 1 rfl) ?_
        exact r_iret C zlw4 dX8_oldest_42 ⟨rfl, (by rw [hw, show k = pg by omega])⟩
      · refine lv_aload_n hx hb dX8_oldest_14 rfl (lv_at hl 0 rfl) ?_
        refine lv_iload_n hx hb dX8_oldest_15 rfl (lv_at hl 2 rfl) ?_
        refine lv_iconst (v := nI 5) hx hb dX8_oldest_16 rfl ?_
        refine r_vI C zlw4 hl.1 (i := q) (by omega) hE0 (T := TX8) (n := 17) rfl [.int (nI k), .int (nI 5)] 2 rfl (c_X8_of (l := l) (G := G) (tC := tC) (ad := ad) (N := N) (E := E) (q := q) (co := co) (pm := pm) (em := em) (th := th) (se := se) (s := s) (k := k) (w := 5) (by omega) hE0 hE1 (by first | assumption | omega)) gX8_oldest_X8_of rfl ⟨rfl, rfl⟩ (by decide +kernel) ⟨Nat.le_of_ble_eq_true rfl, Nat.le_of_ble_eq_true rfl⟩ (rest := []) rfl (Nat.le_of_ble_eq_true rfl) dX8_oldest_17 ⟨Nat.zero_le _, Nat.zero_le _⟩ (fun zr1 zE1 zH1 zL1 zp1 zw1 => ?_)
        obtain ⟨ze1, zq1⟩ := zp1
        rw [ze1] at zw1
        clear ze1
        rw [zq1]
        refine lv_aload_n hx hb dX8_oldest_20 rfl (lv_at hl 0 rfl) ?_
        refine lv_iload_n hx hb dX8_oldest_21 rfl (lv_at hl 1 rfl) ?_
        refine lv_iconst (v := nI 5) hx hb dX8_oldest_22 rfl ?_
        refine r_vI C zw1 hl.1 (i := q) (by omega) hE0 (T := TX8) (n := 17) rfl [.int (nI w), .int (nI 5)] 2 rfl (c_X8_of (l := l) (G := G) (tC := tC) (ad := ad) (N := N) (E := E) (q := q) (co := co) (pm := pm) (em := em) (th := th) (se := se) (s := s) (k := w) (w := 5) (by omega) hE0 hE1 (by first | assumption | omega)) gX8_oldest_X8_of rfl ⟨rfl, rfl⟩ (by decide +kernel) ⟨Nat.le_of_ble_eq_true rfl, Nat.le_of_ble_eq_true rfl⟩ (rest := [.int (s (8 + 50 * k + 5))]) rfl (Nat.le_of_ble_eq_true rfl) dX8_oldest_23 ⟨Nat.zero_le _, Nat.zero_le _⟩ (fun zr2 zE2 zH2 zL2 zp2 zw2 => ?_)
        obtain ⟨ze2, zq2⟩ := zp2
        rw [ze2] at zw2
        clear ze2
        rw [zq2]
        refine lv_icmp_ge (tgt := 33) hx hb dX8_oldest_26 (by decide) (fun zc26 => ?_) (fun zc26 => ?_)
        · refine lv_iload_n hx hb dX8_oldest_33 rfl (lv_at hl 1 rfl) ?_
          refine lv_istore_n (lv' := [(1, .int (nI w)), (0, .ref (ad q)), (2, .int (nI k))]) hx hb dX8_oldest_34 rfl hl (by decide) rfl (fun ls hl => ?_)
          refine lv_iinc (v := nI (k + 1)) (lv' := [(2, .int (nI (k + 1))), (1, .int (nI w)), (0, .ref (ad q))]) hx hb dX8_oldest_35 hl (k := 2) rfl (by rw [show Int32.ofInt 1 = nI 1 from rfl, nI_add]) (by decide) rfl (fun ls hl => ?_)
          refine lv_goto (tgt := 4) hx hb dX8_oldest_38 (by decide) ?_
          exact zih4 (k + 1) w (by omega) (by omega) (by omega) (by rw [show k + 1 - 1 = (k - 1) + 1 by omega, oldS, show k - 1 + 1 = k by omega, ← hw9]; first | exact (if_pos (Int32.not_le.mp zc26)).symm | exact (if_neg (Int32.not_lt.mpr zc26)).symm) (by omega) _ _ zw2 _ (lv_sub hl [2, 1, 0] rfl)
        · refine lv_iload_n hx hb dX8_oldest_29 rfl (lv_at hl 2 rfl) ?_
          refine lv_goto (tgt := 34) hx hb dX8_oldest_30 (by decide) ?_
          refine lv_istore_n (lv' := [(1, .int (nI k)), (0, .ref (ad q)), (2, .int (nI k))]) hx hb dX8_oldest_34 rfl hl (by decide) rfl (fun ls hl => ?_)
          refine lv_iinc (v := nI (k + 1)) (lv' := [(2, .int (nI (k + 1))), (1, .int (nI k)), (0, .ref (ad q))]) hx hb dX8_oldest_35 hl (k := 2) rfl (by rw [show Int32.ofInt 1 = nI 1 from rfl, nI_add]) (by decide) rfl (fun ls hl => ?_)
          refine lv_goto (tgt := 4) hx hb dX8_oldest_38 (by decide) ?_
          exact zih4 (k + 1) k (by omega) (by omega) (by omega) (by rw [show k + 1 - 1 = (k - 1) + 1 by omega, oldS, show k - 1 + 1 = k by omega, ← hw9]; first | exact (if_pos (Int32.not_le.mp zc26)).symm | exact (if_neg (Int32.not_lt.mpr zc26)).symm) (by omega) _ _ zw2 _ (lv_sub hl [2, 1, 0] rfl)
  exact zlp4 _ 1 0 (Nat.lt_succ_self _) (by omega) (by omega) (by rfl) (by omega) _ _ hw _ (lv_sub hl [2, 1, 0] rfl)

set_option maxHeartbeats 4000000 in
set_option maxRecDepth 100000 in
theorem c_X8_empties {l : Launch} {G : vG} {tC : Nat} {ad : Nat → Nat} {N : Nat} {E : Nat → va_E} {q co pm em : Nat} {th : Int32} {se : Int64} {s : Nat → Int32} {k : Nat} (hN0 : q + 13 ≤ N) (hE0 : E q = .inr (5, [.int th, .ref (ad (q + 1)), .long se, .ref (ad (q + 2)), .ref (ad (q + 3)), .int (nI co), .ref (ad (q + 4)), .int (nI pm), .ref (ad (q + 5)), .ref (ad (q + 6)), .ref (ad (q + 7)), .ref (ad (q + 8)), .int (nI em), .ref (ad (q + 9)), .ref (ad (q + 10)), .ref (ad (q + 11)), .ref (ad (q + 12))])) (hE1 : E (q + 1) = eI G 508 s) (hk : k < 10) : MV l yX8_empties wsX8_empties ({ frames := 1, cells := 0, slots := 0, locals := 20 } : Room) G tC ad N E [.ref (ad q), .int (nI k)] (fun E2 => E2 (q + 1) = eI G 508 (empF s k) ∧ (∀ j, j ≠ (q + 1) → E2 j = E j)) := by
  refine MV_of RX8 rfl (by decide) rfl (Nat.le_of_ble_eq_true rfl) ?_
  intro pp_ ee_ ss_ mm_ aa_ bb_ me_ cc_ A ls C hw hl
  have hx := C.1
  have hb := C.2.1
  have hown := C.2.2.2.2.1
  have hts := C.2.2.2.2.2.1
  have hl : lv_has ls 3 [(0, .ref (ad q)), (1, .int (nI k))] := hl
  have hinX8 : ∀ w ∈ u_ws RX8 TX8 17, w ∈ wsX8_empties := by decide +kernel
  refine lv_bipush (v := nI 6) hx hb dX8_empties_0 rfl ?_
  refine lv_istore_n (lv' := [(2, .int (nI 6)), (0, .ref (ad q)), (1, .int (nI k))]) hx hb dX8_empties_2 rfl hl (by decide) rfl (fun ls hl => ?_)
  have zlp3 : ∀ (zn : Nat) (j : Nat) (g : Nat → Int32), 50 - j < zn → (6 ≤ j) → (j ≤ 50) → (g = fillF s (8 + 50 * k + 6) (8 + 50 * k + j) (-1)) → ∀ (E9 : Nat → va_E) (H9 : Heap) (L9 : List Loc), E9 q = .inr (5, [.int th, .ref (ad (q + 1)), .long se, .ref (ad (q + 2)), .ref (ad (q + 3)), .int (nI co), .ref (ad (q + 4)), .int (nI pm), .ref (ad (q + 5)), .ref (ad (q + 6)), .ref (ad (q + 7)), .ref (ad (q + 8)), .int (nI em), .ref (ad (q + 9)), .ref (ad (q + 10)), .ref (ad (q + 11)), .ref (ad (q + 12))]) → E9 (q + 1) = eI G 508 g → (∀ j, j ≠ (q + 1) → E9 j = E j) → Wd G A ss_.heap H9 L9 ad E9 N → ∀ (ls : Array Slot), lv_has ls 3 [(0, .ref (ad q)), (1, .int (nI k)), (2, .int (nI j))] → W pp_ l ee_ ({ frames := 1, cells := 0, slots := 0, locals := 20 } : Room) ss_ mm_ aa_ bb_ me_ cc_ H9 L9 0 0 (QV bb_ aa_ ss_ G ad N A (fun E2 => E2 (q + 1) = eI G 508 (empF s k) ∧ (∀ j, j ≠ (q + 1) → E2 j = E j))) (F0 mm_ 3 ls []) := by
    intro zn
    induction zn with
    | zero => intro j g zhm; exact absurd zhm (Nat.not_lt_zero _)
    | succ zn zih3 =>
      intro j g zhm3 hj1 hj2 hg zE_3 zH_3 zL_3 zl3_0 zl3_1 zlf3 zlw3 ls hl
      refine lv_iload_n hx hb dX8_empties_3 rfl (lv_at hl 2 rfl) ?_
      refine lv_bipush (v := nI 50) hx hb dX8_empties_4 rfl ?_
      refine n_icmp_ge (tgt := 27) hx hb dX8_empties_6 (by decide) (by omega) (by omega) (fun zc6 => ?_) (fun zc6 => ?_)
      · exact r_vret C zlw3 dX8_empties_27 ⟨(zl3_1.trans (by rw [hg, show j = 50 by omega]; rfl)), (fun j zm0 => zlf3 j zm0)⟩
      · refine lv_aload_n hx hb dX8_empties_9 rfl (lv_at hl 0 rfl) ?_
        refine r_get C zlw3 RX8 TX8 17 5 hinX8 (i := q) (by omega) zl3_0 rfl 1 (by decide) (by decide +kernel) rfl (v := .ref (ad (q + 1))) rfl dX8_empties_10 ?_
        refine lv_iload_n hx hb dX8_empties_13 rfl (lv_at hl 1 rfl) ?_
        refine r_sI C zlw3 hl.1 [.int (nI k)] 1 rfl (c_X8_at (l := l) (G := G) (tC := tC) (ad := ad) (N := N) (E := zE_3) (k := k)   ) gX8_empties_X8_at rfl ⟨rfl, rfl⟩ (by decide +kernel) ⟨Nat.le_of_ble_eq_true rfl, Nat.le_of_ble_eq_true rfl⟩ (rest := [.ref (ad (q + 1))]) rfl (Nat.le_of_ble_eq_true rfl) dX8_empties_14 ⟨Nat.zero_le _, Nat.zero_le _⟩ (fun zr1 zE1 zH1 zL1 zp1 zw1 => ?_)
        obtain ⟨ze1, zq1⟩ := zp1
        rw [ze1] at zw1
        clear ze1
        rw [zq1]
        refine lv_iload_n hx hb dX8_empties_17 rfl (lv_at hl 2 rfl) ?_
        refine lv_iadd hx hb dX8_empties_18 ?_
        refine r_nat (8 + 50 * k + j) (nI_add _ _) ?_
        refine lv_iconst (v := -1) hx hb dX8_empties_19 (by decide) ?_
        refine r_iasN C zw1 (i := (q + 1)) (by omega) zl3_1 (j := 8 + 50 * k + j) (by omega) (by omega) dX8_empties_20 (fun zE2 zH2 zL2 zg2 zf2 zw2 => ?_)
        have zh2_0 : zE2 (q + 1) = eI G 508 (upd g (8 + 50 * k + j) (-1)) := zg2
        have zk2_0 : zE2 q = .inr (5, [.int th, .ref (ad (q + 1)), .long se, .ref (ad (q + 2)), .ref (ad (q + 3)), .int (nI co), .ref (ad (q + 4)), .int (nI pm), .ref (ad (q + 5)), .ref (ad (q + 6)), .ref (ad (q + 7)), .ref (ad (q + 8)), .int (nI em), .ref (ad (q + 9)), .ref (ad (q + 10)), .ref (ad (q + 11)), .ref (ad (q + 12))]) := (zf2 _ (by omega)).trans zl3_0
        have zfr2 : ∀ j, j ≠ (q + 1) → zE2 j = E j := fun j zm0 => (zf2 j zm0).trans (zlf3 j zm0)
        refine lv_iinc (v := nI (j + 1)) (lv' := [(2, .int (nI (j + 1))), (0, .ref (ad q)), (1, .int (nI k))]) hx hb dX8_empties_21 hl (k := 2) rfl (by rw [show Int32.ofInt 1 = nI 1 from rfl, nI_add]) (by decide) rfl (fun ls hl => ?_)
        refine lv_goto (tgt := 3) hx hb dX8_empties_24 (by decide) ?_
        exact zih3 (j + 1) (upd g (8 + 50 * k + j) (-1)) (by omega) (by omega) (by omega) (by rw [hg]; exact fillF_s _ _ (by omega)) _ _ _ zk2_0 zh2_0 (fun j zm0 => zfr2 j zm0) zw2 _ (lv_sub hl [1, 2, 0] rfl)
  exact zlp3 _ 6 s (Nat.lt_succ_self _) (by omega) (by omega) (by exact (fillF_0 _ _ _).symm) _ _ _ hE0 hE1 (fun j _ => rfl) hw _ (lv_sub hl [1, 2, 0] rfl)

set_option maxHeartbeats 4000000 in
set_option maxRecDepth 100000 in
theorem c_X8_newPage {l : Launch} {G : vG} {tC : Nat} {ad : Nat → Nat} {N : Nat} {E : Nat → va_E} {q co pm em : Nat} {th : Int32} {se : Int64} {pg : Nat} {s : Nat → Int32} {b n p9 : Int32} (hN0 : q + 13 ≤ N) (hE0 : E q = .inr (5, [.int th, .ref (ad (q + 1)), .long se, .ref (ad (q + 2)), .ref (ad (q + 3)), .int (nI co), .ref (ad (q + 4)), .int (nI pm), .ref (ad (q + 5)), .ref (ad (q + 6)), .ref (ad (q + 7)), .ref (ad (q + 8)), .int (nI em), .ref (ad (q + 9)), .ref (ad (q + 10)), .ref (ad (q + 11)), .ref (ad (q + 12))])) (hE1 : E (q + 1) = eI G 508 s) (hs0 : s 0 = nI pg) (hpg : pg ≤ 10) : MI l yX8_newPage wsX8_newPage ({ frames := 3, cells := 0, slots := 0, locals := 64 } : Room) G tC ad N E [.ref (ad q), .int b, .int n, .int p9] (fun r E2 => E2 (q + 1) = eI G 508 (newF s pg b n p9) ∧ (∀ j, j ≠ (q + 1) → E2 j = E j) ∧ r = nI (newK pg)) := by
  refine MI_of RX8 rfl (by decide) rfl (Nat.le_of_ble_eq_true rfl) ?_
  intro pp_ ee_ ss_ mm_ aa_ bb_ me_ cc_ A ls C hw hl
  have hx := C.1
  have hb := C.2.1
  have hown := C.2.2.2.2.1
  have hts := C.2.2.2.2.2.1
  have hl : lv_has ls 5 [(0, .ref (ad q)), (1, .int b), (2, .int n), (3, .int p9)] := hl
  have hinX8 : ∀ w ∈ u_ws RX8 TX8 17, w ∈ wsX8_newPage := by decide +kernel
  refine lv_aload_n hx hb dX8_newPage_0 rfl (lv_at hl 0 rfl) ?_
  refine r_get C hw RX8 TX8 17 5 hinX8 (i := q) (by omega) hE0 rfl 1 (by decide) (by decide +kernel) rfl (v := .ref (ad (q + 1))) rfl dX8_newPage_1 ?_
  refine lv_iconst (v := nI 0) hx hb dX8_newPage_4 rfl ?_
  refine r_iaN C hw (i := (q + 1)) (by omega) hE1 (j := 0) (by omega) (by omega) dX8_newPage_5 ?_
  refine r_nat pg hs0 ?_
  refine lv_bipush (v := nI 10) hx hb dX8_newPage_6 rfl ?_
  refine n_icmp_ne (tgt := 19) hx hb dX8_newPage_8 (by decide) (by omega) (by omega) (fun zc8 => ?_) (fun zc8 => ?_)
  · refine lv_aload_n hx hb dX8_newPage_19 rfl (lv_at hl 0 rfl) ?_
    refine r_get C hw RX8 TX8 17 5 hinX8 (i := q) (by omega) hE0 rfl 1 (by decide) (by decide +kernel) rfl (v := .ref (ad (q + 1))) rfl dX8_newPage_20 ?_
    refine lv_iconst (v := nI 0) hx hb dX8_newPage_23 rfl ?_
    refine r_iaN C hw (i := (q + 1)) (by omega) hE1 (j := 0) (by omega) (by omega) dX8_newPage_24 ?_
    refine r_nat pg hs0 ?_
    refine lv_istore (lv' := [(4, .int (nI pg)), (0, .ref (ad q)), (1, .int b), (2, .int n), (3, .int p9)]) hx hb dX8_newPage_25 hl (by decide) rfl (fun ls hl => ?_)
    refine lv_aload_n hx hb dX8_newPage_27 rfl (lv_at hl 1 rfl) ?_
    refine r_get C hw RX8 TX8 17 5 hinX8 (i := q) (by omega) hE0 rfl 1 (by decide) (by decide +kernel) rfl (v := .ref (ad (q + 1))) rfl dX8_newPage_28 ?_
    refine lv_iconst (v := nI 0) hx hb dX8_newPage_31 rfl ?_
    refine lv_dup2_11 hx hb dX8_newPage_32 rfl rfl ?_
    refine r_iaN C hw (i := (q + 1)) (by omega) hE1 (j := 0) (by omega) (by omega) dX8_newPage_33 ?_
    refine r_nat pg hs0 ?_
    refine lv_iconst (v := nI 1) hx hb dX8_newPage_34 rfl ?_
    refine lv_iadd hx hb dX8_newPage_35 ?_
    refine r_nat (pg + 1) (nI_add _ _) ?_
    refine r_iasN C hw (i := (q + 1)) (by omega) hE1 (j := 0) (by omega) (by omega) dX8_newPage_36 (fun zE1 zH1 zL1 zg1 zf1 zw1 => ?_)
    have zh1_0 : zE1 (q + 1) = eI G 508 (upd s 0 (nI (pg + 1))) := zg1
    have zk1_0 : zE1 q = .inr (5, [.int th, .ref (ad (q + 1)), .long se, .ref (ad (q + 2)), .ref (ad (q + 3)), .int (nI co), .ref (ad (q + 4)), .int (nI pm), .ref (ad (q + 5)), .ref (ad (q + 6)), .ref (ad (q + 7)), .ref (ad (q + 8)), .int (nI em), .ref (ad (q + 9)), .ref (ad (q + 10)), .ref (ad (q + 11)), .ref (ad (q + 12))]) := (zf1 _ (by omega)).trans hE0
    have zfr1 : ∀ j, j ≠ (q + 1) → zE1 j = E j := fun j zm0 => zf1 j zm0
    refine lv_aload_n hx hb dX8_newPage_37 rfl (lv_at hl 1 rfl) ?_
    refine r_get C zw1 RX8 TX8 17 5 hinX8 (i := q) (by omega) zk1_0 rfl 1 (by decide) (by decide +kernel) rfl (v := .ref (ad (q + 1))) rfl dX8_newPage_38 ?_
    refine lv_iload hx hb dX8_newPage_41 (lv_at hl 0 rfl) ?_
    refine r_sI C zw1 hl.1 [.int (nI pg)] 1 rfl (c_X8_at (l := l) (G := G) (tC := tC) (ad := ad) (N := N) (E := zE1) (k := pg)   ) gX8_newPage_X8_at rfl ⟨rfl, rfl⟩ (by decide +kernel) ⟨Nat.le_of_ble_eq_true rfl, Nat.le_of_ble_eq_true rfl⟩ (rest := [.ref (ad (q + 1))]) rfl (Nat.le_of_ble_eq_true rfl) dX8_newPage_43 ⟨Nat.zero_le _, Nat.zero_le _⟩ (fun zr2 zE2 zH2 zL2 zp2 zw2 => ?_)
    obtain ⟨ze2, zq2⟩ := zp2
    rw [ze2] at zw2
    clear ze2
    rw [zq2]
    refine lv_iconst (v := nI 0) hx hb dX8_newPage_46 rfl ?_
    refine lv_iadd hx hb dX8_newPage_47 ?_
    refine r_nat (8 + 50 * pg + 0) (nI_add _ _) ?_
    refine lv_iload_n hx hb dX8_newPage_48 rfl (lv_at hl 2 rfl) ?_
    refine r_iasN C zw2 (i := (q + 1)) (by omega) zh1_0 (j := 8 + 50 * pg + 0) (by omega) (by omega) dX8_newPage_49 (fun zE3 zH3 zL3 zg3 zf3 zw3 => ?_)
    have zh3_0 : zE3 (q + 1) = eI G 508 (upd (upd s 0 (nI (pg + 1))) (8 + 50 * pg + 0) b) := zg3
    have zk3_0 : zE3 q = .inr (5, [.int th, .ref (ad (q + 1)), .long se, .ref (ad (q + 2)), .ref (ad (q + 3)), .int (nI co), .ref (ad (q + 4)), .int (nI pm), .ref (ad (q + 5)), .ref (ad (q + 6)), .ref (ad (q + 7)), .ref (ad (q + 8)), .int (nI em), .ref (ad (q + 9)), .ref (ad (q + 10)), .ref (ad (q + 11)), .ref (ad (q + 12))]) := (zf3 _ (by omega)).trans zk1_0
    have zfr3 : ∀ j, j ≠ (q + 1) → zE3 j = E j := fun j zm0 => (zf3 j zm0).trans (zfr1 j zm0)
    refine lv_aload_n hx hb dX8_newPage_50 rfl (lv_at hl 1 rfl) ?_
    refine r_get C zw3 RX8 TX8 17 5 hinX8 (i := q) (by omega) zk3_0 rfl 1 (by decide) (by decide +kernel) rfl (v := .ref (ad (q + 1))) rfl dX8_newPage_51 ?_
    refine lv_iload hx hb dX8_newPage_54 (lv_at hl 0 rfl) ?_
    refine r_sI C zw3 hl.1 [.int (nI pg)] 1 rfl (c_X8_at (l := l) (G := G) (tC := tC) (ad := ad) (N := N) (E := zE3) (k := pg)   ) gX8_newPage_X8_at rfl ⟨rfl, rfl⟩ (by decide +kernel) ⟨Nat.le_of_ble_eq_true rfl, Nat.le_of_ble_eq_true rfl⟩ (rest := [.ref (ad (q + 1))]) rfl (Nat.le_of_ble_eq_true rfl) dX8_newPage_56 ⟨Nat.zero_le _, Nat.zero_le _⟩ (fun zr4 zE4 zH4 zL4 zp4 zw4 => ?_)
    obtain ⟨ze4, zq4⟩ := zp4
    rw [ze4] at zw4
    clear ze4
    rw [zq4]
    refine lv_iconst (v := nI 1) hx hb dX8_newPage_59 rfl ?_
    refine lv_iadd hx hb dX8_newPage_60 ?_
    refine r_nat (8 + 50 * pg + 1) (nI_add _ _) ?_
    refine lv_iload_n hx hb dX8_newPage_61 rfl (lv_at hl 3 rfl) ?_
    refine r_iasN C zw4 (i := (q + 1)) (by omega) zh3_0 (j := 8 + 50 * pg + 1) (by omega) (by omega) dX8_newPage_62 (fun zE5 zH5 zL5 zg5 zf5 zw5 => ?_)
    have zh5_0 : zE5 (q + 1) = eI G 508 (upd (upd (upd s 0 (nI (pg + 1))) (8 + 50 * pg + 0) b) (8 + 50 * pg + 1) n) := zg5
    have zk5_0 : zE5 q = .inr (5, [.int th, .ref (ad (q + 1)), .long se, .ref (ad (q + 2)), .ref (ad (q + 3)), .int (nI co), .ref (ad (q + 4)), .int (nI pm), .ref (ad (q + 5)), .ref (ad (q + 6)), .ref (ad (q + 7)), .ref (ad (q + 8)), .int (nI em), .ref (ad (q + 9)), .ref (ad (q + 10)), .ref (ad (q + 11)), .ref (ad (q + 12))]) := (zf5 _ (by omega)).trans zk3_0
    have zfr5 : ∀ j, j ≠ (q + 1) → zE5 j = E j := fun j zm0 => (zf5 j zm0).trans (zfr3 j zm0)
    refine lv_aload_n hx hb dX8_newPage_63 rfl (lv_at hl 1 rfl) ?_
    refine r_get C zw5 RX8 TX8 17 5 hinX8 (i := q) (by omega) zk5_0 rfl 1 (by decide) (by decide +kernel) rfl (v := .ref (ad (q + 1))) rfl dX8_newPage_64 ?_
    refine lv_iload hx hb dX8_newPage_67 (lv_at hl 0 rfl) ?_
    refine r_sI C zw5 hl.1 [.int (nI pg)] 1 rfl (c_X8_at (l := l) (G := G) (tC := tC) (ad := ad) (N := N) (E := zE5) (k := pg)   ) gX8_newPage_X8_at rfl ⟨rfl, rfl⟩ (by decide +kernel) ⟨Nat.le_of_ble_eq_true rfl, Nat.le_of_ble_eq_true rfl⟩ (rest := [.ref (ad (q + 1))]) rfl (Nat.le_of_ble_eq_true rfl) dX8_newPage_69 ⟨Nat.zero_le _, Nat.zero_le _⟩ (fun zr6 zE6 zH6 zL6 zp6 zw6 => ?_)
    obtain ⟨ze6, zq6⟩ := zp6
    rw [ze6] at zw6
    clear ze6
    rw [zq6]
    refine lv_iconst (v := nI 2) hx hb dX8_newPage_72 rfl ?_
    refine lv_iadd hx hb dX8_newPage_73 ?_
    refine r_nat (8 + 50 * pg + 2) (nI_add _ _) ?_
    refine lv_iload_n hx hb dX8_newPage_74 rfl (lv_at hl 4 rfl) ?_
    refine r_iasN C zw6 (i := (q + 1)) (by omega) zh5_0 (j := 8 + 50 * pg + 2) (by omega) (by omega) dX8_newPage_75 (fun zE7 zH7 zL7 zg7 zf7 zw7 => ?_)
    have zh7_0 : zE7 (q + 1) = eI G 508 (upd (upd (upd (upd s 0 (nI (pg + 1))) (8 + 50 * pg + 0) b) (8 + 50 * pg + 1) n) (8 + 50 * pg + 2) p9) := zg7
    have zk7_0 : zE7 q = .inr (5, [.int th, .ref (ad (q + 1)), .long se, .ref (ad (q + 2)), .ref (ad (q + 3)), .int (nI co), .ref (ad (q + 4)), .int (nI pm), .ref (ad (q + 5)), .ref (ad (q + 6)), .ref (ad (q + 7)), .ref (ad (q + 8)), .int (nI em), .ref (ad (q + 9)), .ref (ad (q + 10)), .ref (ad (q + 11)), .ref (ad (q + 12))]) := (zf7 _ (by omega)).trans zk5_0
    have zfr7 : ∀ j, j ≠ (q + 1) → zE7 j = E j := fun j zm0 => (zf7 j zm0).trans (zfr5 j zm0)
    refine lv_aload_n hx hb dX8_newPage_76 rfl (lv_at hl 1 rfl) ?_
    refine r_get C zw7 RX8 TX8 17 5 hinX8 (i := q) (by omega) zk7_0 rfl 1 (by decide) (by decide +kernel) rfl (v := .ref (ad (q + 1))) rfl dX8_newPage_77 ?_
    refine lv_iload hx hb dX8_newPage_80 (lv_at hl 0 rfl) ?_
    refine r_sI C zw7 hl.1 [.int (nI pg)] 1 rfl (c_X8_at (l := l) (G := G) (tC := tC) (ad := ad) (N := N) (E := zE7) (k := pg)   ) gX8_newPage_X8_at rfl ⟨rfl, rfl⟩ (by decide +kernel) ⟨Nat.le_of_ble_eq_true rfl, Nat.le_of_ble_eq_true rfl⟩ (rest := [.ref (ad (q + 1))]) rfl (Nat.le_of_ble_eq_true rfl) dX8_newPage_82 ⟨Nat.zero_le _, Nat.zero_le _⟩ (fun zr8 zE8 zH8 zL8 zp8 zw8 => ?_)
    obtain ⟨ze8, zq8⟩ := zp8
    rw [ze8] at zw8
    clear ze8
    rw [zq8]
    refine lv_iconst (v := nI 3) hx hb dX8_newPage_85 rfl ?_
    refine lv_iadd hx hb dX8_newPage_86 ?_
    refine r_nat (8 + 50 * pg + 3) (nI_add _ _) ?_
    refine lv_iconst (v := nI 0) hx hb dX8_newPage_87 rfl ?_
    refine r_iasN C zw8 (i := (q + 1)) (by omega) zh7_0 (j := 8 + 50 * pg + 3) (by omega) (by omega) dX8_newPage_88 (fun zE9 zH9 zL9 zg9 zf9 zw9 => ?_)
    have zh9_0 : zE9 (q + 1) = eI G 508 (upd (upd (upd (upd (upd s 0 (nI (pg + 1))) (8 + 50 * pg + 0) b) (8 + 50 * pg + 1) n) (8 + 50 * pg + 2) p9) (8 + 50 * pg + 3) (nI 0)) := zg9
    have zk9_0 : zE9 q = .inr (5, [.int th, .ref (ad (q + 1)), .long se, .ref (ad (q + 2)), .ref (ad (q + 3)), .int (nI co), .ref (ad (q + 4)), .int (nI pm), .ref (ad (q + 5)), .ref (ad (q + 6)), .ref (ad (q + 7)), .ref (ad (q + 8)), .int (nI em), .ref (ad (q + 9)), .ref (ad (q + 10)), .ref (ad (q + 11)), .ref (ad (q + 12))]) := (zf9 _ (by omega)).trans zk7_0
    have zfr9 : ∀ j, j ≠ (q + 1) → zE9 j = E j := fun j zm0 => (zf9 j zm0).trans (zfr7 j zm0)
    refine lv_aload_n hx hb dX8_newPage_89 rfl (lv_at hl 1 rfl) ?_
    refine r_get C zw9 RX8 TX8 17 5 hinX8 (i := q) (by omega) zk9_0 rfl 1 (by decide) (by decide +kernel) rfl (v := .ref (ad (q + 1))) rfl dX8_newPage_90 ?_
    refine lv_iload hx hb dX8_newPage_93 (lv_at hl 0 rfl) ?_
    refine r_sI C zw9 hl.1 [.int (nI pg)] 1 rfl (c_X8_at (l := l) (G := G) (tC := tC) (ad := ad) (N := N) (E := zE9) (k := pg)   ) gX8_newPage_X8_at rfl ⟨rfl, rfl⟩ (by decide +kernel) ⟨Nat.le_of_ble_eq_true rfl, Nat.le_of_ble_eq_true rfl⟩ (rest := [.ref (ad (q + 1))]) rfl (Nat.le_of_ble_eq_true rfl) dX8_newPage_95 ⟨Nat.zero_le _, Nat.zero_le _⟩ (fun zr10 zE10 zH10 zL10 zp10 zw10 => ?_)
    obtain ⟨ze10, zq10⟩ := zp10
    rw [ze10] at zw10
    clear ze10
    rw [zq10]
    refine lv_iconst (v := nI 4) hx hb dX8_newPage_98 rfl ?_
    refine lv_iadd hx hb dX8_newPage_99 ?_
    refine r_nat (8 + 50 * pg + 4) (nI_add _ _) ?_
    refine lv_iconst (v := nI 1) hx hb dX8_newPage_100 rfl ?_
    refine r_iasN C zw10 (i := (q + 1)) (by omega) zh9_0 (j := 8 + 50 * pg + 4) (by omega) (by omega) dX8_newPage_101 (fun zE11 zH11 zL11 zg11 zf11 zw11 => ?_)
    have zh11_0 : zE11 (q + 1) = eI G 508 (upd (upd (upd (upd (upd (upd s 0 (nI (pg + 1))) (8 + 50 * pg + 0) b) (8 + 50 * pg + 1) n) (8 + 50 * pg + 2) p9) (8 + 50 * pg + 3) (nI 0)) (8 + 50 * pg + 4) (nI 1)) := zg11
    have zk11_0 : zE11 q = .inr (5, [.int th, .ref (ad (q + 1)), .long se, .ref (ad (q + 2)), .ref (ad (q + 3)), .int (nI co), .ref (ad (q + 4)), .int (nI pm), .ref (ad (q + 5)), .ref (ad (q + 6)), .ref (ad (q + 7)), .ref (ad (q + 8)), .int (nI em), .ref (ad (q + 9)), .ref (ad (q + 10)), .ref (ad (q + 11)), .ref (ad (q + 12))]) := (zf11 _ (by omega)).trans zk9_0
    have zfr11 : ∀ j, j ≠ (q + 1) → zE11 j = E j := fun j zm0 => (zf11 j zm0).trans (zfr9 j zm0)
    refine lv_aload_n hx hb dX8_newPage_102 rfl (lv_at hl 1 rfl) ?_
    refine lv_iload hx hb dX8_newPage_103 (lv_at hl 0 rfl) ?_
    refine r_vV C zw11 hl.1 (i := q) (by omega) zk11_0 (T := TX8) (n := 17) rfl [.int (nI pg)] 1 rfl (c_X8_empties (l := l) (G := G) (tC := tC) (ad := ad) (N := N) (E := zE11) (q := q) (co := co) (pm := pm) (em := em) (th := th) (se := se) (s := upd (upd (upd (upd (upd (upd s 0 (nI (pg + 1))) (8 + 50 * pg + 0) b) (8 + 50 * pg + 1) n) (8 + 50 * pg + 2) p9) (8 + 50 * pg + 3) (nI 0)) (8 + 50 * pg + 4) (nI 1)) (k := pg) (by omega) zk11_0 zh11_0 (by first | assumption | omega)) gX8_newPage_X8_empties rfl ⟨rfl, rfl⟩ (by decide +kernel) ⟨Nat.le_of_ble_eq_true rfl, Nat.le_of_ble_eq_true rfl⟩ (rest := []) rfl (Nat.le_of_ble_eq_true rfl) dX8_newPage_105 ⟨Nat.zero_le _, Nat.zero_le _⟩ (fun zE12 zH12 zL12 zp12 zw12 => ?_)
    obtain ⟨zg12_0, zf12⟩ := zp12
    have zh12_0 : zE12 (q + 1) = eI G 508 (empF (upd (upd (upd (upd (upd (upd s 0 (nI (pg + 1))) (8 + 50 * pg + 0) b) (8 + 50 * pg + 1) n) (8 + 50 * pg + 2) p9) (8 + 50 * pg + 3) (nI 0)) (8 + 50 * pg + 4) (nI 1)) pg) := zg12_0
    have zk12_0 : zE12 q = .inr (5, [.int th, .ref (ad (q + 1)), .long se, .ref (ad (q + 2)), .ref (ad (q + 3)), .int (nI co), .ref (ad (q + 4)), .int (nI pm), .ref (ad (q + 5)), .ref (ad (q + 6)), .ref (ad (q + 7)), .ref (ad (q + 8)), .int (nI em), .ref (ad (q + 9)), .ref (ad (q + 10)), .ref (ad (q + 11)), .ref (ad (q + 12))]) := (zf12 _ (by omega)).trans zk11_0
    have zfr12 : ∀ j, j ≠ (q + 1) → zE12 j = E j := fun j zm0 => (zf12 j zm0).trans (zfr11 j zm0)
    refine lv_iload hx hb dX8_newPage_108 (lv_at hl 0 rfl) ?_
    exact r_iret C zw12 dX8_newPage_110 ⟨(zh12_0.trans (by rw [newF, newB, newK, if_neg zc8, if_neg zc8]; rfl)), (fun j zm0 => zfr12 j zm0), (by rw [newK, if_neg zc8])⟩
  · refine lv_aload_n hx hb dX8_newPage_11 rfl (lv_at hl 0 rfl) ?_
    refine lv_aload_n hx hb dX8_newPage_12 rfl (lv_at hl 0 rfl) ?_
    refine r_vI C hw hl.1 (i := q) (by omega) hE0 (T := TX8) (n := 17) rfl [] 0 rfl (c_X8_oldest (l := l) (G := G) (tC := tC) (ad := ad) (N := N) (E := E) (q := q) (co := co) (pm := pm) (em := em) (th := th) (se := se) (pg := pg) (s := s) (by omega) hE0 hE1 (by first | assumption | omega) (by first | assumption | omega) (by first | assumption | omega)) gX8_newPage_X8_oldest rfl ⟨rfl, rfl⟩ (by decide +kernel) ⟨Nat.le_of_ble_eq_true rfl, Nat.le_of_ble_eq_true rfl⟩ (rest := [.ref (ad q)]) rfl (Nat.le_of_ble_eq_true rfl) dX8_newPage_13 ⟨Nat.zero_le _, Nat.zero_le _⟩ (fun zr13 zE13 zH13 zL13 zp13 zw13 => ?_)
    obtain ⟨ze13, zq13⟩ := zp13
    rw [ze13] at zw13
    clear ze13
    rw [zq13]
    refine r_vV C zw13 hl.1 (i := q) (by omega) hE0 (T := TX8) (n := 17) rfl [.int (nI (oldS (latF s) (pg - 1)))] 1 rfl (c_X8_goes (l := l) (G := G) (tC := tC) (ad := ad) (N := N) (E := E) (q := q) (co := co) (pm := pm) (em := em) (th := th) (se := se) (pg := pg) (s := s) (page := oldS (latF s) (pg - 1)) (by omega) hE0 hE1 (by first | assumption | omega) (by first | assumption | omega) (by have := oldS_le (latF s) (pg - 1); omega)) gX8_newPage_X8_goes rfl ⟨rfl, rfl⟩ (by decide +kernel) ⟨Nat.le_of_ble_eq_true rfl, Nat.le_of_ble_eq_true rfl⟩ (rest := []) rfl (Nat.le_of_ble_eq_true rfl) dX8_newPage_16 ⟨Nat.zero_le _, Nat.zero_le _⟩ (fun zE14 zH14 zL14 zp14 zw14 => ?_)
    obtain ⟨zg14_0, zf14⟩ := zp14
    have zh14_0 : zE14 (q + 1) = eI G 508 (goesF s pg (oldS (latF s) (pg - 1))) := zg14_0
    have zk14_0 : zE14 q = .inr (5, [.int th, .ref (ad (q + 1)), .long se, .ref (ad (q + 2)), .ref (ad (q + 3)), .int (nI co), .ref (ad (q + 4)), .int (nI pm), .ref (ad (q + 5)), .ref (ad (q + 6)), .ref (ad (q + 7)), .ref (ad (q + 8)), .int (nI em), .ref (ad (q + 9)), .ref (ad (q + 10)), .ref (ad (q + 11)), .ref (ad (q + 12))]) := (zf14 _ (by omega)).trans hE0
    have zfr14 : ∀ j, j ≠ (q + 1) → zE14 j = E j := fun j zm0 => zf14 j zm0
    refine lv_aload_n hx hb dX8_newPage_19 rfl (lv_at hl 0 rfl) ?_
    refine r_get C zw14 RX8 TX8 17 5 hinX8 (i := q) (by omega) zk14_0 rfl 1 (by decide) (by decide +kernel) rfl (v := .ref (ad (q + 1))) rfl dX8_newPage_20 ?_
    refine lv_iconst (v := nI 0) hx hb dX8_newPage_23 rfl ?_
    refine r_iaN C zw14 (i := (q + 1)) (by omega) zh14_0 (j := 0) (by omega) (by omega) dX8_newPage_24 ?_
    refine r_nat 9 (by rw [goesF_0, zc8]) ?_
    refine lv_istore (lv' := [(4, .int (nI 9)), (0, .ref (ad q)), (1, .int b), (2, .int n), (3, .int p9)]) hx hb dX8_newPage_25 hl (by decide) rfl (fun ls hl => ?_)
    refine lv_aload_n hx hb dX8_newPage_27 rfl (lv_at hl 1 rfl) ?_
    refine r_get C zw14 RX8 TX8 17 5 hinX8 (i := q) (by omega) zk14_0 rfl 1 (by decide) (by decide +kernel) rfl (v := .ref (ad (q + 1))) rfl dX8_newPage_28 ?_
    refine lv_iconst (v := nI 0) hx hb dX8_newPage_31 rfl ?_
    refine lv_dup2_11 hx hb dX8_newPage_32 rfl rfl ?_
    refine r_iaN C zw14 (i := (q + 1)) (by omega) zh14_0 (j := 0) (by omega) (by omega) dX8_newPage_33 ?_
    refine r_nat 9 (by rw [goesF_0, zc8]) ?_
    refine lv_iconst (v := nI 1) hx hb dX8_newPage_34 rfl ?_
    refine lv_iadd hx hb dX8_newPage_35 ?_
    refine r_nat (9 + 1) (nI_add _ _) ?_
    refine r_iasN C zw14 (i := (q + 1)) (by omega) zh14_0 (j := 0) (by omega) (by omega) dX8_newPage_36 (fun zE15 zH15 zL15 zg15 zf15 zw15 => ?_)
    have zh15_0 : zE15 (q + 1) = eI G 508 (upd (goesF s pg (oldS (latF s) (pg - 1))) 0 (nI (9 + 1))) := zg15
    have zk15_0 : zE15 q = .inr (5, [.int th, .ref (ad (q + 1)), .long se, .ref (ad (q + 2)), .ref (ad (q + 3)), .int (nI co), .ref (ad (q + 4)), .int (nI pm), .ref (ad (q + 5)), .ref (ad (q + 6)), .ref (ad (q + 7)), .ref (ad (q + 8)), .int (nI em), .ref (ad (q + 9)), .ref (ad (q + 10)), .ref (ad (q + 11)), .ref (ad (q + 12))]) := (zf15 _ (by omega)).trans zk14_0
    have zfr15 : ∀ j, j ≠ (q + 1) → zE15 j = E j := fun j zm0 => (zf15 j zm0).trans (zfr14 j zm0)
    refine lv_aload_n hx hb dX8_newPage_37 rfl (lv_at hl 1 rfl) ?_
    refine r_get C zw15 RX8 TX8 17 5 hinX8 (i := q) (by omega) zk15_0 rfl 1 (by decide) (by decide +kernel) rfl (v := .ref (ad (q + 1))) rfl dX8_newPage_38 ?_
    refine lv_iload hx hb dX8_newPage_41 (lv_at hl 0 rfl) ?_
    refine r_sI C zw15 hl.1 [.int (nI 9)] 1 rfl (c_X8_at (l := l) (G := G) (tC := tC) (ad := ad) (N := N) (E := zE15) (k := 9)   ) gX8_newPage_X8_at rfl ⟨rfl, rfl⟩ (by decide +kernel) ⟨Nat.le_of_ble_eq_true rfl, Nat.le_of_ble_eq_true rfl⟩ (rest := [.ref (ad (q + 1))]) rfl (Nat.le_of_ble_eq_true rfl) dX8_newPage_43 ⟨Nat.zero_le _, Nat.zero_le _⟩ (fun zr16 zE16 zH16 zL16 zp16 zw16 => ?_)
    obtain ⟨ze16, zq16⟩ := zp16
    rw [ze16] at zw16
    clear ze16
    rw [zq16]
    refine lv_iconst (v := nI 0) hx hb dX8_newPage_46 rfl ?_
    refine lv_iadd hx hb dX8_newPage_47 ?_
    refine r_nat (8 + 50 * 9 + 0) (nI_add _ _) ?_
    refine lv_iload_n hx hb dX8_newPage_48 rfl (lv_at hl 2 rfl) ?_
    refine r_iasN C zw16 (i := (q + 1)) (by omega) zh15_0 (j := 8 + 50 * 9 + 0) (by omega) (by omega) dX8_newPage_49 (fun zE17 zH17 zL17 zg17 zf17 zw17 => ?_)
    have zh17_0 : zE17 (q + 1) = eI G 508 (upd (upd (goesF s pg (oldS (latF s) (pg - 1))) 0 (nI (9 + 1))) (8 + 50 * 9 + 0) b) := zg17
    have zk17_0 : zE17 q = .inr (5, [.int th, .ref (ad (q + 1)), .long se, .ref (ad (q + 2)), .ref (ad (q + 3)), .int (nI co), .ref (ad (q + 4)), .int (nI pm), .ref (ad (q + 5)), .ref (ad (q + 6)), .ref (ad (q + 7)), .ref (ad (q + 8)), .int (nI em), .ref (ad (q + 9)), .ref (ad (q + 10)), .ref (ad (q + 11)), .ref (ad (q + 12))]) := (zf17 _ (by omega)).trans zk15_0
    have zfr17 : ∀ j, j ≠ (q + 1) → zE17 j = E j := fun j zm0 => (zf17 j zm0).trans (zfr15 j zm0)
    refine lv_aload_n hx hb dX8_newPage_50 rfl (lv_at hl 1 rfl) ?_
    refine r_get C zw17 RX8 TX8 17 5 hinX8 (i := q) (by omega) zk17_0 rfl 1 (by decide) (by decide +kernel) rfl (v := .ref (ad (q + 1))) rfl dX8_newPage_51 ?_
    refine lv_iload hx hb dX8_newPage_54 (lv_at hl 0 rfl) ?_
    refine r_sI C zw17 hl.1 [.int (nI 9)] 1 rfl (c_X8_at (l := l) (G := G) (tC := tC) (ad := ad) (N := N) (E := zE17) (k := 9)   ) gX8_newPage_X8_at rfl ⟨rfl, rfl⟩ (by decide +kernel) ⟨Nat.le_of_ble_eq_true rfl, Nat.le_of_ble_eq_true rfl⟩ (rest := [.ref (ad (q + 1))]) rfl (Nat.le_of_ble_eq_true rfl) dX8_newPage_56 ⟨Nat.zero_le _, Nat.zero_le _⟩ (fun zr18 zE18 zH18 zL18 zp18 zw18 => ?_)
    obtain ⟨ze18, zq18⟩ := zp18
    rw [ze18] at zw18
    clear ze18
    rw [zq18]
    refine lv_iconst (v := nI 1) hx hb dX8_newPage_59 rfl ?_
    refine lv_iadd hx hb dX8_newPage_60 ?_
    refine r_nat (8 + 50 * 9 + 1) (nI_add _ _) ?_
    refine lv_iload_n hx hb dX8_newPage_61 rfl (lv_at hl 3 rfl) ?_
    refine r_iasN C zw18 (i := (q + 1)) (by omega) zh17_0 (j := 8 + 50 * 9 + 1) (by omega) (by omega) dX8_newPage_62 (fun zE19 zH19 zL19 zg19 zf19 zw19 => ?_)
    have zh19_0 : zE19 (q + 1) = eI G 508 (upd (upd (upd (goesF s pg (oldS (latF s) (pg - 1))) 0 (nI (9 + 1))) (8 + 50 * 9 + 0) b) (8 + 50 * 9 + 1) n) := zg19
    have zk19_0 : zE19 q = .inr (5, [.int th, .ref (ad (q + 1)), .long se, .ref (ad (q + 2)), .ref (ad (q + 3)), .int (nI co), .ref (ad (q + 4)), .int (nI pm), .ref (ad (q + 5)), .ref (ad (q + 6)), .ref (ad (q + 7)), .ref (ad (q + 8)), .int (nI em), .ref (ad (q + 9)), .ref (ad (q + 10)), .ref (ad (q + 11)), .ref (ad (q + 12))]) := (zf19 _ (by omega)).trans zk17_0
    have zfr19 : ∀ j, j ≠ (q + 1) → zE19 j = E j := fun j zm0 => (zf19 j zm0).trans (zfr17 j zm0)
    refine lv_aload_n hx hb dX8_newPage_63 rfl (lv_at hl 1 rfl) ?_
    refine r_get C zw19 RX8 TX8 17 5 hinX8 (i := q) (by omega) zk19_0 rfl 1 (by decide) (by decide +kernel) rfl (v := .ref (ad (q + 1))) rfl dX8_newPage_64 ?_
    refine lv_iload hx hb dX8_newPage_67 (lv_at hl 0 rfl) ?_
    refine r_sI C zw19 hl.1 [.int (nI 9)] 1 rfl (c_X8_at (l := l) (G := G) (tC := tC) (ad := ad) (N := N) (E := zE19) (k := 9)   ) gX8_newPage_X8_at rfl ⟨rfl, rfl⟩ (by decide +kernel) ⟨Nat.le_of_ble_eq_true rfl, Nat.le_of_ble_eq_true rfl⟩ (rest := [.ref (ad (q + 1))]) rfl (Nat.le_of_ble_eq_true rfl) dX8_newPage_69 ⟨Nat.zero_le _, Nat.zero_le _⟩ (fun zr20 zE20 zH20 zL20 zp20 zw20 => ?_)
    obtain ⟨ze20, zq20⟩ := zp20
    rw [ze20] at zw20
    clear ze20
    rw [zq20]
    refine lv_iconst (v := nI 2) hx hb dX8_newPage_72 rfl ?_
    refine lv_iadd hx hb dX8_newPage_73 ?_
    refine r_nat (8 + 50 * 9 + 2) (nI_add _ _) ?_
    refine lv_iload_n hx hb dX8_newPage_74 rfl (lv_at hl 4 rfl) ?_
    refine r_iasN C zw20 (i := (q + 1)) (by omega) zh19_0 (j := 8 + 50 * 9 + 2) (by omega) (by omega) dX8_newPage_75 (fun zE21 zH21 zL21 zg21 zf21 zw21 => ?_)
    have zh21_0 : zE21 (q + 1) = eI G 508 (upd (upd (upd (upd (goesF s pg (oldS (latF s) (pg - 1))) 0 (nI (9 + 1))) (8 + 50 * 9 + 0) b) (8 + 50 * 9 + 1) n) (8 + 50 * 9 + 2) p9) := zg21
    have zk21_0 : zE21 q = .inr (5, [.int th, .ref (ad (q + 1)), .long se, .ref (ad (q + 2)), .ref (ad (q + 3)), .int (nI co), .ref (ad (q + 4)), .int (nI pm), .ref (ad (q + 5)), .ref (ad (q + 6)), .ref (ad (q + 7)), .ref (ad (q + 8)), .int (nI em), .ref (ad (q + 9)), .ref (ad (q + 10)), .ref (ad (q + 11)), .ref (ad (q + 12))]) := (zf21 _ (by omega)).trans zk19_0
    have zfr21 : ∀ j, j ≠ (q + 1) → zE21 j = E j := fun j zm0 => (zf21 j zm0).trans (zfr19 j zm0)
    refine lv_aload_n hx hb dX8_newPage_76 rfl (lv_at hl 1 rfl) ?_
    refine r_get C zw21 RX8 TX8 17 5 hinX8 (i := q) (by omega) zk21_0 rfl 1 (by decide) (by decide +kernel) rfl (v := .ref (ad (q + 1))) rfl dX8_newPage_77 ?_
    refine lv_iload hx hb dX8_newPage_80 (lv_at hl 0 rfl) ?_
    refine r_sI C zw21 hl.1 [.int (nI 9)] 1 rfl (c_X8_at (l := l) (G := G) (tC := tC) (ad := ad) (N := N) (E := zE21) (k := 9)   ) gX8_newPage_X8_at rfl ⟨rfl, rfl⟩ (by decide +kernel) ⟨Nat.le_of_ble_eq_true rfl, Nat.le_of_ble_eq_true rfl⟩ (rest := [.ref (ad (q + 1))]) rfl (Nat.le_of_ble_eq_true rfl) dX8_newPage_82 ⟨Nat.zero_le _, Nat.zero_le _⟩ (fun zr22 zE22 zH22 zL22 zp22 zw22 => ?_)
    obtain ⟨ze22, zq22⟩ := zp22
    rw [ze22] at zw22
    clear ze22
    rw [zq22]
    refine lv_iconst (v := nI 3) hx hb dX8_newPage_85 rfl ?_
    refine lv_iadd hx hb dX8_newPage_86 ?_
    refine r_nat (8 + 50 * 9 + 3) (nI_add _ _) ?_
    refine lv_iconst (v := nI 0) hx hb dX8_newPage_87 rfl ?_
    refine r_iasN C zw22 (i := (q + 1)) (by omega) zh21_0 (j := 8 + 50 * 9 + 3) (by omega) (by omega) dX8_newPage_88 (fun zE23 zH23 zL23 zg23 zf23 zw23 => ?_)
    have zh23_0 : zE23 (q + 1) = eI G 508 (upd (upd (upd (upd (upd (goesF s pg (oldS (latF s) (pg - 1))) 0 (nI (9 + 1))) (8 + 50 * 9 + 0) b) (8 + 50 * 9 + 1) n) (8 + 50 * 9 + 2) p9) (8 + 50 * 9 + 3) (nI 0)) := zg23
    have zk23_0 : zE23 q = .inr (5, [.int th, .ref (ad (q + 1)), .long se, .ref (ad (q + 2)), .ref (ad (q + 3)), .int (nI co), .ref (ad (q + 4)), .int (nI pm), .ref (ad (q + 5)), .ref (ad (q + 6)), .ref (ad (q + 7)), .ref (ad (q + 8)), .int (nI em), .ref (ad (q + 9)), .ref (ad (q + 10)), .ref (ad (q + 11)), .ref (ad (q + 12))]) := (zf23 _ (by omega)).trans zk21_0
    have zfr23 : ∀ j, j ≠ (q + 1) → zE23 j = E j := fun j zm0 => (zf23 j zm0).trans (zfr21 j zm0)
    refine lv_aload_n hx hb dX8_newPage_89 rfl (lv_at hl 1 rfl) ?_
    refine r_get C zw23 RX8 TX8 17 5 hinX8 (i := q) (by omega) zk23_0 rfl 1 (by decide) (by decide +kernel) rfl (v := .ref (ad (q + 1))) rfl dX8_newPage_90 ?_
    refine lv_iload hx hb dX8_newPage_93 (lv_at hl 0 rfl) ?_
    refine r_sI C zw23 hl.1 [.int (nI 9)] 1 rfl (c_X8_at (l := l) (G := G) (tC := tC) (ad := ad) (N := N) (E := zE23) (k := 9)   ) gX8_newPage_X8_at rfl ⟨rfl, rfl⟩ (by decide +kernel) ⟨Nat.le_of_ble_eq_true rfl, Nat.le_of_ble_eq_true rfl⟩ (rest := [.ref (ad (q + 1))]) rfl (Nat.le_of_ble_eq_true rfl) dX8_newPage_95 ⟨Nat.zero_le _, Nat.zero_le _⟩ (fun zr24 zE24 zH24 zL24 zp24 zw24 => ?_)
    obtain ⟨ze24, zq24⟩ := zp24
    rw [ze24] at zw24
    clear ze24
    rw [zq24]
    refine lv_iconst (v := nI 4) hx hb dX8_newPage_98 rfl ?_
    refine lv_iadd hx hb dX8_newPage_99 ?_
    refine r_nat (8 + 50 * 9 + 4) (nI_add _ _) ?_
    refine lv_iconst (v := nI 1) hx hb dX8_newPage_100 rfl ?_
    refine r_iasN C zw24 (i := (q + 1)) (by omega) zh23_0 (j := 8 + 50 * 9 + 4) (by omega) (by omega) dX8_newPage_101 (fun zE25 zH25 zL25 zg25 zf25 zw25 => ?_)
    have zh25_0 : zE25 (q + 1) = eI G 508 (upd (upd (upd (upd (upd (upd (goesF s pg (oldS (latF s) (pg - 1))) 0 (nI (9 + 1))) (8 + 50 * 9 + 0) b) (8 + 50 * 9 + 1) n) (8 + 50 * 9 + 2) p9) (8 + 50 * 9 + 3) (nI 0)) (8 + 50 * 9 + 4) (nI 1)) := zg25
    have zk25_0 : zE25 q = .inr (5, [.int th, .ref (ad (q + 1)), .long se, .ref (ad (q + 2)), .ref (ad (q + 3)), .int (nI co), .ref (ad (q + 4)), .int (nI pm), .ref (ad (q + 5)), .ref (ad (q + 6)), .ref (ad (q + 7)), .ref (ad (q + 8)), .int (nI em), .ref (ad (q + 9)), .ref (ad (q + 10)), .ref (ad (q + 11)), .ref (ad (q + 12))]) := (zf25 _ (by omega)).trans zk23_0
    have zfr25 : ∀ j, j ≠ (q + 1) → zE25 j = E j := fun j zm0 => (zf25 j zm0).trans (zfr23 j zm0)
    refine lv_aload_n hx hb dX8_newPage_102 rfl (lv_at hl 1 rfl) ?_
    refine lv_iload hx hb dX8_newPage_103 (lv_at hl 0 rfl) ?_
    refine r_vV C zw25 hl.1 (i := q) (by omega) zk25_0 (T := TX8) (n := 17) rfl [.int (nI 9)] 1 rfl (c_X8_empties (l := l) (G := G) (tC := tC) (ad := ad) (N := N) (E := zE25) (q := q) (co := co) (pm := pm) (em := em) (th := th) (se := se) (s := upd (upd (upd (upd (upd (upd (goesF s pg (oldS (latF s) (pg - 1))) 0 (nI (9 + 1))) (8 + 50 * 9 + 0) b) (8 + 50 * 9 + 1) n) (8 + 50 * 9 + 2) p9) (8 + 50 * 9 + 3) (nI 0)) (8 + 50 * 9 + 4) (nI 1)) (k := 9) (by omega) zk25_0 zh25_0 (by first | assumption | omega)) gX8_newPage_X8_empties rfl ⟨rfl, rfl⟩ (by decide +kernel) ⟨Nat.le_of_ble_eq_true rfl, Nat.le_of_ble_eq_true rfl⟩ (rest := []) rfl (Nat.le_of_ble_eq_true rfl) dX8_newPage_105 ⟨Nat.zero_le _, Nat.zero_le _⟩ (fun zE26 zH26 zL26 zp26 zw26 => ?_)
    obtain ⟨zg26_0, zf26⟩ := zp26
    have zh26_0 : zE26 (q + 1) = eI G 508 (empF (upd (upd (upd (upd (upd (upd (goesF s pg (oldS (latF s) (pg - 1))) 0 (nI (9 + 1))) (8 + 50 * 9 + 0) b) (8 + 50 * 9 + 1) n) (8 + 50 * 9 + 2) p9) (8 + 50 * 9 + 3) (nI 0)) (8 + 50 * 9 + 4) (nI 1)) 9) := zg26_0
    have zk26_0 : zE26 q = .inr (5, [.int th, .ref (ad (q + 1)), .long se, .ref (ad (q + 2)), .ref (ad (q + 3)), .int (nI co), .ref (ad (q + 4)), .int (nI pm), .ref (ad (q + 5)), .ref (ad (q + 6)), .ref (ad (q + 7)), .ref (ad (q + 8)), .int (nI em), .ref (ad (q + 9)), .ref (ad (q + 10)), .ref (ad (q + 11)), .ref (ad (q + 12))]) := (zf26 _ (by omega)).trans zk25_0
    have zfr26 : ∀ j, j ≠ (q + 1) → zE26 j = E j := fun j zm0 => (zf26 j zm0).trans (zfr25 j zm0)
    refine lv_iload hx hb dX8_newPage_108 (lv_at hl 0 rfl) ?_
    exact r_iret C zw26 dX8_newPage_110 ⟨(zh26_0.trans (by rw [newF, newB, newK, if_pos zc8, if_pos zc8, zc8]; rfl)), (fun j zm0 => zfr26 j zm0), (by rw [newK, if_pos zc8])⟩
end
