/-! THE LAW: its loop, its start. -/
section P79
variable {p : Program} {l : Launch} {e : Env} {s : State} {m : MethodId} {below : List Frame} {meth : Method} {c : Code} {H : Heap} {locs : List Loc} {cells slots : Nat} {Q : State → Prop}
variable {G : vG} {tC : Nat} {A : Nat → Prop} {ad : Nat → Nat} {E : Nat → va_E} {N o q b L k : Nat} {xs : Nat → Int32} {x : SG} {ls : Array Slot}
set_option maxHeartbeats 4000000 in
set_option maxRecDepth 100000 in
theorem law_loop (S : LwS p s m meth c G tC (fun q => s.heap.size ≤ q) b L xs N o q) (hcs : cells ≤ room_1.cells ∧ slots ≤ room_1.slots) :
    ∀ (n k : Nat), L < 5 * k + n → 5 * k ≤ L → ∀ (x : SG) (E : Nat → va_E) (H : Heap) (locs : List Loc), CL G ad E o (16 * k) x → Bd (16 * k) x → ML G ad E q x → Wd G (fun q => s.heap.size ≤ q) s.heap H locs ad E N → ∀ (ls : Array Slot), lv_has ls 4 [(0, .ref b), (1, .ref (ad o)), (2, .ref (ad q)), (3, .int (nI (5 * k)))] → W p l e room_1 s m #[Value.ref b] below meth c H locs cells slots (lw_Z below #[Value.ref b] s) (F0 m 18 ls []) := by
  obtain ⟨C, hX, hbl, hbA, hL, ho, hq⟩ := id S
  obtain ⟨hx, hb, hr, hml, hown, hts, hU, hst, hA, hlk⟩ := id C
  intro n
  induction n with
  | zero =>
    intro k h1 h2
    exact absurd h1 (by omega)
  | succ n ih =>
    intro k hn hk x E H locs hc hb0 hm hw ls hl
    have hnext : 5 * k + 5 ≤ L → ∀ (x2 : SG) (E2 : Nat → va_E) (H2 : Heap) (locs2 : List Loc), CL G ad E2 o (16 * k + 16) x2 → Bd (16 * k + 16) x2 → ML G ad E2 q x2 → Wd G (fun q => s.heap.size ≤ q) s.heap H2 locs2 ad E2 N → W p l e room_1 s m #[Value.ref b] below meth c H2 locs2 cells slots (lw_Z below #[Value.ref b] s) (F0 m 849 ls []) := by
      intro h5 x2 E2 H2 locs2 c2 b2 m2 w2
      refine lv_iinc (v := nI (5 * (k + 1))) (lv' := [(3, .int (nI (5 * (k + 1)))), (0, .ref b), (1, .ref (ad o)), (2, .ref (ad q))]) hx hb dL_law_849 hl (k := 3) rfl (by rw [show Int32.ofInt 5 = nI 5 from rfl, nI_add]; exact congrArg nI (by omega)) (by decide) rfl (fun ls hl => ?_)
      refine lv_goto (tgt := 18) hx hb dL_law_852 (by decide) ?_
      rw [show 16 * k + 16 = 16 * (k + 1) by omega] at c2 b2
      exact ih (k + 1) (by omega) (by omega) x2 E2 H2 locs2 c2 b2 m2 w2 ls (lv_sub hl [1, 2, 3, 0] rfl)
    refine lv_iload_n hx hb dL_law_18 rfl (lv_at hl 3 rfl) ?_
    refine lv_aload_n hx hb dL_law_19 rfl (lv_at hl 0 rfl) ?_
    refine va_slen hx hb hX hbl hbA hw.2.2 dL_law_20 ?_
    refine lv_iconst (v := nI 5) hx hb dL_law_21 rfl ?_
    refine lv_isub hx hb dL_law_22 ?_
    refine lv_icmp_gt (tgt := 855) hx hb dL_law_23 (by decide) (fun zh => ?_) (fun zh => ?_)
    · refine lv_iconst (v := 1) hx hb dL_law_855 (by decide) ?_
      refine va_forget (fun q hq => hw.2.2.2.2 q hq) ?_
      refine W.widen (k := 600000) (n := 7302250) hcs.1 hcs.2 ?_
      exact lw_ret hx hb hr hlk dL_law_856
    · have h5 : 5 * k + 5 ≤ L := law_le (by omega) hL zh
      refine lv_aload_n hx hb dL_law_26 rfl (lv_at hl 0 rfl) ?_
      refine lv_iload_n hx hb dL_law_27 rfl (lv_at hl 3 rfl) ?_
      refine r_scr hx hb hX hbl hbA hw.2.2 (j := 5 * k) (by omega) hL dL_law_28 ?_
      refine lv_bipush (v := nI 31) hx hb dL_law_29 rfl ?_
      refine lv_iand hx hb dL_law_31 ?_
      refine lv_topi (fun y hy => ?_)
      rcases sw_cases y.toInt 0 22 with zc | zc
      · refine lv_tableOut (tgt := 849) hx hb dL_law_32 zc (by decide) ?_
        exact hnext h5 x E H locs (hc.mono (by omega)) (hb0.mono (by omega)) hm hw
      · have zd : y = nI 0 ∨ y = nI 1 ∨ y = nI 2 ∨ y = nI 3 ∨ y = nI 4 ∨ y = nI 5 ∨ y = nI 6 ∨ y = nI 7 ∨ y = nI 8 ∨ y = nI 9 ∨ y = nI 10 ∨ y = nI 11 ∨ y = nI 12 ∨ y = nI 13 ∨ y = nI 14 ∨ y = nI 15 ∨ y = nI 16 ∨ y = nI 17 ∨ y = nI 18 ∨ y = nI 19 ∨ y = nI 20 ∨ y = nI 21 ∨ y = nI 22 := by
          have : y.toInt = 0 ∨ y.toInt = 1 ∨ y.toInt = 2 ∨ y.toInt = 3 ∨ y.toInt = 4 ∨ y.toInt = 5 ∨ y.toInt = 6 ∨ y.toInt = 7 ∨ y.toInt = 8 ∨ y.toInt = 9 ∨ y.toInt = 10 ∨ y.toInt = 11 ∨ y.toInt = 12 ∨ y.toInt = 13 ∨ y.toInt = 14 ∨ y.toInt = 15 ∨ y.toInt = 16 ∨ y.toInt = 17 ∨ y.toInt = 18 ∨ y.toInt = 19 ∨ y.toInt = 20 ∨ y.toInt = 21 ∨ y.toInt = 22 := by omega
          rcases this with h | h | h | h | h | h | h | h | h | h | h | h | h | h | h | h | h | h | h | h | h | h | h
          · exact (Or.inl (Int32.toInt_inj.mp h))
          · exact (Or.inr (Or.inl (Int32.toInt_inj.mp h)))
          · exact (Or.inr (Or.inr (Or.inl (Int32.toInt_inj.mp h))))
          · exact (Or.inr (Or.inr (Or.inr (Or.inl (Int32.toInt_inj.mp h)))))
          · exact (Or.inr (Or.inr (Or.inr (Or.inr (Or.inl (Int32.toInt_inj.mp h))))))
          · exact (Or.inr (Or.inr (Or.inr (Or.inr (Or.inr (Or.inl (Int32.toInt_inj.mp h)))))))
          · exact (Or.inr (Or.inr (Or.inr (Or.inr (Or.inr (Or.inr (Or.inl (Int32.toInt_inj.mp h))))))))
          · exact (Or.inr (Or.inr (Or.inr (Or.inr (Or.inr (Or.inr (Or.inr (Or.inl (Int32.toInt_inj.mp h)))))))))
          · exact (Or.inr (Or.inr (Or.inr (Or.inr (Or.inr (Or.inr (Or.inr (Or.inr (Or.inl (Int32.toInt_inj.mp h))))))))))
          · exact (Or.inr (Or.inr (Or.inr (Or.inr (Or.inr (Or.inr (Or.inr (Or.inr (Or.inr (Or.inl (Int32.toInt_inj.mp h)))))))))))
          · exact (Or.inr (Or.inr (Or.inr (Or.inr (Or.inr (Or.inr (Or.inr (Or.inr (Or.inr (Or.inr (Or.inl (Int32.toInt_inj.mp h))))))))))))
          · exact (Or.inr (Or.inr (Or.inr (Or.inr (Or.inr (Or.inr (Or.inr (Or.inr (Or.inr (Or.inr (Or.inr (Or.inl (Int32.toInt_inj.mp h)))))))))))))
          · exact (Or.inr (Or.inr (Or.inr (Or.inr (Or.inr (Or.inr (Or.inr (Or.inr (Or.inr (Or.inr (Or.inr (Or.inr (Or.inl (Int32.toInt_inj.mp h))))))))))))))
          · exact (Or.inr (Or.inr (Or.inr (Or.inr (Or.inr (Or.inr (Or.inr (Or.inr (Or.inr (Or.inr (Or.inr (Or.inr (Or.inr (Or.inl (Int32.toInt_inj.mp h)))))))))))))))
          · exact (Or.inr (Or.inr (Or.inr (Or.inr (Or.inr (Or.inr (Or.inr (Or.inr (Or.inr (Or.inr (Or.inr (Or.inr (Or.inr (Or.inr (Or.inl (Int32.toInt_inj.mp h))))))))))))))))
          · exact (Or.inr (Or.inr (Or.inr (Or.inr (Or.inr (Or.inr (Or.inr (Or.inr (Or.inr (Or.inr (Or.inr (Or.inr (Or.inr (Or.inr (Or.inr (Or.inl (Int32.toInt_inj.mp h)))))))))))))))))
          · exact (Or.inr (Or.inr (Or.inr (Or.inr (Or.inr (Or.inr (Or.inr (Or.inr (Or.inr (Or.inr (Or.inr (Or.inr (Or.inr (Or.inr (Or.inr (Or.inr (Or.inl (Int32.toInt_inj.mp h))))))))))))))))))
          · exact (Or.inr (Or.inr (Or.inr (Or.inr (Or.inr (Or.inr (Or.inr (Or.inr (Or.inr (Or.inr (Or.inr (Or.inr (Or.inr (Or.inr (Or.inr (Or.inr (Or.inr (Or.inl (Int32.toInt_inj.mp h)))))))))))))))))))
          · exact (Or.inr (Or.inr (Or.inr (Or.inr (Or.inr (Or.inr (Or.inr (Or.inr (Or.inr (Or.inr (Or.inr (Or.inr (Or.inr (Or.inr (Or.inr (Or.inr (Or.inr (Or.inr (Or.inl (Int32.toInt_inj.mp h))))))))))))))))))))
          · exact (Or.inr (Or.inr (Or.inr (Or.inr (Or.inr (Or.inr (Or.inr (Or.inr (Or.inr (Or.inr (Or.inr (Or.inr (Or.inr (Or.inr (Or.inr (Or.inr (Or.inr (Or.inr (Or.inr (Or.inl (Int32.toInt_inj.mp h)))))))))))))))))))))
          · exact (Or.inr (Or.inr (Or.inr (Or.inr (Or.inr (Or.inr (Or.inr (Or.inr (Or.inr (Or.inr (Or.inr (Or.inr (Or.inr (Or.inr (Or.inr (Or.inr (Or.inr (Or.inr (Or.inr (Or.inr (Or.inl (Int32.toInt_inj.mp h))))))))))))))))))))))
          · exact (Or.inr (Or.inr (Or.inr (Or.inr (Or.inr (Or.inr (Or.inr (Or.inr (Or.inr (Or.inr (Or.inr (Or.inr (Or.inr (Or.inr (Or.inr (Or.inr (Or.inr (Or.inr (Or.inr (Or.inr (Or.inr (Or.inl (Int32.toInt_inj.mp h)))))))))))))))))))))))
          · exact (Or.inr (Or.inr (Or.inr (Or.inr (Or.inr (Or.inr (Or.inr (Or.inr (Or.inr (Or.inr (Or.inr (Or.inr (Or.inr (Or.inr (Or.inr (Or.inr (Or.inr (Or.inr (Or.inr (Or.inr (Or.inr (Or.inr (Int32.toInt_inj.mp h)))))))))))))))))))))))
        clear hy zc
        rcases zd with rfl | rfl | rfl | rfl | rfl | rfl | rfl | rfl | rfl | rfl | rfl | rfl | rfl | rfl | rfl | rfl | rfl | rfl | rfl | rfl | rfl | rfl | rfl
        · refine lv_tableIn (tgt := 140) hx hb dL_law_32 (off := 108) (by decide) (by decide) (by rfl) (by decide) ?_
          exact lc_coded S h5 hcs hw hc hb0 hm hl (hnext h5)
        · refine lv_tableIn (tgt := 163) hx hb dL_law_32 (off := 131) (by decide) (by decide) (by rfl) (by decide) ?_
          exact lc_read S h5 hcs hw hc hb0 hm hl (hnext h5)
        · refine lv_tableIn (tgt := 186) hx hb dL_law_32 (off := 154) (by decide) (by decide) (by rfl) (by decide) ?_
          exact lc_octet S h5 hcs hw hc hb0 hm hl (hnext h5)
        · refine lv_tableIn (tgt := 209) hx hb dL_law_32 (off := 177) (by decide) (by decide) (by rfl) (by decide) ?_
          exact lc_packet S h5 hcs hw hc hb0 hm hl (hnext h5)
        · refine lv_tableIn (tgt := 282) hx hb dL_law_32 (off := 250) (by decide) (by decide) (by rfl) (by decide) ?_
          exact lc_told S h5 hcs hw hc hb0 hm hl (hnext h5)
        · refine lv_tableIn (tgt := 305) hx hb dL_law_32 (off := 273) (by decide) (by decide) (by rfl) (by decide) ?_
          exact lc_open S h5 hcs hw hc hb0 hm hl (hnext h5)
        · refine lv_tableIn (tgt := 328) hx hb dL_law_32 (off := 296) (by decide) (by decide) (by rfl) (by decide) ?_
          exact lc_page S h5 hcs hw hc hb0 hm hl (hnext h5)
        · refine lv_tableIn (tgt := 361) hx hb dL_law_32 (off := 329) (by decide) (by decide) (by rfl) (by decide) ?_
          exact lc_letter S h5 hcs hw hc hb0 hm hl (hnext h5)
        · refine lv_tableIn (tgt := 404) hx hb dL_law_32 (off := 372) (by decide) (by decide) (by rfl) (by decide) ?_
          exact lc_link S h5 hcs hw hc hb0 hm hl (hnext h5)
        · refine lv_tableIn (tgt := 437) hx hb dL_law_32 (off := 405) (by decide) (by decide) (by rfl) (by decide) ?_
          exact lc_far S h5 hcs hw hc hb0 hm hl (hnext h5)
        · refine lv_tableIn (tgt := 470) hx hb dL_law_32 (off := 438) (by decide) (by decide) (by rfl) (by decide) ?_
          exact lc_find S h5 hcs hw hc hb0 hm hl (hnext h5)
        · refine lv_tableIn (tgt := 513) hx hb dL_law_32 (off := 481) (by decide) (by decide) (by rfl) (by decide) ?_
          exact lc_weight S h5 hcs hw hc hb0 hm hl (hnext h5)
        · refine lv_tableIn (tgt := 546) hx hb dL_law_32 (off := 514) (by decide) (by decide) (by rfl) (by decide) ?_
          exact lc_drop S h5 hcs hw hc hb0 hm hl (hnext h5)
        · refine lv_tableIn (tgt := 569) hx hb dL_law_32 (off := 537) (by decide) (by decide) (by rfl) (by decide) ?_
          exact lc_drift S h5 hcs hw hc hb0 hm hl (hnext h5)
        · refine lv_tableIn (tgt := 592) hx hb dL_law_32 (off := 560) (by decide) (by decide) (by rfl) (by decide) ?_
          exact lc_undo S h5 hcs hw hc hb0 hm hl (hnext h5)
        · refine lv_tableIn (tgt := 615) hx hb dL_law_32 (off := 583) (by decide) (by decide) (by rfl) (by decide) ?_
          exact lc_sent S h5 hcs hw hc hb0 hm hl (hnext h5)
        · refine lv_tableIn (tgt := 648) hx hb dL_law_32 (off := 616) (by decide) (by decide) (by rfl) (by decide) ?_
          exact lc_waits S h5 hcs hw hc hb0 hm hl (hnext h5)
        · refine lv_tableIn (tgt := 691) hx hb dL_law_32 (off := 659) (by decide) (by decide) (by rfl) (by decide) ?_
          exact lc_bestRule S h5 hcs hw hc hb0 hm hl (hnext h5)
        · refine lv_tableIn (tgt := 714) hx hb dL_law_32 (off := 682) (by decide) (by decide) (by rfl) (by decide) ?_
          exact lc_write S h5 hcs hw hc hb0 hm hl (hnext h5)
        · refine lv_tableIn (tgt := 767) hx hb dL_law_32 (off := 735) (by decide) (by decide) (by rfl) (by decide) ?_
          exact lc_tear S h5 hcs hw hc hb0 hm hl (hnext h5)
        · refine lv_tableIn (tgt := 780) hx hb dL_law_32 (off := 748) (by decide) (by decide) (by rfl) (by decide) ?_
          exact lc_seed S h5 hcs hw hc hb0 hm hl (hnext h5)
        · refine lv_tableIn (tgt := 803) hx hb dL_law_32 (off := 771) (by decide) (by decide) (by rfl) (by decide) ?_
          exact lc_keep S h5 hcs hw hc hb0 hm hl (hnext h5)
        · refine lv_tableIn (tgt := 826) hx hb dL_law_32 (off := 794) (by decide) (by decide) (by rfl) (by decide) ?_
          exact lc_goBack S h5 hcs hw hc hb0 hm hl (hnext h5)
end P79
/-- what the tables say of classes, arrays, nest mates -/
theorem ar_of {s : State} {args : Array Value} {ty : FieldType} (h : (Cond.arrayClass ty).before args s = true) : ∃ cA : ClassId, ArrOfT s cA ty ∧ s.vm.findClass ("[" ++ ty.toString) = some cA := by
  obtain ⟨cA, kA, comp, h1, h2, h3⟩ := Cond.arrayClass_spec h
  exact ⟨cA, fun n z => ⟨fun k h => (by cases h), kA, h2, comp, h3⟩, h1⟩
theorem ao_of {s : State} {args : Array Value} {C : String} (h : (Cond.arrayOver (.object C)).before args s = true) : ∃ cA : ClassId, ArrOfT s cA (.object C) ∧ va_RA s cA (.object C) := by
  obtain ⟨comp, cA, kA, h1, h2, h3, h4, h5⟩ := Cond.arrayOver_spec h
  exact ⟨cA, fun n z => ⟨fun k h => (by cases h), kA, h3, comp, h4⟩, kA, comp, h3, h4, h1, h5⟩
theorem nw_of {s : State} {args : Array Value} {w : Cond} (hw : w.onTables = true) (h : w.before args s = true) : va_Nw w s := va_any hw h
set_option maxHeartbeats 4000000 in
set_option maxRecDepth 100000 in
theorem law_wU {s : State} {args : Array Value} (hts : ∀ w ∈ lw_tbl, w.before args s = true) : ∃ G : vG, wU G s := by
  obtain ⟨c0, i0, k0⟩ := u_known (C := RX2) (T := TX2) (N := 5) (n := 5) hts inF_X2 (hts (.instantiable RX2 5) (List.mem_of_getElem? (i := 125) (by decide +kernel)))
  obtain ⟨c1, i1, k1⟩ := u_known (C := RX4) (T := TX4) (N := 7) (n := 7) hts inF_X4 (hts (.instantiable RX4 7) (List.mem_of_getElem? (i := 149) (by decide +kernel)))
  obtain ⟨c2, i2, k2⟩ := u_known (C := RX5) (T := TX5) (N := 8) (n := 8) hts inF_X5 (hts (.instantiable RX5 8) (List.mem_of_getElem? (i := 61) (by decide +kernel)))
  obtain ⟨c3, i3, k3⟩ := u_known (C := RX6) (T := TX6) (N := 3) (n := 3) hts inF_X6 (hts (.instantiable RX6 3) (List.mem_of_getElem? (i := 105) (by decide +kernel)))
  obtain ⟨c4, i4, k4⟩ := u_known (C := RX7) (T := TX7) (N := 9) (n := 9) hts inF_X7 (hts (.instantiable RX7 9) (List.mem_of_getElem? (i := 53) (by decide +kernel)))
  obtain ⟨c5, i5, k5⟩ := u_known (C := RX8) (T := TX8) (N := 17) (n := 17) hts inF_X8 (hts (.instantiable RX8 17) (List.mem_of_getElem? (i := 565) (by decide +kernel)))
  obtain ⟨a0, g0, f0⟩ := ar_of (hts (.arrayClass .int) (List.mem_of_getElem? (i := 103) (by decide +kernel)))
  obtain ⟨a1, g1, f1⟩ := ar_of (hts (.arrayClass .long) (List.mem_of_getElem? (i := 622) (by decide +kernel)))
  obtain ⟨a2, g2, f2⟩ := ar_of (hts (.arrayClass .boolean) (List.mem_of_getElem? (i := 147) (by decide +kernel)))
  obtain ⟨a3, g3, f3⟩ := ao_of (hts (.arrayOver (.object RX5)) (List.mem_of_getElem? (i := 111) (by decide +kernel)))
  refine ⟨((fun k => match k with | 0 => c0 | 1 => c1 | 2 => c2 | 3 => c3 | 4 => c4 | _ => c5, fun k => match k with | 0 => i0 | 1 => i1 | 2 => i2 | 3 => i3 | 4 => i4 | _ => i5), fun k => match k with | 0 => a0 | 1 => a1 | 2 => a2 | _ => a3), ⟨fun k q hq => ?_, fun k q hq => ?_⟩, ?_, ?_, ?_, ?_, ?_, ?_⟩
  · match k, hq with
    | 0, hq => cases hq; exact k0
    | 1, hq => cases hq; exact k1
    | 2, hq => cases hq; exact k2
    | 3, hq => cases hq; exact k3
    | 4, hq => cases hq; exact k4
    | 5, hq => cases hq; exact k5
    | k + 6, hq => simp [vwCl] at hq
  · match k, hq with
    | 0, hq => cases hq; exact ⟨g0, f0⟩
    | 1, hq => cases hq; exact ⟨g1, f1⟩
    | 2, hq => cases hq; exact ⟨g2, f2⟩
    | 3, hq => cases hq; exact ⟨g3, f3⟩
    | k + 4, hq => simp [tysOf] at hq
  · exact nw_of rfl (hts (.methodLinkNest RX2 28 yX7_isWithin RX7) (List.mem_of_getElem? (i := 541) (by decide +kernel)))
  · exact nw_of rfl (hts (.methodLinkNest RX3 21 yX7_isWithin RX7) (List.mem_of_getElem? (i := 263) (by decide +kernel)))
  · exact nw_of rfl (hts (.methodLinkNest RX4 66 yX7_isWithin RX7) (List.mem_of_getElem? (i := 519) (by decide +kernel)))
  · exact nw_of rfl (hts (.methodLinkNest RX5 72 yX7_isWithin RX7) (List.mem_of_getElem? (i := 309) (by decide +kernel)))
  · exact nw_of rfl (hts (.methodLinkNest RX7 33 yX2_init RX7) (List.mem_of_getElem? (i := 126) (by decide +kernel)))
  · exact nw_of rfl (hts (.methodLinkNest RX7 40 yX4_init RX7) (List.mem_of_getElem? (i := 150) (by decide +kernel)))
set_option maxHeartbeats 4000000 in
set_option maxRecDepth 100000 in
theorem law_stat {s : State} {args : Array Value} (hts : ∀ w ∈ lw_tbl, w.before args s = true) (hgv : (Jvm.Cond.and given_1 narrow_1).before args s = true) : ∃ tC : Nat, stat tC (fun q => s.heap.size ≤ q) s s.heap := by
  have hs := flat_of_before _ hgv
  have hA : ∀ a : Nat, a < s.heap.size → ¬ (fun q => s.heap.size ≤ q) a := fun a h => Nat.not_le.mpr h
  have harr : (Cond.arrayOf (Term.static RX1 "CODES" "[I") .int).before args s = true := hs _ (by decide +kernel)
  have hlen : (Term.length (Term.static RX1 "CODES" "[I")).eval args s none [] s = some (.int (Int32.ofNat 16)) := va_eqt (hs (Cond.eq (.length (Term.static RX1 "CODES" "[I")) (.int 16)) (by decide +kernel))
  have hel : ∀ j : Nat, j < 16 → (Term.elem (Term.static RX1 "CODES" "[I") (.int (Int32.ofNat j))).eval args s none [] s = some (.int (codeT j)) := by
    intro j hj
    rcases (show j = 0 ∨ j = 1 ∨ j = 2 ∨ j = 3 ∨ j = 4 ∨ j = 5 ∨ j = 6 ∨ j = 7 ∨ j = 8 ∨ j = 9 ∨ j = 10 ∨ j = 11 ∨ j = 12 ∨ j = 13 ∨ j = 14 ∨ j = 15 by omega) with rfl | rfl | rfl | rfl | rfl | rfl | rfl | rfl | rfl | rfl | rfl | rfl | rfl | rfl | rfl | rfl
    · exact va_eqt (hs (Cond.eq (.elem (Term.static RX1 "CODES" "[I") (.int 0)) (.int 21)) (by decide +kernel))
    · exact va_eqt (hs (Cond.eq (.elem (Term.static RX1 "CODES" "[I") (.int 1)) (.int 2)) (by decide +kernel))
    · exact va_eqt (hs (Cond.eq (.elem (Term.static RX1 "CODES" "[I") (.int 2)) (.int 73)) (by decide +kernel))
    · exact va_eqt (hs (Cond.eq (.elem (Term.static RX1 "CODES" "[I") (.int 3)) (.int 94)) (by decide +kernel))
    · exact va_eqt (hs (Cond.eq (.elem (Term.static RX1 "CODES" "[I") (.int 4)) (.int 100)) (by decide +kernel))
    · exact va_eqt (hs (Cond.eq (.elem (Term.static RX1 "CODES" "[I") (.int 5)) (.int 115)) (by decide +kernel))
    · exact va_eqt (hs (Cond.eq (.elem (Term.static RX1 "CODES" "[I") (.int 6)) (.int 56)) (by decide +kernel))
    · exact va_eqt (hs (Cond.eq (.elem (Term.static RX1 "CODES" "[I") (.int 7)) (.int 47)) (by decide +kernel))
    · exact va_eqt (hs (Cond.eq (.elem (Term.static RX1 "CODES" "[I") (.int 8)) (.int 208)) (by decide +kernel))
    · exact va_eqt (hs (Cond.eq (.elem (Term.static RX1 "CODES" "[I") (.int 9)) (.int 199)) (by decide +kernel))
    · exact va_eqt (hs (Cond.eq (.elem (Term.static RX1 "CODES" "[I") (.int 10)) (.int 140)) (by decide +kernel))
    · exact va_eqt (hs (Cond.eq (.elem (Term.static RX1 "CODES" "[I") (.int 11)) (.int 155)) (by decide +kernel))
    · exact va_eqt (hs (Cond.eq (.elem (Term.static RX1 "CODES" "[I") (.int 12)) (.int 161)) (by decide +kernel))
    · exact va_eqt (hs (Cond.eq (.elem (Term.static RX1 "CODES" "[I") (.int 13)) (.int 182)) (by decide +kernel))
    · exact va_eqt (hs (Cond.eq (.elem (Term.static RX1 "CODES" "[I") (.int 14)) (.int 253)) (by decide +kernel))
    · exact va_eqt (hs (Cond.eq (.elem (Term.static RX1 "CODES" "[I") (.int 15)) (.int 234)) (by decide +kernel))
  obtain ⟨t, ht, hT⟩ := va_Tof (A := fun q => s.heap.size ≤ q) (by decide) harr hlen hel hA
  exact ⟨t, va_Zof (hts (.laysStatic RX1 "CODES" "[I") (List.mem_of_getElem? (i := 215) (by decide +kernel))) (hts (.initialized RX1) (List.mem_of_getElem? (i := 46) (by decide +kernel))) ht hA, hT⟩
section P79b
variable {G : vG} {ad ad2 : Nat → Nat} {E E2 : Nat → va_E} {o B : Nat}
theorem qIm.move {z : Nat} {kq : Int32} {s : Nat → Int32} {sn : Nat} (h : qIm G ad E z B kq s sn) (ha : ∀ j, z ≤ j → j < z + 3 → ad2 j = ad j) (hf : ∀ j, z ≤ j → j < z + 3 → E2 j = E j) : qIm G ad2 E2 z B kq s sn := by
  obtain ⟨pg, cm, hd, lst, md, sd, cs, op, ⟨h0, h1, h2⟩, h3⟩ := h
  exact ⟨pg, cm, hd, lst, md, sd, cs, op, ⟨by rw [hf _ (by omega) (by omega), h0, ha (z + 1) (by omega) (by omega), ha (z + 2) (by omega) (by omega)], (hf _ (by omega) (by omega)).trans h1, (hf _ (by omega) (by omega)).trans h2⟩, h3⟩
theorem CL.move {x : SG} (h : CL G ad E o B x) (ha : ∀ j, o ≤ j → j < o + 75 → ad2 j = ad j) (hf : ∀ j, o ≤ j → j < o + 75 → E2 j = E j) : CL G ad2 E2 o B x := by
  obtain ⟨s, pa, pm, co, ck, em, ek, er, ei, el, sn, ke, ks, kp⟩ := x
  obtain ⟨h0, ⟨pg, cm, hd, lst, md, cs, op, ⟨s0, s1, s2⟩, s3⟩, h2, ⟨fi, f0, f1, f2⟩, h4, h5, h6, ⟨bp, br, bi, bl, b0, b1, b2, b3, b4, b5⟩, ⟨rp, tm, ln, wt, og, en, wa, r0, r1, r2, r3, r4, r5⟩, h9, h10⟩ := h
  refine ⟨?_, ⟨pg, cm, hd, lst, md, cs, op, ⟨?_, (hf _ (by omega) (by omega)).trans s1, (hf _ (by omega) (by omega)).trans s2⟩, s3⟩, h2.move (fun j _ _ => ha j (by omega) (by omega)) (fun j _ _ => hf j (by omega) (by omega)), ⟨fi, (hf _ (by omega) (by omega)).trans f0, by rw [ha _ (by omega) (by omega)]; exact f1, by rw [ha _ (by omega) (by omega)]; exact f2⟩, h4.move (fun j _ _ => ha j (by omega) (by omega)) (fun j _ _ => hf j (by omega) (by omega)), h5.move (fun j _ _ => ha j (by omega) (by omega)) (fun j _ _ => hf j (by omega) (by omega)), h6.same (hf _ (by omega) (by omega)), ⟨bp, br, bi, bl, ?_, (hf _ (by omega) (by omega)).trans b1, (hf _ (by omega) (by omega)).trans b2, (hf _ (by omega) (by omega)).trans b3, (hf _ (by omega) (by omega)).trans b4, b5⟩, ⟨rp, tm, ln, wt, og, en, wa, ?_, (hf _ (by omega) (by omega)).trans r1, (hf _ (by omega) (by omega)).trans r2, (hf _ (by omega) (by omega)).trans r3, (hf _ (by omega) (by omega)).trans r4, (hf _ (by omega) (by omega)).trans r5⟩, h9.same (hf _ (by omega) (by omega)), h10.same (hf _ (by omega) (by omega))⟩
  · unfold qObj at h0 ⊢
    rw [hf _ (by omega) (by omega), h0, ha (o + 1) (by omega) (by omega), ha (o + 4) (by omega) (by omega), ha (o + 54) (by omega) (by omega), ha (o + 61) (by omega) (by omega), ha (o + 62) (by omega) (by omega), ha (o + 67) (by omega) (by omega), ha (o + 73) (by omega) (by omega), ha (o + 74) (by omega) (by omega)]
  · rw [hf _ (by omega) (by omega), s0, ha (o + 2) (by omega) (by omega), ha (o + 3) (by omega) (by omega)]
  · rw [hf _ (by omega) (by omega), b0, ha (o + 63) (by omega) (by omega), ha (o + 64) (by omega) (by omega), ha (o + 65) (by omega) (by omega), ha (o + 66) (by omega) (by omega)]
  · rw [hf _ (by omega) (by omega), r0, ha (o + 68) (by omega) (by omega), ha (o + 69) (by omega) (by omega), ha (o + 70) (by omega) (by omega), ha (o + 71) (by omega) (by omega), ha (o + 72) (by omega) (by omega)]
end P79b
/-- the state of new objects -/
def s00 : Nat → Int32 := fillF (fun _ => nI 0) 4 8 (-1)
def x00 : SG := (s00, fun _ => nI 0, 0, 0, fun _ => 0, 0, fun _ => 0, fun _ => 0, fun _ => 0, fun _ => 0, 0, fun _ => nI 0, fun _ => 0, fun _ => nI 0)
theorem rep_00 {c0 o0 : Nat → Int32} (h : ∀ b, b < 4 → o0 b = -1) : RepS s00 c0 o0 0 0 0 (nI 0) (nI 0) (0 + 1) := by
  have hs : ∀ x, ¬ (4 ≤ x ∧ x < 8) → s00 x = nI 0 := fun x hx => if_neg hx
  have hs1 : ∀ b, b < 4 → s00 (4 + b) = -1 := fun b hb => if_pos ⟨by omega, by omega⟩
  exact ⟨⟨hs 0 (by omega), by omega, hs 1 (by omega), hs 2 (by omega), hs 3 (by omega)⟩, ⟨fun b hb => (h b hb).trans (hs1 b hb).symm, fun b hb => Or.inl (hs1 b hb)⟩, fun k j hk => absurd hk (Nat.not_lt_zero k), ⟨by omega, fun _ => 0, fun _ => 0, fun k hk => absurd hk (Nat.not_lt_zero k), fun i j hi => absurd hi (Nat.not_lt_zero i)⟩, fun k hk => absurd hk (Nat.not_lt_zero k), fun k j hk => absurd hk (Nat.not_lt_zero k)⟩
theorem bd_00 : Bd 0 x00 := ⟨by omega, fun j hj => absurd hj (Nat.not_lt_zero j), by omega, by omega, fun _ _ => Or.inl rfl, fun _ _ _ => (by show (0 : Nat) < 2147483648; omega), pcB.none _⟩
theorem kp_00 : ¬ (nI 0 = nI 1) := by decide
theorem inlX7 : ∀ w ∈ wsX70, w ∈ wsL_law := fun _ h => List.mem_append_left _ (List.mem_append_left _ (List.mem_append_left _ (List.mem_append_left _ (List.mem_append_left _ (List.mem_append_left _ (List.mem_append_right _ h))))))
theorem inlX8 : ∀ w ∈ wsX80, w ∈ wsL_law := fun _ h => List.mem_append_left _ (List.mem_append_left _ (List.mem_append_left _ (List.mem_append_left _ (List.mem_append_left _ (List.mem_append_right _ h)))))
set_option maxHeartbeats 4000000 in
set_option maxRecDepth 100000 in
/-- THE LAW, from its entry -/
theorem whole_start {p : Program} {e : Env} {s : State} {m : MethodId} {below : List Frame} {meth : Method} {c : Code} (l : Launch) (hflags : l.flags = flags0) {b L : Nat} {xs : Nat → Int32} (hL : L ≤ 2560) (C0 : lw_At p s m meth c b L xs) : W p l e room_1 s m #[Value.ref b] below meth c s.heap [] 0 0 (lw_Z below #[Value.ref b] s) (entryFrame m ([Value.ref b] : List Value).toArray 4) := by
  obtain ⟨hx, hb, hr, hml, hown, hts, hX, hbl, hlocks, hgv⟩ := id C0
  obtain ⟨G, hU⟩ := law_wU hts
  obtain ⟨tC, hst⟩ := law_stat hts hgv
  have hAO : va_AO RX5 s := va_AO.of (hts (.arrayOver (.object RX5)) (List.mem_of_getElem? (i := 111) (by decide +kernel)))
  have C : Cx p s m meth c #[Value.ref b] cL_law 4 ret wsL_law RL G tC (fun q => s.heap.size ≤ q) := ⟨hx, hb, hr, hml, hown, fun w h => hts w (wsL_law_in w h), hU, hst, fun _ h => h, hlocks⟩
  have hw : Wd G (fun q => s.heap.size ≤ q) s.heap s.heap [] (fun _ => 0) (fun _ => .inr (0, [])) 0 := ⟨fun k q h => absurd (Wo_at h).1 (Nat.not_lt_zero k), ⟨fun i j p q h => absurd (Wo_at h).1 (Nat.not_lt_zero i), fun k q h => absurd (Wo_at h).1 (Nat.not_lt_zero k)⟩, va_S.rf⟩
  have hl := lv_entry ([.ref b]) (n := 4) (Nat.le_of_ble_eq_true rfl)
  rw [lg_entry_eq]
  generalize (lg_sl ([.ref b]) ++ List.replicate (4 - (lg_sl ([.ref b])).length) Slot.unset).toArray = ls at hl ⊢
  have hl : lv_has ls 4 [(0, .ref b)] := hl
  refine r_new C hw (C0 := RX7) (T := TX7) (n := 9) (ci := 4) inlX7 tyX7 tyX7_ok (by decide +kernel) (by decide +kernel) (by decide +kernel) rfl (fs := [.null, .null, .null, .null, .null, .null, .null, .null, .int (nI 0)]) (fun j hj => by rcases (show j = 0 ∨ j = 1 ∨ j = 2 ∨ j = 3 ∨ j = 4 ∨ j = 5 ∨ j = 6 ∨ j = 7 ∨ j = 8 by omega) with rfl | rfl | rfl | rfl | rfl | rfl | rfl | rfl | rfl <;> rfl) (Nat.le_of_ble_eq_true rfl) (Nat.le_of_ble_eq_true rfl) dL_law_0 (fun ad1 E1 H1 a1 g1 f1 w1 => ?_)
  refine lv_dup hx hb dL_law_3 rfl ?_
  refine r_ctor C hAO w1 hl.1 (c_X7_init (l := l) (i := 0) (pb := fun _ => nI 0) (by omega) g1 rfl) gL_law_X7_init rfl ⟨rfl, rfl⟩ (by decide +kernel) (by decide +kernel) (by decide +kernel) rfl (by decide +kernel) ⟨Nat.le_of_ble_eq_true rfl, Nat.le_of_ble_eq_true rfl⟩ (Nat.le_of_ble_eq_true rfl) dL_law_4 ⟨Nat.le_of_ble_eq_true rfl, Nat.le_of_ble_eq_true rfl⟩ (fun ad2 E2 H2 L2 a2 p2 w2 => ?_)
  refine lv_astore_n (lv' := [(1, .ref (ad1 0)), (0, .ref b)]) hx hb dL_law_7 rfl hl (by decide) rfl (fun ls hl => ?_)
  refine r_new C w2 (C0 := RX8) (T := TX8) (n := 17) (ci := 5) inlX8 tyX8 tyX8_ok (by decide +kernel) (by decide +kernel) (by decide +kernel) rfl (fs := [.int (nI 0), .null, .long 0, .null, .null, .int (nI 0), .null, .int (nI 0), .null, .null, .null, .null, .int (nI 0), .null, .null, .null, .null]) (fun j hj => by rcases (show j = 0 ∨ j = 1 ∨ j = 2 ∨ j = 3 ∨ j = 4 ∨ j = 5 ∨ j = 6 ∨ j = 7 ∨ j = 8 ∨ j = 9 ∨ j = 10 ∨ j = 11 ∨ j = 12 ∨ j = 13 ∨ j = 14 ∨ j = 15 ∨ j = 16 by omega) with rfl | rfl | rfl | rfl | rfl | rfl | rfl | rfl | rfl | rfl | rfl | rfl | rfl | rfl | rfl | rfl | rfl <;> rfl) (Nat.le_of_ble_eq_true rfl) (Nat.le_of_ble_eq_true rfl) dL_law_8 (fun ad3 E3 H3 a3 g3 f3 w3 => ?_)
  refine lv_dup hx hb dL_law_11 rfl ?_
  refine r_ctor C hAO w3 hl.1 (c_X8_init (l := l) (i := 75) (by omega) g3) gL_law_X8_init rfl ⟨rfl, rfl⟩ (by decide +kernel) (by decide +kernel) (by decide +kernel) rfl (by decide +kernel) ⟨Nat.le_of_ble_eq_true rfl, Nat.le_of_ble_eq_true rfl⟩ (Nat.le_of_ble_eq_true rfl) dL_law_12 ⟨Nat.le_of_ble_eq_true rfl, Nat.le_of_ble_eq_true rfl⟩ (fun ad4 E4 H4 L4 a4 p4 w4 => ?_)
  refine lv_astore_n (lv' := [(2, .ref (ad3 75)), (1, .ref (ad1 0)), (0, .ref b)]) hx hb dL_law_15 rfl hl (by decide) rfl (fun ls hl => ?_)
  refine lv_iconst (v := nI 0) hx hb dL_law_16 rfl ?_
  refine lv_istore_n (lv' := [(3, .int (nI 0)), (2, .ref (ad3 75)), (1, .ref (ad1 0)), (0, .ref b)]) hx hb dL_law_17 rfl hl (by decide) rfl (fun ls hl => ?_)
  obtain ⟨c0, o0, c1, o1, c2, o2, fi, z0, z1, z2, z3, z4, z5, z6, z7, z8, z9, z10, z11, z12, z13, z14, z15, z16, z17, z18, z19, z20, z21, z22, z23, z24, zf, zo, zi, zr⟩ := p2
  have hc : CL G ad2 E2 0 0 x00 := ⟨z0, ⟨0, 0, 0, nI 0, nI 0, c0, o0, ⟨z1, z2, z3⟩, rep_00 zo, by omega⟩, zr, ⟨fi, z10, zi.1, zi.2⟩, ⟨0, 0, 0, nI 0, nI 0, nI 0, c1, o1, ⟨z4, z5, z6⟩, fun q => absurd q kp_00⟩, ⟨0, 0, 0, nI 0, nI 0, nI 0, c2, o2, ⟨z7, z8, z9⟩, fun q => absurd q kp_00⟩, z11, ⟨_, _, _, _, z12, z13, z14, z15, z16, fun e he => absurd he (Nat.not_lt_zero e)⟩, ⟨0, nI 0, _, _, _, _, _, z17, z18, z19, z20, z21, z22⟩, ⟨_, z23, fun j hj => absurd hj (Nat.not_lt_zero j)⟩, ⟨_, z24⟩⟩
  obtain ⟨y0, y1, y2, y3, y4, y5, y6, y7, y8, y9, y10, y11, y12, yf⟩ := p4
  have hm : ML G ad4 E4 75 x00 := ⟨⟨nI 0, y0⟩, y1, ⟨_, y2⟩, ⟨_, y3, fun j hj => absurd hj (Nat.not_lt_zero j)⟩, y4, y5, ⟨_, y6, fun j hj q => absurd q kp_00⟩, y7, ⟨_, y8, fun e he => absurd he (Nat.not_lt_zero e)⟩, ⟨_, y9⟩, ⟨_, y10⟩, ⟨_, y11⟩, ⟨_, y12⟩⟩
  have hc4 : CL G ad4 E4 0 0 x00 := hc.move (fun j _ hj => (a4 j (by omega)).trans (a3 j (by omega))) (fun j _ hj => (yf j (by omega) (by omega)).trans (f3 j (by omega)))
  have e1 : ad4 0 = ad1 0 := (a4 0 (by omega)).trans ((a3 0 (by omega)).trans (a2 0 (by omega)))
  have e2 : ad4 75 = ad3 75 := a4 75 (by omega)
  rw [← e1, ← e2] at hl
  exact law_loop (o := 0) (q := 75) (N := 88) (ad := ad4) ⟨C, hX, hbl, Nat.not_le.mpr hbl, hL, by omega, by omega⟩ ⟨Nat.le_of_ble_eq_true rfl, Nat.le_of_ble_eq_true rfl⟩ (L + 1) 0 (by omega) (by omega) x00 E4 H4 L4 hc4 bd_00 hm w4 ls (lv_sub hl [3, 2, 1, 0] rfl)
