/-! EACH CASE OF THE LAW. -/
theorem law_c26 : Cond.constantLong RL 26 (4294967295) ∈ wsL_law := List.mem_append_left _ (List.mem_append_left _ (List.mem_append_left _ (List.mem_append_left _ (List.mem_append_left _ (List.mem_append_left _ (List.mem_append_left _ (List.mem_append_left _ (List.mem_of_getElem? (i := 6) (by decide +kernel)))))))))
section P78
variable {p : Program} {l : Launch} {e : Env} {s : State} {m : MethodId} {below : List Frame} {meth : Method} {c : Code} {H : Heap} {locs : List Loc} {cells slots : Nat} {Q : State → Prop}
variable {G : vG} {tC : Nat} {A : Nat → Prop} {ad : Nat → Nat} {E : Nat → va_E} {N o q b L k : Nat} {xs : Nat → Int32} {x : SG} {ls : Array Slot}
set_option maxHeartbeats 4000000 in
set_option maxRecDepth 100000 in
theorem lc_coded (S : LwS p s m meth c G tC A b L xs N o q) (hk : 5 * k + 5 ≤ L) (hcs : cells ≤ room_1.cells ∧ slots ≤ room_1.slots) (hw : Wd G A s.heap H locs ad E N) (hc : CL G ad E o (16 * k) x) (hb0 : Bd (16 * k) x) (hm : ML G ad E q x) (hl : lv_has ls 4 [(0, .ref b), (1, .ref (ad o)), (2, .ref (ad q)), (3, .int (nI (5 * k)))])
    (K : ∀ (x2 : SG) (E2 : Nat → va_E) (H2 : Heap) (locs2 : List Loc), CL G ad E2 o (16 * k + 16) x2 → Bd (16 * k + 16) x2 → ML G ad E2 q x2 → Wd G A s.heap H2 locs2 ad E2 N → W p l e room_1 s m #[Value.ref b] below meth c H2 locs2 cells slots Q (F0 m 849 ls [])) : W p l e room_1 s m #[Value.ref b] below meth c H locs cells slots Q (F0 m 140 ls []) := by
  obtain ⟨C, hX, hbl, hbA, hL, ho, hq⟩ := S
  obtain ⟨hx, hb, -, hml, hown, hts, -⟩ := id C
  obtain ⟨fo, hE7⟩ := hc.obj
  have zL : LW l G tC ad N o q yX7_coded wsX7_coded ({ frames := 1, cells := 0, slots := 0, locals := 22 } : Room) yX8_coded wsX8_coded ({ frames := 2, cells := 0, slots := 0, locals := 48 } : Room) (16 * k) E x [.int (xs (5 * k + 1))] := by
    obtain ⟨s0, pa, pm, co, ck, em, ek, er, ei, el, sn, ke, ks, kp⟩ := x
    exact L_coded (l := l) (tC := tC) (N := N) hq ho (by omega) hc hb0
  obtain ⟨r0, x2, h7, h8⟩ := zL
  refine lv_aload_n hx hb dL_law_140 rfl (lv_at hl 1 rfl) ?_
  refine lv_aload_n hx hb dL_law_141 rfl (lv_at hl 0 rfl) ?_
  refine lv_iload_n hx hb dL_law_142 rfl (lv_at hl 3 rfl) ?_
  refine lv_iconst (v := nI 1) hx hb dL_law_143 rfl ?_
  refine lv_iadd hx hb dL_law_144 ?_
  refine r_nat (5 * k + 1) (nI_add _ _) ?_
  refine r_scr hx hb hX hbl hbA hw.2.2 (j := 5 * k + 1) (by omega) hL dL_law_145 ?_
  refine r_vI C hw hl.1 (i := o) (by omega) hE7 (T := TX7) (n := 9) rfl [.int (xs (5 * k + 1))] 1 rfl h7 gL_law_X7_coded rfl ⟨rfl, rfl⟩ (by decide +kernel) ⟨Nat.le_of_ble_eq_true rfl, Nat.le_of_ble_eq_true rfl⟩ (rest := []) rfl (Nat.le_of_ble_eq_true rfl) dL_law_146 hcs (fun r7 E7 H7 L7 zp7 zw7 => ?_)
  obtain ⟨e7, ⟨hc7, hb7⟩, hf7⟩ := zp7
  have hm7 : ML G ad E7 q x := hm.same (fun j _ _ => hf7 j (by omega))
  obtain ⟨fm, hE8⟩ := hm7.obj
  refine lv_aload_n hx hb dL_law_149 rfl (lv_at hl 2 rfl) ?_
  refine lv_aload_n hx hb dL_law_150 rfl (lv_at hl 0 rfl) ?_
  refine lv_iload_n hx hb dL_law_151 rfl (lv_at hl 3 rfl) ?_
  refine lv_iconst (v := nI 1) hx hb dL_law_152 rfl ?_
  refine lv_iadd hx hb dL_law_153 ?_
  refine r_nat (5 * k + 1) (nI_add _ _) ?_
  refine r_scr hx hb hX hbl hbA zw7.2.2 (j := 5 * k + 1) (by omega) hL dL_law_154 ?_
  refine r_vI C zw7 hl.1 (i := q) (by omega) hE8 (T := TX8) (n := 17) rfl [.int (xs (5 * k + 1))] 1 rfl (h8 E7 hm7) gL_law_X8_coded rfl ⟨rfl, rfl⟩ (by decide +kernel) ⟨Nat.le_of_ble_eq_true rfl, Nat.le_of_ble_eq_true rfl⟩ (rest := [.int r7]) rfl (Nat.le_of_ble_eq_true rfl) dL_law_155 hcs (fun r8 E8 H8 L8 zp8 zw8 => ?_)
  obtain ⟨e8, hm8, hf8⟩ := zp8
  refine lv_icmp_eq (tgt := 849) hx hb dL_law_158 (by decide) (fun zh => ?_) (fun zh => absurd (e7.trans e8.symm) zh)
  exact K x2 E8 H8 L8 (hc7.same (fun j _ _ => hf8 j (by omega))) hb7 hm8 zw8
set_option maxHeartbeats 4000000 in
set_option maxRecDepth 100000 in
theorem lc_read (S : LwS p s m meth c G tC A b L xs N o q) (hk : 5 * k + 5 ≤ L) (hcs : cells ≤ room_1.cells ∧ slots ≤ room_1.slots) (hw : Wd G A s.heap H locs ad E N) (hc : CL G ad E o (16 * k) x) (hb0 : Bd (16 * k) x) (hm : ML G ad E q x) (hl : lv_has ls 4 [(0, .ref b), (1, .ref (ad o)), (2, .ref (ad q)), (3, .int (nI (5 * k)))])
    (K : ∀ (x2 : SG) (E2 : Nat → va_E) (H2 : Heap) (locs2 : List Loc), CL G ad E2 o (16 * k + 16) x2 → Bd (16 * k + 16) x2 → ML G ad E2 q x2 → Wd G A s.heap H2 locs2 ad E2 N → W p l e room_1 s m #[Value.ref b] below meth c H2 locs2 cells slots Q (F0 m 849 ls [])) : W p l e room_1 s m #[Value.ref b] below meth c H locs cells slots Q (F0 m 163 ls []) := by
  obtain ⟨C, hX, hbl, hbA, hL, ho, hq⟩ := S
  obtain ⟨hx, hb, -, hml, hown, hts, -⟩ := id C
  obtain ⟨fo, hE7⟩ := hc.obj
  have zL : LW l G tC ad N o q yX7_read wsX7_read ({ frames := 2, cells := 0, slots := 0, locals := 41 } : Room) yX8_read wsX8_read ({ frames := 3, cells := 0, slots := 0, locals := 70 } : Room) (16 * k) E x [.int (xs (5 * k + 1))] := by
    obtain ⟨s0, pa, pm, co, ck, em, ek, er, ei, el, sn, ke, ks, kp⟩ := x
    exact L_read (l := l) (tC := tC) (N := N) hq ho (by omega) hc hb0
  obtain ⟨r0, x2, h7, h8⟩ := zL
  refine lv_aload_n hx hb dL_law_163 rfl (lv_at hl 1 rfl) ?_
  refine lv_aload_n hx hb dL_law_164 rfl (lv_at hl 0 rfl) ?_
  refine lv_iload_n hx hb dL_law_165 rfl (lv_at hl 3 rfl) ?_
  refine lv_iconst (v := nI 1) hx hb dL_law_166 rfl ?_
  refine lv_iadd hx hb dL_law_167 ?_
  refine r_nat (5 * k + 1) (nI_add _ _) ?_
  refine r_scr hx hb hX hbl hbA hw.2.2 (j := 5 * k + 1) (by omega) hL dL_law_168 ?_
  refine r_vI C hw hl.1 (i := o) (by omega) hE7 (T := TX7) (n := 9) rfl [.int (xs (5 * k + 1))] 1 rfl h7 gL_law_X7_read rfl ⟨rfl, rfl⟩ (by decide +kernel) ⟨Nat.le_of_ble_eq_true rfl, Nat.le_of_ble_eq_true rfl⟩ (rest := []) rfl (Nat.le_of_ble_eq_true rfl) dL_law_169 hcs (fun r7 E7 H7 L7 zp7 zw7 => ?_)
  obtain ⟨e7, ⟨hc7, hb7⟩, hf7⟩ := zp7
  have hm7 : ML G ad E7 q x := hm.same (fun j _ _ => hf7 j (by omega))
  obtain ⟨fm, hE8⟩ := hm7.obj
  refine lv_aload_n hx hb dL_law_172 rfl (lv_at hl 2 rfl) ?_
  refine lv_aload_n hx hb dL_law_173 rfl (lv_at hl 0 rfl) ?_
  refine lv_iload_n hx hb dL_law_174 rfl (lv_at hl 3 rfl) ?_
  refine lv_iconst (v := nI 1) hx hb dL_law_175 rfl ?_
  refine lv_iadd hx hb dL_law_176 ?_
  refine r_nat (5 * k + 1) (nI_add _ _) ?_
  refine r_scr hx hb hX hbl hbA zw7.2.2 (j := 5 * k + 1) (by omega) hL dL_law_177 ?_
  refine r_vI C zw7 hl.1 (i := q) (by omega) hE8 (T := TX8) (n := 17) rfl [.int (xs (5 * k + 1))] 1 rfl (h8 E7 hm7) gL_law_X8_read rfl ⟨rfl, rfl⟩ (by decide +kernel) ⟨Nat.le_of_ble_eq_true rfl, Nat.le_of_ble_eq_true rfl⟩ (rest := [.int r7]) rfl (Nat.le_of_ble_eq_true rfl) dL_law_178 hcs (fun r8 E8 H8 L8 zp8 zw8 => ?_)
  obtain ⟨e8, hm8, hf8⟩ := zp8
  refine lv_icmp_eq (tgt := 849) hx hb dL_law_181 (by decide) (fun zh => ?_) (fun zh => absurd (e7.trans e8.symm) zh)
  exact K x2 E8 H8 L8 (hc7.same (fun j _ _ => hf8 j (by omega))) hb7 hm8 zw8
set_option maxHeartbeats 4000000 in
set_option maxRecDepth 100000 in
theorem lc_octet (S : LwS p s m meth c G tC A b L xs N o q) (hk : 5 * k + 5 ≤ L) (hcs : cells ≤ room_1.cells ∧ slots ≤ room_1.slots) (hw : Wd G A s.heap H locs ad E N) (hc : CL G ad E o (16 * k) x) (hb0 : Bd (16 * k) x) (hm : ML G ad E q x) (hl : lv_has ls 4 [(0, .ref b), (1, .ref (ad o)), (2, .ref (ad q)), (3, .int (nI (5 * k)))])
    (K : ∀ (x2 : SG) (E2 : Nat → va_E) (H2 : Heap) (locs2 : List Loc), CL G ad E2 o (16 * k + 16) x2 → Bd (16 * k + 16) x2 → ML G ad E2 q x2 → Wd G A s.heap H2 locs2 ad E2 N → W p l e room_1 s m #[Value.ref b] below meth c H2 locs2 cells slots Q (F0 m 849 ls [])) : W p l e room_1 s m #[Value.ref b] below meth c H locs cells slots Q (F0 m 186 ls []) := by
  obtain ⟨C, hX, hbl, hbA, hL, ho, hq⟩ := S
  obtain ⟨hx, hb, -, hml, hown, hts, -⟩ := id C
  obtain ⟨fo, hE7⟩ := hc.obj
  have zL : LW l G tC ad N o q yX7_octet wsX7_octet ({ frames := 7, cells := 0, slots := 0, locals := 162 } : Room) yX8_octet wsX8_octet ({ frames := 8, cells := 0, slots := 0, locals := 181 } : Room) (16 * k) E x [.int (xs (5 * k + 1))] := by
    obtain ⟨s0, pa, pm, co, ck, em, ek, er, ei, el, sn, ke, ks, kp⟩ := x
    exact L_octet (l := l) (tC := tC) (N := N) hq ho (by omega) hc hb0
  obtain ⟨r0, x2, h7, h8⟩ := zL
  refine lv_aload_n hx hb dL_law_186 rfl (lv_at hl 1 rfl) ?_
  refine lv_aload_n hx hb dL_law_187 rfl (lv_at hl 0 rfl) ?_
  refine lv_iload_n hx hb dL_law_188 rfl (lv_at hl 3 rfl) ?_
  refine lv_iconst (v := nI 1) hx hb dL_law_189 rfl ?_
  refine lv_iadd hx hb dL_law_190 ?_
  refine r_nat (5 * k + 1) (nI_add _ _) ?_
  refine r_scr hx hb hX hbl hbA hw.2.2 (j := 5 * k + 1) (by omega) hL dL_law_191 ?_
  refine r_vI C hw hl.1 (i := o) (by omega) hE7 (T := TX7) (n := 9) rfl [.int (xs (5 * k + 1))] 1 rfl h7 gL_law_X7_octet rfl ⟨rfl, rfl⟩ (by decide +kernel) ⟨Nat.le_of_ble_eq_true rfl, Nat.le_of_ble_eq_true rfl⟩ (rest := []) rfl (Nat.le_of_ble_eq_true rfl) dL_law_192 hcs (fun r7 E7 H7 L7 zp7 zw7 => ?_)
  obtain ⟨e7, ⟨hc7, hb7⟩, hf7⟩ := zp7
  have hm7 : ML G ad E7 q x := hm.same (fun j _ _ => hf7 j (by omega))
  obtain ⟨fm, hE8⟩ := hm7.obj
  refine lv_aload_n hx hb dL_law_195 rfl (lv_at hl 2 rfl) ?_
  refine lv_aload_n hx hb dL_law_196 rfl (lv_at hl 0 rfl) ?_
  refine lv_iload_n hx hb dL_law_197 rfl (lv_at hl 3 rfl) ?_
  refine lv_iconst (v := nI 1) hx hb dL_law_198 rfl ?_
  refine lv_iadd hx hb dL_law_199 ?_
  refine r_nat (5 * k + 1) (nI_add _ _) ?_
  refine r_scr hx hb hX hbl hbA zw7.2.2 (j := 5 * k + 1) (by omega) hL dL_law_200 ?_
  refine r_vI C zw7 hl.1 (i := q) (by omega) hE8 (T := TX8) (n := 17) rfl [.int (xs (5 * k + 1))] 1 rfl (h8 E7 hm7) gL_law_X8_octet rfl ⟨rfl, rfl⟩ (by decide +kernel) ⟨Nat.le_of_ble_eq_true rfl, Nat.le_of_ble_eq_true rfl⟩ (rest := [.int r7]) rfl (Nat.le_of_ble_eq_true rfl) dL_law_201 hcs (fun r8 E8 H8 L8 zp8 zw8 => ?_)
  obtain ⟨e8, hm8, hf8⟩ := zp8
  refine lv_icmp_eq (tgt := 849) hx hb dL_law_204 (by decide) (fun zh => ?_) (fun zh => absurd (e7.trans e8.symm) zh)
  exact K x2 E8 H8 L8 (hc7.same (fun j _ _ => hf8 j (by omega))) hb7 hm8 zw8
set_option maxHeartbeats 4000000 in
set_option maxRecDepth 100000 in
theorem lc_packet (S : LwS p s m meth c G tC A b L xs N o q) (hk : 5 * k + 5 ≤ L) (hcs : cells ≤ room_1.cells ∧ slots ≤ room_1.slots) (hw : Wd G A s.heap H locs ad E N) (hc : CL G ad E o (16 * k) x) (hb0 : Bd (16 * k) x) (hm : ML G ad E q x) (hl : lv_has ls 4 [(0, .ref b), (1, .ref (ad o)), (2, .ref (ad q)), (3, .int (nI (5 * k)))])
    (K : ∀ (x2 : SG) (E2 : Nat → va_E) (H2 : Heap) (locs2 : List Loc), CL G ad E2 o (16 * k + 16) x2 → Bd (16 * k + 16) x2 → ML G ad E2 q x2 → Wd G A s.heap H2 locs2 ad E2 N → W p l e room_1 s m #[Value.ref b] below meth c H2 locs2 cells slots Q (F0 m 849 ls [])) : W p l e room_1 s m #[Value.ref b] below meth c H locs cells slots Q (F0 m 209 ls []) := by
  obtain ⟨C, hX, hbl, hbA, hL, ho, hq⟩ := S
  obtain ⟨hx, hb, -, hml, hown, hts, -⟩ := id C
  obtain ⟨fo, hE7⟩ := hc.obj
  have zL : LW l G tC ad N o q yX7_packet wsX7_packet ({ frames := 7, cells := 0, slots := 0, locals := 162 } : Room) yX8_packet wsX8_packet ({ frames := 8, cells := 0, slots := 0, locals := 181 } : Room) (16 * k) E x [.int (xs (5 * k + 1)), .int (xs (5 * k + 2)), .long (((xs (5 * k + 3)).toInt64 <<< ((nI 32).toInt64 &&& 63)) ||| ((xs (5 * k + 4)).toInt64 &&& (4294967295 : Int64)))] := by
    obtain ⟨s0, pa, pm, co, ck, em, ek, er, ei, el, sn, ke, ks, kp⟩ := x
    exact L_packet (l := l) (tC := tC) (N := N) hq ho (by omega) hc hb0
  obtain ⟨r0, x2, h7, h8⟩ := zL
  refine lv_aload_n hx hb dL_law_209 rfl (lv_at hl 1 rfl) ?_
  refine lv_aload_n hx hb dL_law_210 rfl (lv_at hl 0 rfl) ?_
  refine lv_iload_n hx hb dL_law_211 rfl (lv_at hl 3 rfl) ?_
  refine lv_iconst (v := nI 1) hx hb dL_law_212 rfl ?_
  refine lv_iadd hx hb dL_law_213 ?_
  refine r_nat (5 * k + 1) (nI_add _ _) ?_
  refine r_scr hx hb hX hbl hbA hw.2.2 (j := 5 * k + 1) (by omega) hL dL_law_214 ?_
  refine lv_aload_n hx hb dL_law_215 rfl (lv_at hl 0 rfl) ?_
  refine lv_iload_n hx hb dL_law_216 rfl (lv_at hl 3 rfl) ?_
  refine lv_iconst (v := nI 2) hx hb dL_law_217 rfl ?_
  refine lv_iadd hx hb dL_law_218 ?_
  refine r_nat (5 * k + 2) (nI_add _ _) ?_
  refine r_scr hx hb hX hbl hbA hw.2.2 (j := 5 * k + 2) (by omega) hL dL_law_219 ?_
  refine lv_aload_n hx hb dL_law_220 rfl (lv_at hl 0 rfl) ?_
  refine lv_iload_n hx hb dL_law_221 rfl (lv_at hl 3 rfl) ?_
  refine lv_iconst (v := nI 3) hx hb dL_law_222 rfl ?_
  refine lv_iadd hx hb dL_law_223 ?_
  refine r_nat (5 * k + 3) (nI_add _ _) ?_
  refine r_scr hx hb hX hbl hbA hw.2.2 (j := 5 * k + 3) (by omega) hL dL_law_224 ?_
  refine lv_i2l (v := (xs (5 * k + 3)).toInt64) hx hb dL_law_225 rfl ?_
  refine lv_bipush (v := nI 32) hx hb dL_law_226 rfl ?_
  refine lv_lshl (v := (xs (5 * k + 3)).toInt64 <<< ((nI 32).toInt64 &&& 63)) hx hb dL_law_228 rfl ?_
  refine lv_aload_n hx hb dL_law_229 rfl (lv_at hl 0 rfl) ?_
  refine lv_iload_n hx hb dL_law_230 rfl (lv_at hl 3 rfl) ?_
  refine lv_iconst (v := nI 4) hx hb dL_law_231 rfl ?_
  refine lv_iadd hx hb dL_law_232 ?_
  refine r_nat (5 * k + 4) (nI_add _ _) ?_
  refine r_scr hx hb hX hbl hbA hw.2.2 (j := 5 * k + 4) (by omega) hL dL_law_233 ?_
  refine lv_i2l (v := (xs (5 * k + 4)).toInt64) hx hb dL_law_234 rfl ?_
  refine lv_ldc2 (v := 4294967295) hx hb hown (hts _ law_c26) dL_law_235 ?_
  refine lv_land hx hb dL_law_238 ?_
  refine lv_lor hx hb dL_law_239 ?_
  refine r_vI C hw hl.1 (i := o) (by omega) hE7 (T := TX7) (n := 9) rfl [.int (xs (5 * k + 1)), .int (xs (5 * k + 2)), .long (((xs (5 * k + 3)).toInt64 <<< ((nI 32).toInt64 &&& 63)) ||| ((xs (5 * k + 4)).toInt64 &&& (4294967295 : Int64)))] 3 rfl h7 gL_law_X7_packet rfl ⟨rfl, rfl⟩ (by decide +kernel) ⟨Nat.le_of_ble_eq_true rfl, Nat.le_of_ble_eq_true rfl⟩ (rest := []) rfl (Nat.le_of_ble_eq_true rfl) dL_law_240 hcs (fun r7 E7 H7 L7 zp7 zw7 => ?_)
  obtain ⟨e7, ⟨hc7, hb7⟩, hf7⟩ := zp7
  have hm7 : ML G ad E7 q x := hm.same (fun j _ _ => hf7 j (by omega))
  obtain ⟨fm, hE8⟩ := hm7.obj
  refine lv_aload_n hx hb dL_law_243 rfl (lv_at hl 2 rfl) ?_
  refine lv_aload_n hx hb dL_law_244 rfl (lv_at hl 0 rfl) ?_
  refine lv_iload_n hx hb dL_law_245 rfl (lv_at hl 3 rfl) ?_
  refine lv_iconst (v := nI 1) hx hb dL_law_246 rfl ?_
  refine lv_iadd hx hb dL_law_247 ?_
  refine r_nat (5 * k + 1) (nI_add _ _) ?_
  refine r_scr hx hb hX hbl hbA zw7.2.2 (j := 5 * k + 1) (by omega) hL dL_law_248 ?_
  refine lv_aload_n hx hb dL_law_249 rfl (lv_at hl 0 rfl) ?_
  refine lv_iload_n hx hb dL_law_250 rfl (lv_at hl 3 rfl) ?_
  refine lv_iconst (v := nI 2) hx hb dL_law_251 rfl ?_
  refine lv_iadd hx hb dL_law_252 ?_
  refine r_nat (5 * k + 2) (nI_add _ _) ?_
  refine r_scr hx hb hX hbl hbA zw7.2.2 (j := 5 * k + 2) (by omega) hL dL_law_253 ?_
  refine lv_aload_n hx hb dL_law_254 rfl (lv_at hl 0 rfl) ?_
  refine lv_iload_n hx hb dL_law_255 rfl (lv_at hl 3 rfl) ?_
  refine lv_iconst (v := nI 3) hx hb dL_law_256 rfl ?_
  refine lv_iadd hx hb dL_law_257 ?_
  refine r_nat (5 * k + 3) (nI_add _ _) ?_
  refine r_scr hx hb hX hbl hbA zw7.2.2 (j := 5 * k + 3) (by omega) hL dL_law_258 ?_
  refine lv_i2l (v := (xs (5 * k + 3)).toInt64) hx hb dL_law_259 rfl ?_
  refine lv_bipush (v := nI 32) hx hb dL_law_260 rfl ?_
  refine lv_lshl (v := (xs (5 * k + 3)).toInt64 <<< ((nI 32).toInt64 &&& 63)) hx hb dL_law_262 rfl ?_
  refine lv_aload_n hx hb dL_law_263 rfl (lv_at hl 0 rfl) ?_
  refine lv_iload_n hx hb dL_law_264 rfl (lv_at hl 3 rfl) ?_
  refine lv_iconst (v := nI 4) hx hb dL_law_265 rfl ?_
  refine lv_iadd hx hb dL_law_266 ?_
  refine r_nat (5 * k + 4) (nI_add _ _) ?_
  refine r_scr hx hb hX hbl hbA zw7.2.2 (j := 5 * k + 4) (by omega) hL dL_law_267 ?_
  refine lv_i2l (v := (xs (5 * k + 4)).toInt64) hx hb dL_law_268 rfl ?_
  refine lv_ldc2 (v := 4294967295) hx hb hown (hts _ law_c26) dL_law_269 ?_
  refine lv_land hx hb dL_law_272 ?_
  refine lv_lor hx hb dL_law_273 ?_
  refine r_vI C zw7 hl.1 (i := q) (by omega) hE8 (T := TX8) (n := 17) rfl [.int (xs (5 * k + 1)), .int (xs (5 * k + 2)), .long (((xs (5 * k + 3)).toInt64 <<< ((nI 32).toInt64 &&& 63)) ||| ((xs (5 * k + 4)).toInt64 &&& (4294967295 : Int64)))] 3 rfl (h8 E7 hm7) gL_law_X8_packet rfl ⟨rfl, rfl⟩ (by decide +kernel) ⟨Nat.le_of_ble_eq_true rfl, Nat.le_of_ble_eq_true rfl⟩ (rest := [.int r7]) rfl (Nat.le_of_ble_eq_true rfl) dL_law_274 hcs (fun r8 E8 H8 L8 zp8 zw8 => ?_)
  obtain ⟨e8, hm8, hf8⟩ := zp8
  refine lv_icmp_eq (tgt := 849) hx hb dL_law_277 (by decide) (fun zh => ?_) (fun zh => absurd (e7.trans e8.symm) zh)
  exact K x2 E8 H8 L8 (hc7.same (fun j _ _ => hf8 j (by omega))) hb7 hm8 zw8
set_option maxHeartbeats 4000000 in
set_option maxRecDepth 100000 in
theorem lc_told (S : LwS p s m meth c G tC A b L xs N o q) (hk : 5 * k + 5 ≤ L) (hcs : cells ≤ room_1.cells ∧ slots ≤ room_1.slots) (hw : Wd G A s.heap H locs ad E N) (hc : CL G ad E o (16 * k) x) (hb0 : Bd (16 * k) x) (hm : ML G ad E q x) (hl : lv_has ls 4 [(0, .ref b), (1, .ref (ad o)), (2, .ref (ad q)), (3, .int (nI (5 * k)))])
    (K : ∀ (x2 : SG) (E2 : Nat → va_E) (H2 : Heap) (locs2 : List Loc), CL G ad E2 o (16 * k + 16) x2 → Bd (16 * k + 16) x2 → ML G ad E2 q x2 → Wd G A s.heap H2 locs2 ad E2 N → W p l e room_1 s m #[Value.ref b] below meth c H2 locs2 cells slots Q (F0 m 849 ls [])) : W p l e room_1 s m #[Value.ref b] below meth c H locs cells slots Q (F0 m 282 ls []) := by
  obtain ⟨C, hX, hbl, hbA, hL, ho, hq⟩ := S
  obtain ⟨hx, hb, -, hml, hown, hts, -⟩ := id C
  obtain ⟨fo, hE7⟩ := hc.obj
  have zL : LW l G tC ad N o q yX7_told wsX7_told ({ frames := 4, cells := 0, slots := 0, locals := 91 } : Room) yX8_told wsX8_told ({ frames := 3, cells := 0, slots := 0, locals := 69 } : Room) (16 * k) E x [.int (xs (5 * k + 1))] := by
    obtain ⟨s0, pa, pm, co, ck, em, ek, er, ei, el, sn, ke, ks, kp⟩ := x
    exact L_told (l := l) (tC := tC) (N := N) hq ho (by omega) hc hb0
  obtain ⟨r0, x2, h7, h8⟩ := zL
  refine lv_aload_n hx hb dL_law_282 rfl (lv_at hl 1 rfl) ?_
  refine lv_aload_n hx hb dL_law_283 rfl (lv_at hl 0 rfl) ?_
  refine lv_iload_n hx hb dL_law_284 rfl (lv_at hl 3 rfl) ?_
  refine lv_iconst (v := nI 1) hx hb dL_law_285 rfl ?_
  refine lv_iadd hx hb dL_law_286 ?_
  refine r_nat (5 * k + 1) (nI_add _ _) ?_
  refine r_scr hx hb hX hbl hbA hw.2.2 (j := 5 * k + 1) (by omega) hL dL_law_287 ?_
  refine r_vI C hw hl.1 (i := o) (by omega) hE7 (T := TX7) (n := 9) rfl [.int (xs (5 * k + 1))] 1 rfl h7 gL_law_X7_told rfl ⟨rfl, rfl⟩ (by decide +kernel) ⟨Nat.le_of_ble_eq_true rfl, Nat.le_of_ble_eq_true rfl⟩ (rest := []) rfl (Nat.le_of_ble_eq_true rfl) dL_law_288 hcs (fun r7 E7 H7 L7 zp7 zw7 => ?_)
  obtain ⟨e7, ⟨hc7, hb7⟩, hf7⟩ := zp7
  have hm7 : ML G ad E7 q x := hm.same (fun j _ _ => hf7 j (by omega))
  obtain ⟨fm, hE8⟩ := hm7.obj
  refine lv_aload_n hx hb dL_law_291 rfl (lv_at hl 2 rfl) ?_
  refine lv_aload_n hx hb dL_law_292 rfl (lv_at hl 0 rfl) ?_
  refine lv_iload_n hx hb dL_law_293 rfl (lv_at hl 3 rfl) ?_
  refine lv_iconst (v := nI 1) hx hb dL_law_294 rfl ?_
  refine lv_iadd hx hb dL_law_295 ?_
  refine r_nat (5 * k + 1) (nI_add _ _) ?_
  refine r_scr hx hb hX hbl hbA zw7.2.2 (j := 5 * k + 1) (by omega) hL dL_law_296 ?_
  refine r_vI C zw7 hl.1 (i := q) (by omega) hE8 (T := TX8) (n := 17) rfl [.int (xs (5 * k + 1))] 1 rfl (h8 E7 hm7) gL_law_X8_told rfl ⟨rfl, rfl⟩ (by decide +kernel) ⟨Nat.le_of_ble_eq_true rfl, Nat.le_of_ble_eq_true rfl⟩ (rest := [.int r7]) rfl (Nat.le_of_ble_eq_true rfl) dL_law_297 hcs (fun r8 E8 H8 L8 zp8 zw8 => ?_)
  obtain ⟨e8, hm8, hf8⟩ := zp8
  refine lv_icmp_eq (tgt := 849) hx hb dL_law_300 (by decide) (fun zh => ?_) (fun zh => absurd (e7.trans e8.symm) zh)
  exact K x2 E8 H8 L8 (hc7.same (fun j _ _ => hf8 j (by omega))) hb7 hm8 zw8
set_option maxHeartbeats 4000000 in
set_option maxRecDepth 100000 in
theorem lc_open (S : LwS p s m meth c G tC A b L xs N o q) (hk : 5 * k + 5 ≤ L) (hcs : cells ≤ room_1.cells ∧ slots ≤ room_1.slots) (hw : Wd G A s.heap H locs ad E N) (hc : CL G ad E o (16 * k) x) (hb0 : Bd (16 * k) x) (hm : ML G ad E q x) (hl : lv_has ls 4 [(0, .ref b), (1, .ref (ad o)), (2, .ref (ad q)), (3, .int (nI (5 * k)))])
    (K : ∀ (x2 : SG) (E2 : Nat → va_E) (H2 : Heap) (locs2 : List Loc), CL G ad E2 o (16 * k + 16) x2 → Bd (16 * k + 16) x2 → ML G ad E2 q x2 → Wd G A s.heap H2 locs2 ad E2 N → W p l e room_1 s m #[Value.ref b] below meth c H2 locs2 cells slots Q (F0 m 849 ls [])) : W p l e room_1 s m #[Value.ref b] below meth c H locs cells slots Q (F0 m 305 ls []) := by
  obtain ⟨C, hX, hbl, hbA, hL, ho, hq⟩ := S
  obtain ⟨hx, hb, -, hml, hown, hts, -⟩ := id C
  obtain ⟨fo, hE7⟩ := hc.obj
  have zL : LW l G tC ad N o q yX7_open wsX7_open ({ frames := 1, cells := 0, slots := 0, locals := 22 } : Room) yX8_open wsX8_open ({ frames := 1, cells := 0, slots := 0, locals := 25 } : Room) (16 * k) E x [.int (xs (5 * k + 1))] := by
    obtain ⟨s0, pa, pm, co, ck, em, ek, er, ei, el, sn, ke, ks, kp⟩ := x
    exact L_open (l := l) (tC := tC) (N := N) hq ho (by omega) hc hb0
  obtain ⟨r0, x2, h7, h8⟩ := zL
  refine lv_aload_n hx hb dL_law_305 rfl (lv_at hl 1 rfl) ?_
  refine lv_aload_n hx hb dL_law_306 rfl (lv_at hl 0 rfl) ?_
  refine lv_iload_n hx hb dL_law_307 rfl (lv_at hl 3 rfl) ?_
  refine lv_iconst (v := nI 1) hx hb dL_law_308 rfl ?_
  refine lv_iadd hx hb dL_law_309 ?_
  refine r_nat (5 * k + 1) (nI_add _ _) ?_
  refine r_scr hx hb hX hbl hbA hw.2.2 (j := 5 * k + 1) (by omega) hL dL_law_310 ?_
  refine r_vI C hw hl.1 (i := o) (by omega) hE7 (T := TX7) (n := 9) rfl [.int (xs (5 * k + 1))] 1 rfl h7 gL_law_X7_open rfl ⟨rfl, rfl⟩ (by decide +kernel) ⟨Nat.le_of_ble_eq_true rfl, Nat.le_of_ble_eq_true rfl⟩ (rest := []) rfl (Nat.le_of_ble_eq_true rfl) dL_law_311 hcs (fun r7 E7 H7 L7 zp7 zw7 => ?_)
  obtain ⟨e7, ⟨hc7, hb7⟩, hf7⟩ := zp7
  have hm7 : ML G ad E7 q x := hm.same (fun j _ _ => hf7 j (by omega))
  obtain ⟨fm, hE8⟩ := hm7.obj
  refine lv_aload_n hx hb dL_law_314 rfl (lv_at hl 2 rfl) ?_
  refine lv_aload_n hx hb dL_law_315 rfl (lv_at hl 0 rfl) ?_
  refine lv_iload_n hx hb dL_law_316 rfl (lv_at hl 3 rfl) ?_
  refine lv_iconst (v := nI 1) hx hb dL_law_317 rfl ?_
  refine lv_iadd hx hb dL_law_318 ?_
  refine r_nat (5 * k + 1) (nI_add _ _) ?_
  refine r_scr hx hb hX hbl hbA zw7.2.2 (j := 5 * k + 1) (by omega) hL dL_law_319 ?_
  refine r_vI C zw7 hl.1 (i := q) (by omega) hE8 (T := TX8) (n := 17) rfl [.int (xs (5 * k + 1))] 1 rfl (h8 E7 hm7) gL_law_X8_open rfl ⟨rfl, rfl⟩ (by decide +kernel) ⟨Nat.le_of_ble_eq_true rfl, Nat.le_of_ble_eq_true rfl⟩ (rest := [.int r7]) rfl (Nat.le_of_ble_eq_true rfl) dL_law_320 hcs (fun r8 E8 H8 L8 zp8 zw8 => ?_)
  obtain ⟨e8, hm8, hf8⟩ := zp8
  refine lv_icmp_eq (tgt := 849) hx hb dL_law_323 (by decide) (fun zh => ?_) (fun zh => absurd (e7.trans e8.symm) zh)
  exact K x2 E8 H8 L8 (hc7.same (fun j _ _ => hf8 j (by omega))) hb7 hm8 zw8
set_option maxHeartbeats 4000000 in
set_option maxRecDepth 100000 in
theorem lc_page (S : LwS p s m meth c G tC A b L xs N o q) (hk : 5 * k + 5 ≤ L) (hcs : cells ≤ room_1.cells ∧ slots ≤ room_1.slots) (hw : Wd G A s.heap H locs ad E N) (hc : CL G ad E o (16 * k) x) (hb0 : Bd (16 * k) x) (hm : ML G ad E q x) (hl : lv_has ls 4 [(0, .ref b), (1, .ref (ad o)), (2, .ref (ad q)), (3, .int (nI (5 * k)))])
    (K : ∀ (x2 : SG) (E2 : Nat → va_E) (H2 : Heap) (locs2 : List Loc), CL G ad E2 o (16 * k + 16) x2 → Bd (16 * k + 16) x2 → ML G ad E2 q x2 → Wd G A s.heap H2 locs2 ad E2 N → W p l e room_1 s m #[Value.ref b] below meth c H2 locs2 cells slots Q (F0 m 849 ls [])) : W p l e room_1 s m #[Value.ref b] below meth c H locs cells slots Q (F0 m 328 ls []) := by
  obtain ⟨C, hX, hbl, hbA, hL, ho, hq⟩ := S
  obtain ⟨hx, hb, -, hml, hown, hts, -⟩ := id C
  obtain ⟨fo, hE7⟩ := hc.obj
  have zL : LW l G tC ad N o q yX7_page wsX7_page ({ frames := 5, cells := 0, slots := 0, locals := 114 } : Room) yX8_page wsX8_page ({ frames := 4, cells := 0, slots := 0, locals := 88 } : Room) (16 * k) E x [.int (xs (5 * k + 1)), .int (xs (5 * k + 2))] := by
    obtain ⟨s0, pa, pm, co, ck, em, ek, er, ei, el, sn, ke, ks, kp⟩ := x
    exact L_page (l := l) (tC := tC) (N := N) hq ho (by omega) hc hb0
  obtain ⟨r0, x2, h7, h8⟩ := zL
  refine lv_aload_n hx hb dL_law_328 rfl (lv_at hl 1 rfl) ?_
  refine lv_aload_n hx hb dL_law_329 rfl (lv_at hl 0 rfl) ?_
  refine lv_iload_n hx hb dL_law_330 rfl (lv_at hl 3 rfl) ?_
  refine lv_iconst (v := nI 1) hx hb dL_law_331 rfl ?_
  refine lv_iadd hx hb dL_law_332 ?_
  refine r_nat (5 * k + 1) (nI_add _ _) ?_
  refine r_scr hx hb hX hbl hbA hw.2.2 (j := 5 * k + 1) (by omega) hL dL_law_333 ?_
  refine lv_aload_n hx hb dL_law_334 rfl (lv_at hl 0 rfl) ?_
  refine lv_iload_n hx hb dL_law_335 rfl (lv_at hl 3 rfl) ?_
  refine lv_iconst (v := nI 2) hx hb dL_law_336 rfl ?_
  refine lv_iadd hx hb dL_law_337 ?_
  refine r_nat (5 * k + 2) (nI_add _ _) ?_
  refine r_scr hx hb hX hbl hbA hw.2.2 (j := 5 * k + 2) (by omega) hL dL_law_338 ?_
  refine r_vI C hw hl.1 (i := o) (by omega) hE7 (T := TX7) (n := 9) rfl [.int (xs (5 * k + 1)), .int (xs (5 * k + 2))] 2 rfl h7 gL_law_X7_page rfl ⟨rfl, rfl⟩ (by decide +kernel) ⟨Nat.le_of_ble_eq_true rfl, Nat.le_of_ble_eq_true rfl⟩ (rest := []) rfl (Nat.le_of_ble_eq_true rfl) dL_law_339 hcs (fun r7 E7 H7 L7 zp7 zw7 => ?_)
  obtain ⟨e7, ⟨hc7, hb7⟩, hf7⟩ := zp7
  have hm7 : ML G ad E7 q x := hm.same (fun j _ _ => hf7 j (by omega))
  obtain ⟨fm, hE8⟩ := hm7.obj
  refine lv_aload_n hx hb dL_law_342 rfl (lv_at hl 2 rfl) ?_
  refine lv_aload_n hx hb dL_law_343 rfl (lv_at hl 0 rfl) ?_
  refine lv_iload_n hx hb dL_law_344 rfl (lv_at hl 3 rfl) ?_
  refine lv_iconst (v := nI 1) hx hb dL_law_345 rfl ?_
  refine lv_iadd hx hb dL_law_346 ?_
  refine r_nat (5 * k + 1) (nI_add _ _) ?_
  refine r_scr hx hb hX hbl hbA zw7.2.2 (j := 5 * k + 1) (by omega) hL dL_law_347 ?_
  refine lv_aload_n hx hb dL_law_348 rfl (lv_at hl 0 rfl) ?_
  refine lv_iload_n hx hb dL_law_349 rfl (lv_at hl 3 rfl) ?_
  refine lv_iconst (v := nI 2) hx hb dL_law_350 rfl ?_
  refine lv_iadd hx hb dL_law_351 ?_
  refine r_nat (5 * k + 2) (nI_add _ _) ?_
  refine r_scr hx hb hX hbl hbA zw7.2.2 (j := 5 * k + 2) (by omega) hL dL_law_352 ?_
  refine r_vI C zw7 hl.1 (i := q) (by omega) hE8 (T := TX8) (n := 17) rfl [.int (xs (5 * k + 1)), .int (xs (5 * k + 2))] 2 rfl (h8 E7 hm7) gL_law_X8_page rfl ⟨rfl, rfl⟩ (by decide +kernel) ⟨Nat.le_of_ble_eq_true rfl, Nat.le_of_ble_eq_true rfl⟩ (rest := [.int r7]) rfl (Nat.le_of_ble_eq_true rfl) dL_law_353 hcs (fun r8 E8 H8 L8 zp8 zw8 => ?_)
  obtain ⟨e8, hm8, hf8⟩ := zp8
  refine lv_icmp_eq (tgt := 849) hx hb dL_law_356 (by decide) (fun zh => ?_) (fun zh => absurd (e7.trans e8.symm) zh)
  exact K x2 E8 H8 L8 (hc7.same (fun j _ _ => hf8 j (by omega))) hb7 hm8 zw8
set_option maxHeartbeats 4000000 in
set_option maxRecDepth 100000 in
theorem lc_letter (S : LwS p s m meth c G tC A b L xs N o q) (hk : 5 * k + 5 ≤ L) (hcs : cells ≤ room_1.cells ∧ slots ≤ room_1.slots) (hw : Wd G A s.heap H locs ad E N) (hc : CL G ad E o (16 * k) x) (hb0 : Bd (16 * k) x) (hm : ML G ad E q x) (hl : lv_has ls 4 [(0, .ref b), (1, .ref (ad o)), (2, .ref (ad q)), (3, .int (nI (5 * k)))])
    (K : ∀ (x2 : SG) (E2 : Nat → va_E) (H2 : Heap) (locs2 : List Loc), CL G ad E2 o (16 * k + 16) x2 → Bd (16 * k + 16) x2 → ML G ad E2 q x2 → Wd G A s.heap H2 locs2 ad E2 N → W p l e room_1 s m #[Value.ref b] below meth c H2 locs2 cells slots Q (F0 m 849 ls [])) : W p l e room_1 s m #[Value.ref b] below meth c H locs cells slots Q (F0 m 361 ls []) := by
  obtain ⟨C, hX, hbl, hbA, hL, ho, hq⟩ := S
  obtain ⟨hx, hb, -, hml, hown, hts, -⟩ := id C
  obtain ⟨fo, hE7⟩ := hc.obj
  have zL : LW l G tC ad N o q yX7_letter wsX7_letter ({ frames := 2, cells := 0, slots := 0, locals := 46 } : Room) yX8_letter wsX8_letter ({ frames := 2, cells := 0, slots := 0, locals := 46 } : Room) (16 * k) E x [.int (xs (5 * k + 1)), .int (xs (5 * k + 2)), .int (xs (5 * k + 3))] := by
    obtain ⟨s0, pa, pm, co, ck, em, ek, er, ei, el, sn, ke, ks, kp⟩ := x
    exact L_letter (l := l) (tC := tC) (N := N) hq ho (by omega) hc hb0
  obtain ⟨r0, x2, h7, h8⟩ := zL
  refine lv_aload_n hx hb dL_law_361 rfl (lv_at hl 1 rfl) ?_
  refine lv_aload_n hx hb dL_law_362 rfl (lv_at hl 0 rfl) ?_
  refine lv_iload_n hx hb dL_law_363 rfl (lv_at hl 3 rfl) ?_
  refine lv_iconst (v := nI 1) hx hb dL_law_364 rfl ?_
  refine lv_iadd hx hb dL_law_365 ?_
  refine r_nat (5 * k + 1) (nI_add _ _) ?_
  refine r_scr hx hb hX hbl hbA hw.2.2 (j := 5 * k + 1) (by omega) hL dL_law_366 ?_
  refine lv_aload_n hx hb dL_law_367 rfl (lv_at hl 0 rfl) ?_
  refine lv_iload_n hx hb dL_law_368 rfl (lv_at hl 3 rfl) ?_
  refine lv_iconst (v := nI 2) hx hb dL_law_369 rfl ?_
  refine lv_iadd hx hb dL_law_370 ?_
  refine r_nat (5 * k + 2) (nI_add _ _) ?_
  refine r_scr hx hb hX hbl hbA hw.2.2 (j := 5 * k + 2) (by omega) hL dL_law_371 ?_
  refine lv_aload_n hx hb dL_law_372 rfl (lv_at hl 0 rfl) ?_
  refine lv_iload_n hx hb dL_law_373 rfl (lv_at hl 3 rfl) ?_
  refine lv_iconst (v := nI 3) hx hb dL_law_374 rfl ?_
  refine lv_iadd hx hb dL_law_375 ?_
  refine r_nat (5 * k + 3) (nI_add _ _) ?_
  refine r_scr hx hb hX hbl hbA hw.2.2 (j := 5 * k + 3) (by omega) hL dL_law_376 ?_
  refine r_vI C hw hl.1 (i := o) (by omega) hE7 (T := TX7) (n := 9) rfl [.int (xs (5 * k + 1)), .int (xs (5 * k + 2)), .int (xs (5 * k + 3))] 3 rfl h7 gL_law_X7_letter rfl ⟨rfl, rfl⟩ (by decide +kernel) ⟨Nat.le_of_ble_eq_true rfl, Nat.le_of_ble_eq_true rfl⟩ (rest := []) rfl (Nat.le_of_ble_eq_true rfl) dL_law_377 hcs (fun r7 E7 H7 L7 zp7 zw7 => ?_)
  obtain ⟨e7, ⟨hc7, hb7⟩, hf7⟩ := zp7
  have hm7 : ML G ad E7 q x := hm.same (fun j _ _ => hf7 j (by omega))
  obtain ⟨fm, hE8⟩ := hm7.obj
  refine lv_aload_n hx hb dL_law_380 rfl (lv_at hl 2 rfl) ?_
  refine lv_aload_n hx hb dL_law_381 rfl (lv_at hl 0 rfl) ?_
  refine lv_iload_n hx hb dL_law_382 rfl (lv_at hl 3 rfl) ?_
  refine lv_iconst (v := nI 1) hx hb dL_law_383 rfl ?_
  refine lv_iadd hx hb dL_law_384 ?_
  refine r_nat (5 * k + 1) (nI_add _ _) ?_
  refine r_scr hx hb hX hbl hbA zw7.2.2 (j := 5 * k + 1) (by omega) hL dL_law_385 ?_
  refine lv_aload_n hx hb dL_law_386 rfl (lv_at hl 0 rfl) ?_
  refine lv_iload_n hx hb dL_law_387 rfl (lv_at hl 3 rfl) ?_
  refine lv_iconst (v := nI 2) hx hb dL_law_388 rfl ?_
  refine lv_iadd hx hb dL_law_389 ?_
  refine r_nat (5 * k + 2) (nI_add _ _) ?_
  refine r_scr hx hb hX hbl hbA zw7.2.2 (j := 5 * k + 2) (by omega) hL dL_law_390 ?_
  refine lv_aload_n hx hb dL_law_391 rfl (lv_at hl 0 rfl) ?_
  refine lv_iload_n hx hb dL_law_392 rfl (lv_at hl 3 rfl) ?_
  refine lv_iconst (v := nI 3) hx hb dL_law_393 rfl ?_
  refine lv_iadd hx hb dL_law_394 ?_
  refine r_nat (5 * k + 3) (nI_add _ _) ?_
  refine r_scr hx hb hX hbl hbA zw7.2.2 (j := 5 * k + 3) (by omega) hL dL_law_395 ?_
  refine r_vI C zw7 hl.1 (i := q) (by omega) hE8 (T := TX8) (n := 17) rfl [.int (xs (5 * k + 1)), .int (xs (5 * k + 2)), .int (xs (5 * k + 3))] 3 rfl (h8 E7 hm7) gL_law_X8_letter rfl ⟨rfl, rfl⟩ (by decide +kernel) ⟨Nat.le_of_ble_eq_true rfl, Nat.le_of_ble_eq_true rfl⟩ (rest := [.int r7]) rfl (Nat.le_of_ble_eq_true rfl) dL_law_396 hcs (fun r8 E8 H8 L8 zp8 zw8 => ?_)
  obtain ⟨e8, hm8, hf8⟩ := zp8
  refine lv_icmp_eq (tgt := 849) hx hb dL_law_399 (by decide) (fun zh => ?_) (fun zh => absurd (e7.trans e8.symm) zh)
  exact K x2 E8 H8 L8 (hc7.same (fun j _ _ => hf8 j (by omega))) hb7 hm8 zw8
set_option maxHeartbeats 4000000 in
set_option maxRecDepth 100000 in
theorem lc_link (S : LwS p s m meth c G tC A b L xs N o q) (hk : 5 * k + 5 ≤ L) (hcs : cells ≤ room_1.cells ∧ slots ≤ room_1.slots) (hw : Wd G A s.heap H locs ad E N) (hc : CL G ad E o (16 * k) x) (hb0 : Bd (16 * k) x) (hm : ML G ad E q x) (hl : lv_has ls 4 [(0, .ref b), (1, .ref (ad o)), (2, .ref (ad q)), (3, .int (nI (5 * k)))])
    (K : ∀ (x2 : SG) (E2 : Nat → va_E) (H2 : Heap) (locs2 : List Loc), CL G ad E2 o (16 * k + 16) x2 → Bd (16 * k + 16) x2 → ML G ad E2 q x2 → Wd G A s.heap H2 locs2 ad E2 N → W p l e room_1 s m #[Value.ref b] below meth c H2 locs2 cells slots Q (F0 m 849 ls [])) : W p l e room_1 s m #[Value.ref b] below meth c H locs cells slots Q (F0 m 404 ls []) := by
  obtain ⟨C, hX, hbl, hbA, hL, ho, hq⟩ := S
  obtain ⟨hx, hb, -, hml, hown, hts, -⟩ := id C
  obtain ⟨fo, hE7⟩ := hc.obj
  have zL : LW l G tC ad N o q yX7_link wsX7_link ({ frames := 2, cells := 0, slots := 0, locals := 45 } : Room) yX8_link wsX8_link ({ frames := 2, cells := 0, slots := 0, locals := 46 } : Room) (16 * k) E x [.int (xs (5 * k + 1)), .int (xs (5 * k + 2))] := by
    obtain ⟨s0, pa, pm, co, ck, em, ek, er, ei, el, sn, ke, ks, kp⟩ := x
    exact L_link (l := l) (tC := tC) (N := N) hq ho (by omega) hc hb0
  obtain ⟨r0, x2, h7, h8⟩ := zL
  refine lv_aload_n hx hb dL_law_404 rfl (lv_at hl 1 rfl) ?_
  refine lv_aload_n hx hb dL_law_405 rfl (lv_at hl 0 rfl) ?_
  refine lv_iload_n hx hb dL_law_406 rfl (lv_at hl 3 rfl) ?_
  refine lv_iconst (v := nI 1) hx hb dL_law_407 rfl ?_
  refine lv_iadd hx hb dL_law_408 ?_
  refine r_nat (5 * k + 1) (nI_add _ _) ?_
  refine r_scr hx hb hX hbl hbA hw.2.2 (j := 5 * k + 1) (by omega) hL dL_law_409 ?_
  refine lv_aload_n hx hb dL_law_410 rfl (lv_at hl 0 rfl) ?_
  refine lv_iload_n hx hb dL_law_411 rfl (lv_at hl 3 rfl) ?_
  refine lv_iconst (v := nI 2) hx hb dL_law_412 rfl ?_
  refine lv_iadd hx hb dL_law_413 ?_
  refine r_nat (5 * k + 2) (nI_add _ _) ?_
  refine r_scr hx hb hX hbl hbA hw.2.2 (j := 5 * k + 2) (by omega) hL dL_law_414 ?_
  refine r_vI C hw hl.1 (i := o) (by omega) hE7 (T := TX7) (n := 9) rfl [.int (xs (5 * k + 1)), .int (xs (5 * k + 2))] 2 rfl h7 gL_law_X7_link rfl ⟨rfl, rfl⟩ (by decide +kernel) ⟨Nat.le_of_ble_eq_true rfl, Nat.le_of_ble_eq_true rfl⟩ (rest := []) rfl (Nat.le_of_ble_eq_true rfl) dL_law_415 hcs (fun r7 E7 H7 L7 zp7 zw7 => ?_)
  obtain ⟨e7, ⟨hc7, hb7⟩, hf7⟩ := zp7
  have hm7 : ML G ad E7 q x := hm.same (fun j _ _ => hf7 j (by omega))
  obtain ⟨fm, hE8⟩ := hm7.obj
  refine lv_aload_n hx hb dL_law_418 rfl (lv_at hl 2 rfl) ?_
  refine lv_aload_n hx hb dL_law_419 rfl (lv_at hl 0 rfl) ?_
  refine lv_iload_n hx hb dL_law_420 rfl (lv_at hl 3 rfl) ?_
  refine lv_iconst (v := nI 1) hx hb dL_law_421 rfl ?_
  refine lv_iadd hx hb dL_law_422 ?_
  refine r_nat (5 * k + 1) (nI_add _ _) ?_
  refine r_scr hx hb hX hbl hbA zw7.2.2 (j := 5 * k + 1) (by omega) hL dL_law_423 ?_
  refine lv_aload_n hx hb dL_law_424 rfl (lv_at hl 0 rfl) ?_
  refine lv_iload_n hx hb dL_law_425 rfl (lv_at hl 3 rfl) ?_
  refine lv_iconst (v := nI 2) hx hb dL_law_426 rfl ?_
  refine lv_iadd hx hb dL_law_427 ?_
  refine r_nat (5 * k + 2) (nI_add _ _) ?_
  refine r_scr hx hb hX hbl hbA zw7.2.2 (j := 5 * k + 2) (by omega) hL dL_law_428 ?_
  refine r_vI C zw7 hl.1 (i := q) (by omega) hE8 (T := TX8) (n := 17) rfl [.int (xs (5 * k + 1)), .int (xs (5 * k + 2))] 2 rfl (h8 E7 hm7) gL_law_X8_link rfl ⟨rfl, rfl⟩ (by decide +kernel) ⟨Nat.le_of_ble_eq_true rfl, Nat.le_of_ble_eq_true rfl⟩ (rest := [.int r7]) rfl (Nat.le_of_ble_eq_true rfl) dL_law_429 hcs (fun r8 E8 H8 L8 zp8 zw8 => ?_)
  obtain ⟨e8, hm8, hf8⟩ := zp8
  refine lv_icmp_eq (tgt := 849) hx hb dL_law_432 (by decide) (fun zh => ?_) (fun zh => absurd (e7.trans e8.symm) zh)
  exact K x2 E8 H8 L8 (hc7.same (fun j _ _ => hf8 j (by omega))) hb7 hm8 zw8
set_option maxHeartbeats 4000000 in
set_option maxRecDepth 100000 in
theorem lc_far (S : LwS p s m meth c G tC A b L xs N o q) (hk : 5 * k + 5 ≤ L) (hcs : cells ≤ room_1.cells ∧ slots ≤ room_1.slots) (hw : Wd G A s.heap H locs ad E N) (hc : CL G ad E o (16 * k) x) (hb0 : Bd (16 * k) x) (hm : ML G ad E q x) (hl : lv_has ls 4 [(0, .ref b), (1, .ref (ad o)), (2, .ref (ad q)), (3, .int (nI (5 * k)))])
    (K : ∀ (x2 : SG) (E2 : Nat → va_E) (H2 : Heap) (locs2 : List Loc), CL G ad E2 o (16 * k + 16) x2 → Bd (16 * k + 16) x2 → ML G ad E2 q x2 → Wd G A s.heap H2 locs2 ad E2 N → W p l e room_1 s m #[Value.ref b] below meth c H2 locs2 cells slots Q (F0 m 849 ls [])) : W p l e room_1 s m #[Value.ref b] below meth c H locs cells slots Q (F0 m 437 ls []) := by
  obtain ⟨C, hX, hbl, hbA, hL, ho, hq⟩ := S
  obtain ⟨hx, hb, -, hml, hown, hts, -⟩ := id C
  obtain ⟨fo, hE7⟩ := hc.obj
  have zL : LW l G tC ad N o q yX7_far wsX7_far ({ frames := 6, cells := 0, slots := 0, locals := 139 } : Room) yX8_far wsX8_far ({ frames := 3, cells := 0, slots := 0, locals := 66 } : Room) (16 * k) E x [.int (xs (5 * k + 1)), .int (xs (5 * k + 2))] := by
    obtain ⟨s0, pa, pm, co, ck, em, ek, er, ei, el, sn, ke, ks, kp⟩ := x
    exact L_far (l := l) (tC := tC) (N := N) hq ho (by omega) hc hb0
  obtain ⟨r0, x2, h7, h8⟩ := zL
  refine lv_aload_n hx hb dL_law_437 rfl (lv_at hl 1 rfl) ?_
  refine lv_aload_n hx hb dL_law_438 rfl (lv_at hl 0 rfl) ?_
  refine lv_iload_n hx hb dL_law_439 rfl (lv_at hl 3 rfl) ?_
  refine lv_iconst (v := nI 1) hx hb dL_law_440 rfl ?_
  refine lv_iadd hx hb dL_law_441 ?_
  refine r_nat (5 * k + 1) (nI_add _ _) ?_
  refine r_scr hx hb hX hbl hbA hw.2.2 (j := 5 * k + 1) (by omega) hL dL_law_442 ?_
  refine lv_aload_n hx hb dL_law_443 rfl (lv_at hl 0 rfl) ?_
  refine lv_iload_n hx hb dL_law_444 rfl (lv_at hl 3 rfl) ?_
  refine lv_iconst (v := nI 2) hx hb dL_law_445 rfl ?_
  refine lv_iadd hx hb dL_law_446 ?_
  refine r_nat (5 * k + 2) (nI_add _ _) ?_
  refine r_scr hx hb hX hbl hbA hw.2.2 (j := 5 * k + 2) (by omega) hL dL_law_447 ?_
  refine r_vI C hw hl.1 (i := o) (by omega) hE7 (T := TX7) (n := 9) rfl [.int (xs (5 * k + 1)), .int (xs (5 * k + 2))] 2 rfl h7 gL_law_X7_far rfl ⟨rfl, rfl⟩ (by decide +kernel) ⟨Nat.le_of_ble_eq_true rfl, Nat.le_of_ble_eq_true rfl⟩ (rest := []) rfl (Nat.le_of_ble_eq_true rfl) dL_law_448 hcs (fun r7 E7 H7 L7 zp7 zw7 => ?_)
  obtain ⟨e7, ⟨hc7, hb7⟩, hf7⟩ := zp7
  have hm7 : ML G ad E7 q x := hm.same (fun j _ _ => hf7 j (by omega))
  obtain ⟨fm, hE8⟩ := hm7.obj
  refine lv_aload_n hx hb dL_law_451 rfl (lv_at hl 2 rfl) ?_
  refine lv_aload_n hx hb dL_law_452 rfl (lv_at hl 0 rfl) ?_
  refine lv_iload_n hx hb dL_law_453 rfl (lv_at hl 3 rfl) ?_
  refine lv_iconst (v := nI 1) hx hb dL_law_454 rfl ?_
  refine lv_iadd hx hb dL_law_455 ?_
  refine r_nat (5 * k + 1) (nI_add _ _) ?_
  refine r_scr hx hb hX hbl hbA zw7.2.2 (j := 5 * k + 1) (by omega) hL dL_law_456 ?_
  refine lv_aload_n hx hb dL_law_457 rfl (lv_at hl 0 rfl) ?_
  refine lv_iload_n hx hb dL_law_458 rfl (lv_at hl 3 rfl) ?_
  refine lv_iconst (v := nI 2) hx hb dL_law_459 rfl ?_
  refine lv_iadd hx hb dL_law_460 ?_
  refine r_nat (5 * k + 2) (nI_add _ _) ?_
  refine r_scr hx hb hX hbl hbA zw7.2.2 (j := 5 * k + 2) (by omega) hL dL_law_461 ?_
  refine r_vI C zw7 hl.1 (i := q) (by omega) hE8 (T := TX8) (n := 17) rfl [.int (xs (5 * k + 1)), .int (xs (5 * k + 2))] 2 rfl (h8 E7 hm7) gL_law_X8_far rfl ⟨rfl, rfl⟩ (by decide +kernel) ⟨Nat.le_of_ble_eq_true rfl, Nat.le_of_ble_eq_true rfl⟩ (rest := [.int r7]) rfl (Nat.le_of_ble_eq_true rfl) dL_law_462 hcs (fun r8 E8 H8 L8 zp8 zw8 => ?_)
  obtain ⟨e8, hm8, hf8⟩ := zp8
  refine lv_icmp_eq (tgt := 849) hx hb dL_law_465 (by decide) (fun zh => ?_) (fun zh => absurd (e7.trans e8.symm) zh)
  exact K x2 E8 H8 L8 (hc7.same (fun j _ _ => hf8 j (by omega))) hb7 hm8 zw8
set_option maxHeartbeats 4000000 in
set_option maxRecDepth 100000 in
theorem lc_find (S : LwS p s m meth c G tC A b L xs N o q) (hk : 5 * k + 5 ≤ L) (hcs : cells ≤ room_1.cells ∧ slots ≤ room_1.slots) (hw : Wd G A s.heap H locs ad E N) (hc : CL G ad E o (16 * k) x) (hb0 : Bd (16 * k) x) (hm : ML G ad E q x) (hl : lv_has ls 4 [(0, .ref b), (1, .ref (ad o)), (2, .ref (ad q)), (3, .int (nI (5 * k)))])
    (K : ∀ (x2 : SG) (E2 : Nat → va_E) (H2 : Heap) (locs2 : List Loc), CL G ad E2 o (16 * k + 16) x2 → Bd (16 * k + 16) x2 → ML G ad E2 q x2 → Wd G A s.heap H2 locs2 ad E2 N → W p l e room_1 s m #[Value.ref b] below meth c H2 locs2 cells slots Q (F0 m 849 ls [])) : W p l e room_1 s m #[Value.ref b] below meth c H locs cells slots Q (F0 m 470 ls []) := by
  obtain ⟨C, hX, hbl, hbA, hL, ho, hq⟩ := S
  obtain ⟨hx, hb, -, hml, hown, hts, -⟩ := id C
  obtain ⟨fo, hE7⟩ := hc.obj
  have zL : LW l G tC ad N o q yX7_find wsX7_find ({ frames := 2, cells := 0, slots := 0, locals := 47 } : Room) yX8_find wsX8_find ({ frames := 3, cells := 0, slots := 0, locals := 66 } : Room) (16 * k) E x [.int (xs (5 * k + 1)), .int (xs (5 * k + 2)), .int (xs (5 * k + 3))] := by
    obtain ⟨s0, pa, pm, co, ck, em, ek, er, ei, el, sn, ke, ks, kp⟩ := x
    exact L_find (l := l) (tC := tC) (N := N) hq ho (by omega) hc hb0
  obtain ⟨r0, x2, h7, h8⟩ := zL
  refine lv_aload_n hx hb dL_law_470 rfl (lv_at hl 1 rfl) ?_
  refine lv_aload_n hx hb dL_law_471 rfl (lv_at hl 0 rfl) ?_
  refine lv_iload_n hx hb dL_law_472 rfl (lv_at hl 3 rfl) ?_
  refine lv_iconst (v := nI 1) hx hb dL_law_473 rfl ?_
  refine lv_iadd hx hb dL_law_474 ?_
  refine r_nat (5 * k + 1) (nI_add _ _) ?_
  refine r_scr hx hb hX hbl hbA hw.2.2 (j := 5 * k + 1) (by omega) hL dL_law_475 ?_
  refine lv_aload_n hx hb dL_law_476 rfl (lv_at hl 0 rfl) ?_
  refine lv_iload_n hx hb dL_law_477 rfl (lv_at hl 3 rfl) ?_
  refine lv_iconst (v := nI 2) hx hb dL_law_478 rfl ?_
  refine lv_iadd hx hb dL_law_479 ?_
  refine r_nat (5 * k + 2) (nI_add _ _) ?_
  refine r_scr hx hb hX hbl hbA hw.2.2 (j := 5 * k + 2) (by omega) hL dL_law_480 ?_
  refine lv_aload_n hx hb dL_law_481 rfl (lv_at hl 0 rfl) ?_
  refine lv_iload_n hx hb dL_law_482 rfl (lv_at hl 3 rfl) ?_
  refine lv_iconst (v := nI 3) hx hb dL_law_483 rfl ?_
  refine lv_iadd hx hb dL_law_484 ?_
  refine r_nat (5 * k + 3) (nI_add _ _) ?_
  refine r_scr hx hb hX hbl hbA hw.2.2 (j := 5 * k + 3) (by omega) hL dL_law_485 ?_
  refine r_vI C hw hl.1 (i := o) (by omega) hE7 (T := TX7) (n := 9) rfl [.int (xs (5 * k + 1)), .int (xs (5 * k + 2)), .int (xs (5 * k + 3))] 3 rfl h7 gL_law_X7_find rfl ⟨rfl, rfl⟩ (by decide +kernel) ⟨Nat.le_of_ble_eq_true rfl, Nat.le_of_ble_eq_true rfl⟩ (rest := []) rfl (Nat.le_of_ble_eq_true rfl) dL_law_486 hcs (fun r7 E7 H7 L7 zp7 zw7 => ?_)
  obtain ⟨e7, ⟨hc7, hb7⟩, hf7⟩ := zp7
  have hm7 : ML G ad E7 q x := hm.same (fun j _ _ => hf7 j (by omega))
  obtain ⟨fm, hE8⟩ := hm7.obj
  refine lv_aload_n hx hb dL_law_489 rfl (lv_at hl 2 rfl) ?_
  refine lv_aload_n hx hb dL_law_490 rfl (lv_at hl 0 rfl) ?_
  refine lv_iload_n hx hb dL_law_491 rfl (lv_at hl 3 rfl) ?_
  refine lv_iconst (v := nI 1) hx hb dL_law_492 rfl ?_
  refine lv_iadd hx hb dL_law_493 ?_
  refine r_nat (5 * k + 1) (nI_add _ _) ?_
  refine r_scr hx hb hX hbl hbA zw7.2.2 (j := 5 * k + 1) (by omega) hL dL_law_494 ?_
  refine lv_aload_n hx hb dL_law_495 rfl (lv_at hl 0 rfl) ?_
  refine lv_iload_n hx hb dL_law_496 rfl (lv_at hl 3 rfl) ?_
  refine lv_iconst (v := nI 2) hx hb dL_law_497 rfl ?_
  refine lv_iadd hx hb dL_law_498 ?_
  refine r_nat (5 * k + 2) (nI_add _ _) ?_
  refine r_scr hx hb hX hbl hbA zw7.2.2 (j := 5 * k + 2) (by omega) hL dL_law_499 ?_
  refine lv_aload_n hx hb dL_law_500 rfl (lv_at hl 0 rfl) ?_
  refine lv_iload_n hx hb dL_law_501 rfl (lv_at hl 3 rfl) ?_
  refine lv_iconst (v := nI 3) hx hb dL_law_502 rfl ?_
  refine lv_iadd hx hb dL_law_503 ?_
  refine r_nat (5 * k + 3) (nI_add _ _) ?_
  refine r_scr hx hb hX hbl hbA zw7.2.2 (j := 5 * k + 3) (by omega) hL dL_law_504 ?_
  refine r_vI C zw7 hl.1 (i := q) (by omega) hE8 (T := TX8) (n := 17) rfl [.int (xs (5 * k + 1)), .int (xs (5 * k + 2)), .int (xs (5 * k + 3))] 3 rfl (h8 E7 hm7) gL_law_X8_find rfl ⟨rfl, rfl⟩ (by decide +kernel) ⟨Nat.le_of_ble_eq_true rfl, Nat.le_of_ble_eq_true rfl⟩ (rest := [.int r7]) rfl (Nat.le_of_ble_eq_true rfl) dL_law_505 hcs (fun r8 E8 H8 L8 zp8 zw8 => ?_)
  obtain ⟨e8, hm8, hf8⟩ := zp8
  refine lv_icmp_eq (tgt := 849) hx hb dL_law_508 (by decide) (fun zh => ?_) (fun zh => absurd (e7.trans e8.symm) zh)
  exact K x2 E8 H8 L8 (hc7.same (fun j _ _ => hf8 j (by omega))) hb7 hm8 zw8
set_option maxHeartbeats 4000000 in
set_option maxRecDepth 100000 in
theorem lc_weight (S : LwS p s m meth c G tC A b L xs N o q) (hk : 5 * k + 5 ≤ L) (hcs : cells ≤ room_1.cells ∧ slots ≤ room_1.slots) (hw : Wd G A s.heap H locs ad E N) (hc : CL G ad E o (16 * k) x) (hb0 : Bd (16 * k) x) (hm : ML G ad E q x) (hl : lv_has ls 4 [(0, .ref b), (1, .ref (ad o)), (2, .ref (ad q)), (3, .int (nI (5 * k)))])
    (K : ∀ (x2 : SG) (E2 : Nat → va_E) (H2 : Heap) (locs2 : List Loc), CL G ad E2 o (16 * k + 16) x2 → Bd (16 * k + 16) x2 → ML G ad E2 q x2 → Wd G A s.heap H2 locs2 ad E2 N → W p l e room_1 s m #[Value.ref b] below meth c H2 locs2 cells slots Q (F0 m 849 ls [])) : W p l e room_1 s m #[Value.ref b] below meth c H locs cells slots Q (F0 m 513 ls []) := by
  obtain ⟨C, hX, hbl, hbA, hL, ho, hq⟩ := S
  obtain ⟨hx, hb, -, hml, hown, hts, -⟩ := id C
  obtain ⟨fo, hE7⟩ := hc.obj
  have zL : LW l G tC ad N o q yX7_weight wsX7_weight ({ frames := 3, cells := 0, slots := 0, locals := 82 } : Room) yX8_weight wsX8_weight ({ frames := 2, cells := 0, slots := 0, locals := 46 } : Room) (16 * k) E x [.int (xs (5 * k + 1)), .int (xs (5 * k + 2))] := by
    obtain ⟨s0, pa, pm, co, ck, em, ek, er, ei, el, sn, ke, ks, kp⟩ := x
    exact L_weight (l := l) (tC := tC) (N := N) hq ho (by omega) hc hb0
  obtain ⟨r0, x2, h7, h8⟩ := zL
  refine lv_aload_n hx hb dL_law_513 rfl (lv_at hl 1 rfl) ?_
  refine lv_aload_n hx hb dL_law_514 rfl (lv_at hl 0 rfl) ?_
  refine lv_iload_n hx hb dL_law_515 rfl (lv_at hl 3 rfl) ?_
  refine lv_iconst (v := nI 1) hx hb dL_law_516 rfl ?_
  refine lv_iadd hx hb dL_law_517 ?_
  refine r_nat (5 * k + 1) (nI_add _ _) ?_
  refine r_scr hx hb hX hbl hbA hw.2.2 (j := 5 * k + 1) (by omega) hL dL_law_518 ?_
  refine lv_aload_n hx hb dL_law_519 rfl (lv_at hl 0 rfl) ?_
  refine lv_iload_n hx hb dL_law_520 rfl (lv_at hl 3 rfl) ?_
  refine lv_iconst (v := nI 2) hx hb dL_law_521 rfl ?_
  refine lv_iadd hx hb dL_law_522 ?_
  refine r_nat (5 * k + 2) (nI_add _ _) ?_
  refine r_scr hx hb hX hbl hbA hw.2.2 (j := 5 * k + 2) (by omega) hL dL_law_523 ?_
  refine r_vI C hw hl.1 (i := o) (by omega) hE7 (T := TX7) (n := 9) rfl [.int (xs (5 * k + 1)), .int (xs (5 * k + 2))] 2 rfl h7 gL_law_X7_weight rfl ⟨rfl, rfl⟩ (by decide +kernel) ⟨Nat.le_of_ble_eq_true rfl, Nat.le_of_ble_eq_true rfl⟩ (rest := []) rfl (Nat.le_of_ble_eq_true rfl) dL_law_524 hcs (fun r7 E7 H7 L7 zp7 zw7 => ?_)
  obtain ⟨e7, ⟨hc7, hb7⟩, hf7⟩ := zp7
  have hm7 : ML G ad E7 q x := hm.same (fun j _ _ => hf7 j (by omega))
  obtain ⟨fm, hE8⟩ := hm7.obj
  refine lv_aload_n hx hb dL_law_527 rfl (lv_at hl 2 rfl) ?_
  refine lv_aload_n hx hb dL_law_528 rfl (lv_at hl 0 rfl) ?_
  refine lv_iload_n hx hb dL_law_529 rfl (lv_at hl 3 rfl) ?_
  refine lv_iconst (v := nI 1) hx hb dL_law_530 rfl ?_
  refine lv_iadd hx hb dL_law_531 ?_
  refine r_nat (5 * k + 1) (nI_add _ _) ?_
  refine r_scr hx hb hX hbl hbA zw7.2.2 (j := 5 * k + 1) (by omega) hL dL_law_532 ?_
  refine lv_aload_n hx hb dL_law_533 rfl (lv_at hl 0 rfl) ?_
  refine lv_iload_n hx hb dL_law_534 rfl (lv_at hl 3 rfl) ?_
  refine lv_iconst (v := nI 2) hx hb dL_law_535 rfl ?_
  refine lv_iadd hx hb dL_law_536 ?_
  refine r_nat (5 * k + 2) (nI_add _ _) ?_
  refine r_scr hx hb hX hbl hbA zw7.2.2 (j := 5 * k + 2) (by omega) hL dL_law_537 ?_
  refine r_vI C zw7 hl.1 (i := q) (by omega) hE8 (T := TX8) (n := 17) rfl [.int (xs (5 * k + 1)), .int (xs (5 * k + 2))] 2 rfl (h8 E7 hm7) gL_law_X8_weight rfl ⟨rfl, rfl⟩ (by decide +kernel) ⟨Nat.le_of_ble_eq_true rfl, Nat.le_of_ble_eq_true rfl⟩ (rest := [.int r7]) rfl (Nat.le_of_ble_eq_true rfl) dL_law_538 hcs (fun r8 E8 H8 L8 zp8 zw8 => ?_)
  obtain ⟨e8, hm8, hf8⟩ := zp8
  refine lv_icmp_eq (tgt := 849) hx hb dL_law_541 (by decide) (fun zh => ?_) (fun zh => absurd (e7.trans e8.symm) zh)
  exact K x2 E8 H8 L8 (hc7.same (fun j _ _ => hf8 j (by omega))) hb7 hm8 zw8
set_option maxHeartbeats 4000000 in
set_option maxRecDepth 100000 in
theorem lc_drop (S : LwS p s m meth c G tC A b L xs N o q) (hk : 5 * k + 5 ≤ L) (hcs : cells ≤ room_1.cells ∧ slots ≤ room_1.slots) (hw : Wd G A s.heap H locs ad E N) (hc : CL G ad E o (16 * k) x) (hb0 : Bd (16 * k) x) (hm : ML G ad E q x) (hl : lv_has ls 4 [(0, .ref b), (1, .ref (ad o)), (2, .ref (ad q)), (3, .int (nI (5 * k)))])
    (K : ∀ (x2 : SG) (E2 : Nat → va_E) (H2 : Heap) (locs2 : List Loc), CL G ad E2 o (16 * k + 16) x2 → Bd (16 * k + 16) x2 → ML G ad E2 q x2 → Wd G A s.heap H2 locs2 ad E2 N → W p l e room_1 s m #[Value.ref b] below meth c H2 locs2 cells slots Q (F0 m 849 ls [])) : W p l e room_1 s m #[Value.ref b] below meth c H locs cells slots Q (F0 m 546 ls []) := by
  obtain ⟨C, hX, hbl, hbA, hL, ho, hq⟩ := S
  obtain ⟨hx, hb, -, hml, hown, hts, -⟩ := id C
  obtain ⟨fo, hE7⟩ := hc.obj
  have zL : LW l G tC ad N o q yX7_drop wsX7_drop ({ frames := 3, cells := 0, slots := 0, locals := 82 } : Room) yX8_drop wsX8_drop ({ frames := 2, cells := 0, slots := 0, locals := 46 } : Room) (16 * k) E x [.int (xs (5 * k + 1))] := by
    obtain ⟨s0, pa, pm, co, ck, em, ek, er, ei, el, sn, ke, ks, kp⟩ := x
    exact L_drop (l := l) (tC := tC) (N := N) hq ho (by omega) hc hb0
  obtain ⟨r0, x2, h7, h8⟩ := zL
  refine lv_aload_n hx hb dL_law_546 rfl (lv_at hl 1 rfl) ?_
  refine lv_aload_n hx hb dL_law_547 rfl (lv_at hl 0 rfl) ?_
  refine lv_iload_n hx hb dL_law_548 rfl (lv_at hl 3 rfl) ?_
  refine lv_iconst (v := nI 1) hx hb dL_law_549 rfl ?_
  refine lv_iadd hx hb dL_law_550 ?_
  refine r_nat (5 * k + 1) (nI_add _ _) ?_
  refine r_scr hx hb hX hbl hbA hw.2.2 (j := 5 * k + 1) (by omega) hL dL_law_551 ?_
  refine r_vI C hw hl.1 (i := o) (by omega) hE7 (T := TX7) (n := 9) rfl [.int (xs (5 * k + 1))] 1 rfl h7 gL_law_X7_drop rfl ⟨rfl, rfl⟩ (by decide +kernel) ⟨Nat.le_of_ble_eq_true rfl, Nat.le_of_ble_eq_true rfl⟩ (rest := []) rfl (Nat.le_of_ble_eq_true rfl) dL_law_552 hcs (fun r7 E7 H7 L7 zp7 zw7 => ?_)
  obtain ⟨e7, ⟨hc7, hb7⟩, hf7⟩ := zp7
  have hm7 : ML G ad E7 q x := hm.same (fun j _ _ => hf7 j (by omega))
  obtain ⟨fm, hE8⟩ := hm7.obj
  refine lv_aload_n hx hb dL_law_555 rfl (lv_at hl 2 rfl) ?_
  refine lv_aload_n hx hb dL_law_556 rfl (lv_at hl 0 rfl) ?_
  refine lv_iload_n hx hb dL_law_557 rfl (lv_at hl 3 rfl) ?_
  refine lv_iconst (v := nI 1) hx hb dL_law_558 rfl ?_
  refine lv_iadd hx hb dL_law_559 ?_
  refine r_nat (5 * k + 1) (nI_add _ _) ?_
  refine r_scr hx hb hX hbl hbA zw7.2.2 (j := 5 * k + 1) (by omega) hL dL_law_560 ?_
  refine r_vI C zw7 hl.1 (i := q) (by omega) hE8 (T := TX8) (n := 17) rfl [.int (xs (5 * k + 1))] 1 rfl (h8 E7 hm7) gL_law_X8_drop rfl ⟨rfl, rfl⟩ (by decide +kernel) ⟨Nat.le_of_ble_eq_true rfl, Nat.le_of_ble_eq_true rfl⟩ (rest := [.int r7]) rfl (Nat.le_of_ble_eq_true rfl) dL_law_561 hcs (fun r8 E8 H8 L8 zp8 zw8 => ?_)
  obtain ⟨e8, hm8, hf8⟩ := zp8
  refine lv_icmp_eq (tgt := 849) hx hb dL_law_564 (by decide) (fun zh => ?_) (fun zh => absurd (e7.trans e8.symm) zh)
  exact K x2 E8 H8 L8 (hc7.same (fun j _ _ => hf8 j (by omega))) hb7 hm8 zw8
set_option maxHeartbeats 4000000 in
set_option maxRecDepth 100000 in
theorem lc_drift (S : LwS p s m meth c G tC A b L xs N o q) (hk : 5 * k + 5 ≤ L) (hcs : cells ≤ room_1.cells ∧ slots ≤ room_1.slots) (hw : Wd G A s.heap H locs ad E N) (hc : CL G ad E o (16 * k) x) (hb0 : Bd (16 * k) x) (hm : ML G ad E q x) (hl : lv_has ls 4 [(0, .ref b), (1, .ref (ad o)), (2, .ref (ad q)), (3, .int (nI (5 * k)))])
    (K : ∀ (x2 : SG) (E2 : Nat → va_E) (H2 : Heap) (locs2 : List Loc), CL G ad E2 o (16 * k + 16) x2 → Bd (16 * k + 16) x2 → ML G ad E2 q x2 → Wd G A s.heap H2 locs2 ad E2 N → W p l e room_1 s m #[Value.ref b] below meth c H2 locs2 cells slots Q (F0 m 849 ls [])) : W p l e room_1 s m #[Value.ref b] below meth c H locs cells slots Q (F0 m 569 ls []) := by
  obtain ⟨C, hX, hbl, hbA, hL, ho, hq⟩ := S
  obtain ⟨hx, hb, -, hml, hown, hts, -⟩ := id C
  obtain ⟨fo, hE7⟩ := hc.obj
  have zL : LW l G tC ad N o q yX7_drift wsX7_drift ({ frames := 7, cells := 0, slots := 0, locals := 162 } : Room) yX8_drift wsX8_drift ({ frames := 9, cells := 0, slots := 0, locals := 204 } : Room) (16 * k) E x [.int (xs (5 * k + 1))] := by
    obtain ⟨s0, pa, pm, co, ck, em, ek, er, ei, el, sn, ke, ks, kp⟩ := x
    exact L_drift (l := l) (tC := tC) (N := N) hq ho (by omega) hc hb0
  obtain ⟨r0, x2, h7, h8⟩ := zL
  refine lv_aload_n hx hb dL_law_569 rfl (lv_at hl 1 rfl) ?_
  refine lv_aload_n hx hb dL_law_570 rfl (lv_at hl 0 rfl) ?_
  refine lv_iload_n hx hb dL_law_571 rfl (lv_at hl 3 rfl) ?_
  refine lv_iconst (v := nI 1) hx hb dL_law_572 rfl ?_
  refine lv_iadd hx hb dL_law_573 ?_
  refine r_nat (5 * k + 1) (nI_add _ _) ?_
  refine r_scr hx hb hX hbl hbA hw.2.2 (j := 5 * k + 1) (by omega) hL dL_law_574 ?_
  refine r_vI C hw hl.1 (i := o) (by omega) hE7 (T := TX7) (n := 9) rfl [.int (xs (5 * k + 1))] 1 rfl h7 gL_law_X7_drift rfl ⟨rfl, rfl⟩ (by decide +kernel) ⟨Nat.le_of_ble_eq_true rfl, Nat.le_of_ble_eq_true rfl⟩ (rest := []) rfl (Nat.le_of_ble_eq_true rfl) dL_law_575 hcs (fun r7 E7 H7 L7 zp7 zw7 => ?_)
  obtain ⟨e7, ⟨hc7, hb7⟩, hf7⟩ := zp7
  have hm7 : ML G ad E7 q x := hm.same (fun j _ _ => hf7 j (by omega))
  obtain ⟨fm, hE8⟩ := hm7.obj
  refine lv_aload_n hx hb dL_law_578 rfl (lv_at hl 2 rfl) ?_
  refine lv_aload_n hx hb dL_law_579 rfl (lv_at hl 0 rfl) ?_
  refine lv_iload_n hx hb dL_law_580 rfl (lv_at hl 3 rfl) ?_
  refine lv_iconst (v := nI 1) hx hb dL_law_581 rfl ?_
  refine lv_iadd hx hb dL_law_582 ?_
  refine r_nat (5 * k + 1) (nI_add _ _) ?_
  refine r_scr hx hb hX hbl hbA zw7.2.2 (j := 5 * k + 1) (by omega) hL dL_law_583 ?_
  refine r_vI C zw7 hl.1 (i := q) (by omega) hE8 (T := TX8) (n := 17) rfl [.int (xs (5 * k + 1))] 1 rfl (h8 E7 hm7) gL_law_X8_drift rfl ⟨rfl, rfl⟩ (by decide +kernel) ⟨Nat.le_of_ble_eq_true rfl, Nat.le_of_ble_eq_true rfl⟩ (rest := [.int r7]) rfl (Nat.le_of_ble_eq_true rfl) dL_law_584 hcs (fun r8 E8 H8 L8 zp8 zw8 => ?_)
  obtain ⟨e8, hm8, hf8⟩ := zp8
  refine lv_icmp_eq (tgt := 849) hx hb dL_law_587 (by decide) (fun zh => ?_) (fun zh => absurd (e7.trans e8.symm) zh)
  exact K x2 E8 H8 L8 (hc7.same (fun j _ _ => hf8 j (by omega))) hb7 hm8 zw8
set_option maxHeartbeats 4000000 in
set_option maxRecDepth 100000 in
theorem lc_undo (S : LwS p s m meth c G tC A b L xs N o q) (hk : 5 * k + 5 ≤ L) (hcs : cells ≤ room_1.cells ∧ slots ≤ room_1.slots) (hw : Wd G A s.heap H locs ad E N) (hc : CL G ad E o (16 * k) x) (hb0 : Bd (16 * k) x) (hm : ML G ad E q x) (hl : lv_has ls 4 [(0, .ref b), (1, .ref (ad o)), (2, .ref (ad q)), (3, .int (nI (5 * k)))])
    (K : ∀ (x2 : SG) (E2 : Nat → va_E) (H2 : Heap) (locs2 : List Loc), CL G ad E2 o (16 * k + 16) x2 → Bd (16 * k + 16) x2 → ML G ad E2 q x2 → Wd G A s.heap H2 locs2 ad E2 N → W p l e room_1 s m #[Value.ref b] below meth c H2 locs2 cells slots Q (F0 m 849 ls [])) : W p l e room_1 s m #[Value.ref b] below meth c H locs cells slots Q (F0 m 592 ls []) := by
  obtain ⟨C, hX, hbl, hbA, hL, ho, hq⟩ := S
  obtain ⟨hx, hb, -, hml, hown, hts, -⟩ := id C
  obtain ⟨fo, hE7⟩ := hc.obj
  have zL : LW l G tC ad N o q yX7_undo wsX7_undo ({ frames := 3, cells := 0, slots := 0, locals := 83 } : Room) yX8_undo wsX8_undo ({ frames := 1, cells := 0, slots := 0, locals := 25 } : Room) (16 * k) E x [.int (xs (5 * k + 1))] := by
    obtain ⟨s0, pa, pm, co, ck, em, ek, er, ei, el, sn, ke, ks, kp⟩ := x
    exact L_undo (l := l) (tC := tC) (N := N) hq ho (by omega) hc hb0
  obtain ⟨r0, x2, h7, h8⟩ := zL
  refine lv_aload_n hx hb dL_law_592 rfl (lv_at hl 1 rfl) ?_
  refine lv_aload_n hx hb dL_law_593 rfl (lv_at hl 0 rfl) ?_
  refine lv_iload_n hx hb dL_law_594 rfl (lv_at hl 3 rfl) ?_
  refine lv_iconst (v := nI 1) hx hb dL_law_595 rfl ?_
  refine lv_iadd hx hb dL_law_596 ?_
  refine r_nat (5 * k + 1) (nI_add _ _) ?_
  refine r_scr hx hb hX hbl hbA hw.2.2 (j := 5 * k + 1) (by omega) hL dL_law_597 ?_
  refine r_vI C hw hl.1 (i := o) (by omega) hE7 (T := TX7) (n := 9) rfl [.int (xs (5 * k + 1))] 1 rfl h7 gL_law_X7_undo rfl ⟨rfl, rfl⟩ (by decide +kernel) ⟨Nat.le_of_ble_eq_true rfl, Nat.le_of_ble_eq_true rfl⟩ (rest := []) rfl (Nat.le_of_ble_eq_true rfl) dL_law_598 hcs (fun r7 E7 H7 L7 zp7 zw7 => ?_)
  obtain ⟨e7, ⟨hc7, hb7⟩, hf7⟩ := zp7
  have hm7 : ML G ad E7 q x := hm.same (fun j _ _ => hf7 j (by omega))
  obtain ⟨fm, hE8⟩ := hm7.obj
  refine lv_aload_n hx hb dL_law_601 rfl (lv_at hl 2 rfl) ?_
  refine lv_aload_n hx hb dL_law_602 rfl (lv_at hl 0 rfl) ?_
  refine lv_iload_n hx hb dL_law_603 rfl (lv_at hl 3 rfl) ?_
  refine lv_iconst (v := nI 1) hx hb dL_law_604 rfl ?_
  refine lv_iadd hx hb dL_law_605 ?_
  refine r_nat (5 * k + 1) (nI_add _ _) ?_
  refine r_scr hx hb hX hbl hbA zw7.2.2 (j := 5 * k + 1) (by omega) hL dL_law_606 ?_
  refine r_vI C zw7 hl.1 (i := q) (by omega) hE8 (T := TX8) (n := 17) rfl [.int (xs (5 * k + 1))] 1 rfl (h8 E7 hm7) gL_law_X8_undo rfl ⟨rfl, rfl⟩ (by decide +kernel) ⟨Nat.le_of_ble_eq_true rfl, Nat.le_of_ble_eq_true rfl⟩ (rest := [.int r7]) rfl (Nat.le_of_ble_eq_true rfl) dL_law_607 hcs (fun r8 E8 H8 L8 zp8 zw8 => ?_)
  obtain ⟨e8, hm8, hf8⟩ := zp8
  refine lv_icmp_eq (tgt := 849) hx hb dL_law_610 (by decide) (fun zh => ?_) (fun zh => absurd (e7.trans e8.symm) zh)
  exact K x2 E8 H8 L8 (hc7.same (fun j _ _ => hf8 j (by omega))) hb7 hm8 zw8
set_option maxHeartbeats 4000000 in
set_option maxRecDepth 100000 in
theorem lc_sent (S : LwS p s m meth c G tC A b L xs N o q) (hk : 5 * k + 5 ≤ L) (hcs : cells ≤ room_1.cells ∧ slots ≤ room_1.slots) (hw : Wd G A s.heap H locs ad E N) (hc : CL G ad E o (16 * k) x) (hb0 : Bd (16 * k) x) (hm : ML G ad E q x) (hl : lv_has ls 4 [(0, .ref b), (1, .ref (ad o)), (2, .ref (ad q)), (3, .int (nI (5 * k)))])
    (K : ∀ (x2 : SG) (E2 : Nat → va_E) (H2 : Heap) (locs2 : List Loc), CL G ad E2 o (16 * k + 16) x2 → Bd (16 * k + 16) x2 → ML G ad E2 q x2 → Wd G A s.heap H2 locs2 ad E2 N → W p l e room_1 s m #[Value.ref b] below meth c H2 locs2 cells slots Q (F0 m 849 ls [])) : W p l e room_1 s m #[Value.ref b] below meth c H locs cells slots Q (F0 m 615 ls []) := by
  obtain ⟨C, hX, hbl, hbA, hL, ho, hq⟩ := S
  obtain ⟨hx, hb, -, hml, hown, hts, -⟩ := id C
  obtain ⟨fo, hE7⟩ := hc.obj
  have zL : LW l G tC ad N o q yX7_sent wsX7_sent ({ frames := 6, cells := 0, slots := 0, locals := 136 } : Room) yX8_sent wsX8_sent ({ frames := 6, cells := 0, slots := 0, locals := 140 } : Room) (16 * k) E x [.int (xs (5 * k + 1)), .int (xs (5 * k + 2))] := by
    obtain ⟨s0, pa, pm, co, ck, em, ek, er, ei, el, sn, ke, ks, kp⟩ := x
    exact L_sent (l := l) (tC := tC) (N := N) hq ho (by omega) hc hb0
  obtain ⟨r0, x2, h7, h8⟩ := zL
  refine lv_aload_n hx hb dL_law_615 rfl (lv_at hl 1 rfl) ?_
  refine lv_aload_n hx hb dL_law_616 rfl (lv_at hl 0 rfl) ?_
  refine lv_iload_n hx hb dL_law_617 rfl (lv_at hl 3 rfl) ?_
  refine lv_iconst (v := nI 1) hx hb dL_law_618 rfl ?_
  refine lv_iadd hx hb dL_law_619 ?_
  refine r_nat (5 * k + 1) (nI_add _ _) ?_
  refine r_scr hx hb hX hbl hbA hw.2.2 (j := 5 * k + 1) (by omega) hL dL_law_620 ?_
  refine lv_aload_n hx hb dL_law_621 rfl (lv_at hl 0 rfl) ?_
  refine lv_iload_n hx hb dL_law_622 rfl (lv_at hl 3 rfl) ?_
  refine lv_iconst (v := nI 2) hx hb dL_law_623 rfl ?_
  refine lv_iadd hx hb dL_law_624 ?_
  refine r_nat (5 * k + 2) (nI_add _ _) ?_
  refine r_scr hx hb hX hbl hbA hw.2.2 (j := 5 * k + 2) (by omega) hL dL_law_625 ?_
  refine r_vI C hw hl.1 (i := o) (by omega) hE7 (T := TX7) (n := 9) rfl [.int (xs (5 * k + 1)), .int (xs (5 * k + 2))] 2 rfl h7 gL_law_X7_sent rfl ⟨rfl, rfl⟩ (by decide +kernel) ⟨Nat.le_of_ble_eq_true rfl, Nat.le_of_ble_eq_true rfl⟩ (rest := []) rfl (Nat.le_of_ble_eq_true rfl) dL_law_626 hcs (fun r7 E7 H7 L7 zp7 zw7 => ?_)
  obtain ⟨e7, ⟨hc7, hb7⟩, hf7⟩ := zp7
  have hm7 : ML G ad E7 q x := hm.same (fun j _ _ => hf7 j (by omega))
  obtain ⟨fm, hE8⟩ := hm7.obj
  refine lv_aload_n hx hb dL_law_629 rfl (lv_at hl 2 rfl) ?_
  refine lv_aload_n hx hb dL_law_630 rfl (lv_at hl 0 rfl) ?_
  refine lv_iload_n hx hb dL_law_631 rfl (lv_at hl 3 rfl) ?_
  refine lv_iconst (v := nI 1) hx hb dL_law_632 rfl ?_
  refine lv_iadd hx hb dL_law_633 ?_
  refine r_nat (5 * k + 1) (nI_add _ _) ?_
  refine r_scr hx hb hX hbl hbA zw7.2.2 (j := 5 * k + 1) (by omega) hL dL_law_634 ?_
  refine lv_aload_n hx hb dL_law_635 rfl (lv_at hl 0 rfl) ?_
  refine lv_iload_n hx hb dL_law_636 rfl (lv_at hl 3 rfl) ?_
  refine lv_iconst (v := nI 2) hx hb dL_law_637 rfl ?_
  refine lv_iadd hx hb dL_law_638 ?_
  refine r_nat (5 * k + 2) (nI_add _ _) ?_
  refine r_scr hx hb hX hbl hbA zw7.2.2 (j := 5 * k + 2) (by omega) hL dL_law_639 ?_
  refine r_vI C zw7 hl.1 (i := q) (by omega) hE8 (T := TX8) (n := 17) rfl [.int (xs (5 * k + 1)), .int (xs (5 * k + 2))] 2 rfl (h8 E7 hm7) gL_law_X8_sent rfl ⟨rfl, rfl⟩ (by decide +kernel) ⟨Nat.le_of_ble_eq_true rfl, Nat.le_of_ble_eq_true rfl⟩ (rest := [.int r7]) rfl (Nat.le_of_ble_eq_true rfl) dL_law_640 hcs (fun r8 E8 H8 L8 zp8 zw8 => ?_)
  obtain ⟨e8, hm8, hf8⟩ := zp8
  refine lv_icmp_eq (tgt := 849) hx hb dL_law_643 (by decide) (fun zh => ?_) (fun zh => absurd (e7.trans e8.symm) zh)
  exact K x2 E8 H8 L8 (hc7.same (fun j _ _ => hf8 j (by omega))) hb7 hm8 zw8
set_option maxHeartbeats 4000000 in
set_option maxRecDepth 100000 in
theorem lc_waits (S : LwS p s m meth c G tC A b L xs N o q) (hk : 5 * k + 5 ≤ L) (hcs : cells ≤ room_1.cells ∧ slots ≤ room_1.slots) (hw : Wd G A s.heap H locs ad E N) (hc : CL G ad E o (16 * k) x) (hb0 : Bd (16 * k) x) (hm : ML G ad E q x) (hl : lv_has ls 4 [(0, .ref b), (1, .ref (ad o)), (2, .ref (ad q)), (3, .int (nI (5 * k)))])
    (K : ∀ (x2 : SG) (E2 : Nat → va_E) (H2 : Heap) (locs2 : List Loc), CL G ad E2 o (16 * k + 16) x2 → Bd (16 * k + 16) x2 → ML G ad E2 q x2 → Wd G A s.heap H2 locs2 ad E2 N → W p l e room_1 s m #[Value.ref b] below meth c H2 locs2 cells slots Q (F0 m 849 ls [])) : W p l e room_1 s m #[Value.ref b] below meth c H locs cells slots Q (F0 m 648 ls []) := by
  obtain ⟨C, hX, hbl, hbA, hL, ho, hq⟩ := S
  obtain ⟨hx, hb, -, hml, hown, hts, -⟩ := id C
  obtain ⟨fo, hE7⟩ := hc.obj
  have zL : LW l G tC ad N o q yX7_waits wsX7_waits ({ frames := 6, cells := 0, slots := 0, locals := 136 } : Room) yX8_waits wsX8_waits ({ frames := 6, cells := 0, slots := 0, locals := 140 } : Room) (16 * k) E x [.int (xs (5 * k + 1)), .int (xs (5 * k + 2)), .int (xs (5 * k + 3))] := by
    obtain ⟨s0, pa, pm, co, ck, em, ek, er, ei, el, sn, ke, ks, kp⟩ := x
    exact L_waits (l := l) (tC := tC) (N := N) hq ho (by omega) hc hb0
  obtain ⟨r0, x2, h7, h8⟩ := zL
  refine lv_aload_n hx hb dL_law_648 rfl (lv_at hl 1 rfl) ?_
  refine lv_aload_n hx hb dL_law_649 rfl (lv_at hl 0 rfl) ?_
  refine lv_iload_n hx hb dL_law_650 rfl (lv_at hl 3 rfl) ?_
  refine lv_iconst (v := nI 1) hx hb dL_law_651 rfl ?_
  refine lv_iadd hx hb dL_law_652 ?_
  refine r_nat (5 * k + 1) (nI_add _ _) ?_
  refine r_scr hx hb hX hbl hbA hw.2.2 (j := 5 * k + 1) (by omega) hL dL_law_653 ?_
  refine lv_aload_n hx hb dL_law_654 rfl (lv_at hl 0 rfl) ?_
  refine lv_iload_n hx hb dL_law_655 rfl (lv_at hl 3 rfl) ?_
  refine lv_iconst (v := nI 2) hx hb dL_law_656 rfl ?_
  refine lv_iadd hx hb dL_law_657 ?_
  refine r_nat (5 * k + 2) (nI_add _ _) ?_
  refine r_scr hx hb hX hbl hbA hw.2.2 (j := 5 * k + 2) (by omega) hL dL_law_658 ?_
  refine lv_aload_n hx hb dL_law_659 rfl (lv_at hl 0 rfl) ?_
  refine lv_iload_n hx hb dL_law_660 rfl (lv_at hl 3 rfl) ?_
  refine lv_iconst (v := nI 3) hx hb dL_law_661 rfl ?_
  refine lv_iadd hx hb dL_law_662 ?_
  refine r_nat (5 * k + 3) (nI_add _ _) ?_
  refine r_scr hx hb hX hbl hbA hw.2.2 (j := 5 * k + 3) (by omega) hL dL_law_663 ?_
  refine r_vI C hw hl.1 (i := o) (by omega) hE7 (T := TX7) (n := 9) rfl [.int (xs (5 * k + 1)), .int (xs (5 * k + 2)), .int (xs (5 * k + 3))] 3 rfl h7 gL_law_X7_waits rfl ⟨rfl, rfl⟩ (by decide +kernel) ⟨Nat.le_of_ble_eq_true rfl, Nat.le_of_ble_eq_true rfl⟩ (rest := []) rfl (Nat.le_of_ble_eq_true rfl) dL_law_664 hcs (fun r7 E7 H7 L7 zp7 zw7 => ?_)
  obtain ⟨e7, ⟨hc7, hb7⟩, hf7⟩ := zp7
  have hm7 : ML G ad E7 q x := hm.same (fun j _ _ => hf7 j (by omega))
  obtain ⟨fm, hE8⟩ := hm7.obj
  refine lv_aload_n hx hb dL_law_667 rfl (lv_at hl 2 rfl) ?_
  refine lv_aload_n hx hb dL_law_668 rfl (lv_at hl 0 rfl) ?_
  refine lv_iload_n hx hb dL_law_669 rfl (lv_at hl 3 rfl) ?_
  refine lv_iconst (v := nI 1) hx hb dL_law_670 rfl ?_
  refine lv_iadd hx hb dL_law_671 ?_
  refine r_nat (5 * k + 1) (nI_add _ _) ?_
  refine r_scr hx hb hX hbl hbA zw7.2.2 (j := 5 * k + 1) (by omega) hL dL_law_672 ?_
  refine lv_aload_n hx hb dL_law_673 rfl (lv_at hl 0 rfl) ?_
  refine lv_iload_n hx hb dL_law_674 rfl (lv_at hl 3 rfl) ?_
  refine lv_iconst (v := nI 2) hx hb dL_law_675 rfl ?_
  refine lv_iadd hx hb dL_law_676 ?_
  refine r_nat (5 * k + 2) (nI_add _ _) ?_
  refine r_scr hx hb hX hbl hbA zw7.2.2 (j := 5 * k + 2) (by omega) hL dL_law_677 ?_
  refine lv_aload_n hx hb dL_law_678 rfl (lv_at hl 0 rfl) ?_
  refine lv_iload_n hx hb dL_law_679 rfl (lv_at hl 3 rfl) ?_
  refine lv_iconst (v := nI 3) hx hb dL_law_680 rfl ?_
  refine lv_iadd hx hb dL_law_681 ?_
  refine r_nat (5 * k + 3) (nI_add _ _) ?_
  refine r_scr hx hb hX hbl hbA zw7.2.2 (j := 5 * k + 3) (by omega) hL dL_law_682 ?_
  refine r_vI C zw7 hl.1 (i := q) (by omega) hE8 (T := TX8) (n := 17) rfl [.int (xs (5 * k + 1)), .int (xs (5 * k + 2)), .int (xs (5 * k + 3))] 3 rfl (h8 E7 hm7) gL_law_X8_waits rfl ⟨rfl, rfl⟩ (by decide +kernel) ⟨Nat.le_of_ble_eq_true rfl, Nat.le_of_ble_eq_true rfl⟩ (rest := [.int r7]) rfl (Nat.le_of_ble_eq_true rfl) dL_law_683 hcs (fun r8 E8 H8 L8 zp8 zw8 => ?_)
  obtain ⟨e8, hm8, hf8⟩ := zp8
  refine lv_icmp_eq (tgt := 849) hx hb dL_law_686 (by decide) (fun zh => ?_) (fun zh => absurd (e7.trans e8.symm) zh)
  exact K x2 E8 H8 L8 (hc7.same (fun j _ _ => hf8 j (by omega))) hb7 hm8 zw8
set_option maxHeartbeats 4000000 in
set_option maxRecDepth 100000 in
theorem lc_bestRule (S : LwS p s m meth c G tC A b L xs N o q) (hk : 5 * k + 5 ≤ L) (hcs : cells ≤ room_1.cells ∧ slots ≤ room_1.slots) (hw : Wd G A s.heap H locs ad E N) (hc : CL G ad E o (16 * k) x) (hb0 : Bd (16 * k) x) (hm : ML G ad E q x) (hl : lv_has ls 4 [(0, .ref b), (1, .ref (ad o)), (2, .ref (ad q)), (3, .int (nI (5 * k)))])
    (K : ∀ (x2 : SG) (E2 : Nat → va_E) (H2 : Heap) (locs2 : List Loc), CL G ad E2 o (16 * k + 16) x2 → Bd (16 * k + 16) x2 → ML G ad E2 q x2 → Wd G A s.heap H2 locs2 ad E2 N → W p l e room_1 s m #[Value.ref b] below meth c H2 locs2 cells slots Q (F0 m 849 ls [])) : W p l e room_1 s m #[Value.ref b] below meth c H locs cells slots Q (F0 m 691 ls []) := by
  obtain ⟨C, hX, hbl, hbA, hL, ho, hq⟩ := S
  obtain ⟨hx, hb, -, hml, hown, hts, -⟩ := id C
  obtain ⟨fo, hE7⟩ := hc.obj
  have zL : LW l G tC ad N o q yX7_bestRule wsX7_bestRule ({ frames := 6, cells := 0, slots := 0, locals := 140 } : Room) yX8_bestRule wsX8_bestRule ({ frames := 7, cells := 0, slots := 0, locals := 165 } : Room) (16 * k) E x [.int (xs (5 * k + 1))] := by
    obtain ⟨s0, pa, pm, co, ck, em, ek, er, ei, el, sn, ke, ks, kp⟩ := x
    exact L_bestRule (l := l) (tC := tC) (N := N) hq ho (by omega) hc hb0
  obtain ⟨r0, x2, h7, h8⟩ := zL
  refine lv_aload_n hx hb dL_law_691 rfl (lv_at hl 1 rfl) ?_
  refine lv_aload_n hx hb dL_law_692 rfl (lv_at hl 0 rfl) ?_
  refine lv_iload_n hx hb dL_law_693 rfl (lv_at hl 3 rfl) ?_
  refine lv_iconst (v := nI 1) hx hb dL_law_694 rfl ?_
  refine lv_iadd hx hb dL_law_695 ?_
  refine r_nat (5 * k + 1) (nI_add _ _) ?_
  refine r_scr hx hb hX hbl hbA hw.2.2 (j := 5 * k + 1) (by omega) hL dL_law_696 ?_
  refine r_vI C hw hl.1 (i := o) (by omega) hE7 (T := TX7) (n := 9) rfl [.int (xs (5 * k + 1))] 1 rfl h7 gL_law_X7_bestRule rfl ⟨rfl, rfl⟩ (by decide +kernel) ⟨Nat.le_of_ble_eq_true rfl, Nat.le_of_ble_eq_true rfl⟩ (rest := []) rfl (Nat.le_of_ble_eq_true rfl) dL_law_697 hcs (fun r7 E7 H7 L7 zp7 zw7 => ?_)
  obtain ⟨e7, ⟨hc7, hb7⟩, hf7⟩ := zp7
  have hm7 : ML G ad E7 q x := hm.same (fun j _ _ => hf7 j (by omega))
  obtain ⟨fm, hE8⟩ := hm7.obj
  refine lv_aload_n hx hb dL_law_700 rfl (lv_at hl 2 rfl) ?_
  refine lv_aload_n hx hb dL_law_701 rfl (lv_at hl 0 rfl) ?_
  refine lv_iload_n hx hb dL_law_702 rfl (lv_at hl 3 rfl) ?_
  refine lv_iconst (v := nI 1) hx hb dL_law_703 rfl ?_
  refine lv_iadd hx hb dL_law_704 ?_
  refine r_nat (5 * k + 1) (nI_add _ _) ?_
  refine r_scr hx hb hX hbl hbA zw7.2.2 (j := 5 * k + 1) (by omega) hL dL_law_705 ?_
  refine r_vI C zw7 hl.1 (i := q) (by omega) hE8 (T := TX8) (n := 17) rfl [.int (xs (5 * k + 1))] 1 rfl (h8 E7 hm7) gL_law_X8_bestRule rfl ⟨rfl, rfl⟩ (by decide +kernel) ⟨Nat.le_of_ble_eq_true rfl, Nat.le_of_ble_eq_true rfl⟩ (rest := [.int r7]) rfl (Nat.le_of_ble_eq_true rfl) dL_law_706 hcs (fun r8 E8 H8 L8 zp8 zw8 => ?_)
  obtain ⟨e8, hm8, hf8⟩ := zp8
  refine lv_icmp_eq (tgt := 849) hx hb dL_law_709 (by decide) (fun zh => ?_) (fun zh => absurd (e7.trans e8.symm) zh)
  exact K x2 E8 H8 L8 (hc7.same (fun j _ _ => hf8 j (by omega))) hb7 hm8 zw8
set_option maxHeartbeats 4000000 in
set_option maxRecDepth 100000 in
theorem lc_write (S : LwS p s m meth c G tC A b L xs N o q) (hk : 5 * k + 5 ≤ L) (hcs : cells ≤ room_1.cells ∧ slots ≤ room_1.slots) (hw : Wd G A s.heap H locs ad E N) (hc : CL G ad E o (16 * k) x) (hb0 : Bd (16 * k) x) (hm : ML G ad E q x) (hl : lv_has ls 4 [(0, .ref b), (1, .ref (ad o)), (2, .ref (ad q)), (3, .int (nI (5 * k)))])
    (K : ∀ (x2 : SG) (E2 : Nat → va_E) (H2 : Heap) (locs2 : List Loc), CL G ad E2 o (16 * k + 16) x2 → Bd (16 * k + 16) x2 → ML G ad E2 q x2 → Wd G A s.heap H2 locs2 ad E2 N → W p l e room_1 s m #[Value.ref b] below meth c H2 locs2 cells slots Q (F0 m 849 ls [])) : W p l e room_1 s m #[Value.ref b] below meth c H locs cells slots Q (F0 m 714 ls []) := by
  obtain ⟨C, hX, hbl, hbA, hL, ho, hq⟩ := S
  obtain ⟨hx, hb, -, hml, hown, hts, -⟩ := id C
  obtain ⟨fo, hE7⟩ := hc.obj
  have zL : LW l G tC ad N o q yX7_write wsX7_write ({ frames := 2, cells := 0, slots := 0, locals := 46 } : Room) yX8_write wsX8_write ({ frames := 2, cells := 0, slots := 0, locals := 46 } : Room) (16 * k) E x [.int (xs (5 * k + 1)), .int (xs (5 * k + 2)), .int (xs (5 * k + 3)), .int (xs (5 * k + 4))] := by
    obtain ⟨s0, pa, pm, co, ck, em, ek, er, ei, el, sn, ke, ks, kp⟩ := x
    exact L_write (l := l) (tC := tC) (N := N) hq ho (by omega) hc hb0
  obtain ⟨r0, x2, h7, h8⟩ := zL
  refine lv_aload_n hx hb dL_law_714 rfl (lv_at hl 1 rfl) ?_
  refine lv_aload_n hx hb dL_law_715 rfl (lv_at hl 0 rfl) ?_
  refine lv_iload_n hx hb dL_law_716 rfl (lv_at hl 3 rfl) ?_
  refine lv_iconst (v := nI 1) hx hb dL_law_717 rfl ?_
  refine lv_iadd hx hb dL_law_718 ?_
  refine r_nat (5 * k + 1) (nI_add _ _) ?_
  refine r_scr hx hb hX hbl hbA hw.2.2 (j := 5 * k + 1) (by omega) hL dL_law_719 ?_
  refine lv_aload_n hx hb dL_law_720 rfl (lv_at hl 0 rfl) ?_
  refine lv_iload_n hx hb dL_law_721 rfl (lv_at hl 3 rfl) ?_
  refine lv_iconst (v := nI 2) hx hb dL_law_722 rfl ?_
  refine lv_iadd hx hb dL_law_723 ?_
  refine r_nat (5 * k + 2) (nI_add _ _) ?_
  refine r_scr hx hb hX hbl hbA hw.2.2 (j := 5 * k + 2) (by omega) hL dL_law_724 ?_
  refine lv_aload_n hx hb dL_law_725 rfl (lv_at hl 0 rfl) ?_
  refine lv_iload_n hx hb dL_law_726 rfl (lv_at hl 3 rfl) ?_
  refine lv_iconst (v := nI 3) hx hb dL_law_727 rfl ?_
  refine lv_iadd hx hb dL_law_728 ?_
  refine r_nat (5 * k + 3) (nI_add _ _) ?_
  refine r_scr hx hb hX hbl hbA hw.2.2 (j := 5 * k + 3) (by omega) hL dL_law_729 ?_
  refine lv_aload_n hx hb dL_law_730 rfl (lv_at hl 0 rfl) ?_
  refine lv_iload_n hx hb dL_law_731 rfl (lv_at hl 3 rfl) ?_
  refine lv_iconst (v := nI 4) hx hb dL_law_732 rfl ?_
  refine lv_iadd hx hb dL_law_733 ?_
  refine r_nat (5 * k + 4) (nI_add _ _) ?_
  refine r_scr hx hb hX hbl hbA hw.2.2 (j := 5 * k + 4) (by omega) hL dL_law_734 ?_
  refine r_vI C hw hl.1 (i := o) (by omega) hE7 (T := TX7) (n := 9) rfl [.int (xs (5 * k + 1)), .int (xs (5 * k + 2)), .int (xs (5 * k + 3)), .int (xs (5 * k + 4))] 4 rfl h7 gL_law_X7_write rfl ⟨rfl, rfl⟩ (by decide +kernel) ⟨Nat.le_of_ble_eq_true rfl, Nat.le_of_ble_eq_true rfl⟩ (rest := []) rfl (Nat.le_of_ble_eq_true rfl) dL_law_735 hcs (fun r7 E7 H7 L7 zp7 zw7 => ?_)
  obtain ⟨e7, ⟨hc7, hb7⟩, hf7⟩ := zp7
  have hm7 : ML G ad E7 q x := hm.same (fun j _ _ => hf7 j (by omega))
  obtain ⟨fm, hE8⟩ := hm7.obj
  refine lv_aload_n hx hb dL_law_738 rfl (lv_at hl 2 rfl) ?_
  refine lv_aload_n hx hb dL_law_739 rfl (lv_at hl 0 rfl) ?_
  refine lv_iload_n hx hb dL_law_740 rfl (lv_at hl 3 rfl) ?_
  refine lv_iconst (v := nI 1) hx hb dL_law_741 rfl ?_
  refine lv_iadd hx hb dL_law_742 ?_
  refine r_nat (5 * k + 1) (nI_add _ _) ?_
  refine r_scr hx hb hX hbl hbA zw7.2.2 (j := 5 * k + 1) (by omega) hL dL_law_743 ?_
  refine lv_aload_n hx hb dL_law_744 rfl (lv_at hl 0 rfl) ?_
  refine lv_iload_n hx hb dL_law_745 rfl (lv_at hl 3 rfl) ?_
  refine lv_iconst (v := nI 2) hx hb dL_law_746 rfl ?_
  refine lv_iadd hx hb dL_law_747 ?_
  refine r_nat (5 * k + 2) (nI_add _ _) ?_
  refine r_scr hx hb hX hbl hbA zw7.2.2 (j := 5 * k + 2) (by omega) hL dL_law_748 ?_
  refine lv_aload_n hx hb dL_law_749 rfl (lv_at hl 0 rfl) ?_
  refine lv_iload_n hx hb dL_law_750 rfl (lv_at hl 3 rfl) ?_
  refine lv_iconst (v := nI 3) hx hb dL_law_751 rfl ?_
  refine lv_iadd hx hb dL_law_752 ?_
  refine r_nat (5 * k + 3) (nI_add _ _) ?_
  refine r_scr hx hb hX hbl hbA zw7.2.2 (j := 5 * k + 3) (by omega) hL dL_law_753 ?_
  refine lv_aload_n hx hb dL_law_754 rfl (lv_at hl 0 rfl) ?_
  refine lv_iload_n hx hb dL_law_755 rfl (lv_at hl 3 rfl) ?_
  refine lv_iconst (v := nI 4) hx hb dL_law_756 rfl ?_
  refine lv_iadd hx hb dL_law_757 ?_
  refine r_nat (5 * k + 4) (nI_add _ _) ?_
  refine r_scr hx hb hX hbl hbA zw7.2.2 (j := 5 * k + 4) (by omega) hL dL_law_758 ?_
  refine r_vI C zw7 hl.1 (i := q) (by omega) hE8 (T := TX8) (n := 17) rfl [.int (xs (5 * k + 1)), .int (xs (5 * k + 2)), .int (xs (5 * k + 3)), .int (xs (5 * k + 4))] 4 rfl (h8 E7 hm7) gL_law_X8_write rfl ⟨rfl, rfl⟩ (by decide +kernel) ⟨Nat.le_of_ble_eq_true rfl, Nat.le_of_ble_eq_true rfl⟩ (rest := [.int r7]) rfl (Nat.le_of_ble_eq_true rfl) dL_law_759 hcs (fun r8 E8 H8 L8 zp8 zw8 => ?_)
  obtain ⟨e8, hm8, hf8⟩ := zp8
  refine lv_icmp_eq (tgt := 849) hx hb dL_law_762 (by decide) (fun zh => ?_) (fun zh => absurd (e7.trans e8.symm) zh)
  exact K x2 E8 H8 L8 (hc7.same (fun j _ _ => hf8 j (by omega))) hb7 hm8 zw8
set_option maxHeartbeats 4000000 in
set_option maxRecDepth 100000 in
theorem lc_tear (S : LwS p s m meth c G tC A b L xs N o q) (hk : 5 * k + 5 ≤ L) (hcs : cells ≤ room_1.cells ∧ slots ≤ room_1.slots) (hw : Wd G A s.heap H locs ad E N) (hc : CL G ad E o (16 * k) x) (hb0 : Bd (16 * k) x) (hm : ML G ad E q x) (hl : lv_has ls 4 [(0, .ref b), (1, .ref (ad o)), (2, .ref (ad q)), (3, .int (nI (5 * k)))])
    (K : ∀ (x2 : SG) (E2 : Nat → va_E) (H2 : Heap) (locs2 : List Loc), CL G ad E2 o (16 * k + 16) x2 → Bd (16 * k + 16) x2 → ML G ad E2 q x2 → Wd G A s.heap H2 locs2 ad E2 N → W p l e room_1 s m #[Value.ref b] below meth c H2 locs2 cells slots Q (F0 m 849 ls [])) : W p l e room_1 s m #[Value.ref b] below meth c H locs cells slots Q (F0 m 767 ls []) := by
  obtain ⟨C, hX, hbl, hbA, hL, ho, hq⟩ := S
  obtain ⟨hx, hb, -, hml, hown, hts, -⟩ := id C
  obtain ⟨fo, hE7⟩ := hc.obj
  have zL : LW l G tC ad N o q yX7_tear wsX7_tear ({ frames := 0, cells := 0, slots := 0, locals := 0 } : Room) yX8_tear wsX8_tear ({ frames := 0, cells := 0, slots := 0, locals := 0 } : Room) (16 * k) E x [] := by
    obtain ⟨s0, pa, pm, co, ck, em, ek, er, ei, el, sn, ke, ks, kp⟩ := x
    exact L_tear (l := l) (tC := tC) (N := N) hq ho (by omega) hc hb0
  obtain ⟨r0, x2, h7, h8⟩ := zL
  refine lv_aload_n hx hb dL_law_767 rfl (lv_at hl 1 rfl) ?_
  refine r_vI C hw hl.1 (i := o) (by omega) hE7 (T := TX7) (n := 9) rfl [] 0 rfl h7 gL_law_X7_tear rfl ⟨rfl, rfl⟩ (by decide +kernel) ⟨Nat.le_of_ble_eq_true rfl, Nat.le_of_ble_eq_true rfl⟩ (rest := []) rfl (Nat.le_of_ble_eq_true rfl) dL_law_768 hcs (fun r7 E7 H7 L7 zp7 zw7 => ?_)
  obtain ⟨e7, ⟨hc7, hb7⟩, hf7⟩ := zp7
  have hm7 : ML G ad E7 q x := hm.same (fun j _ _ => hf7 j (by omega))
  obtain ⟨fm, hE8⟩ := hm7.obj
  refine lv_aload_n hx hb dL_law_771 rfl (lv_at hl 2 rfl) ?_
  refine r_vI C zw7 hl.1 (i := q) (by omega) hE8 (T := TX8) (n := 17) rfl [] 0 rfl (h8 E7 hm7) gL_law_X8_tear rfl ⟨rfl, rfl⟩ (by decide +kernel) ⟨Nat.le_of_ble_eq_true rfl, Nat.le_of_ble_eq_true rfl⟩ (rest := [.int r7]) rfl (Nat.le_of_ble_eq_true rfl) dL_law_772 hcs (fun r8 E8 H8 L8 zp8 zw8 => ?_)
  obtain ⟨e8, hm8, hf8⟩ := zp8
  refine lv_icmp_eq (tgt := 849) hx hb dL_law_775 (by decide) (fun zh => ?_) (fun zh => absurd (e7.trans e8.symm) zh)
  exact K x2 E8 H8 L8 (hc7.same (fun j _ _ => hf8 j (by omega))) hb7 hm8 zw8
set_option maxHeartbeats 4000000 in
set_option maxRecDepth 100000 in
theorem lc_seed (S : LwS p s m meth c G tC A b L xs N o q) (hk : 5 * k + 5 ≤ L) (hcs : cells ≤ room_1.cells ∧ slots ≤ room_1.slots) (hw : Wd G A s.heap H locs ad E N) (hc : CL G ad E o (16 * k) x) (hb0 : Bd (16 * k) x) (hm : ML G ad E q x) (hl : lv_has ls 4 [(0, .ref b), (1, .ref (ad o)), (2, .ref (ad q)), (3, .int (nI (5 * k)))])
    (K : ∀ (x2 : SG) (E2 : Nat → va_E) (H2 : Heap) (locs2 : List Loc), CL G ad E2 o (16 * k + 16) x2 → Bd (16 * k + 16) x2 → ML G ad E2 q x2 → Wd G A s.heap H2 locs2 ad E2 N → W p l e room_1 s m #[Value.ref b] below meth c H2 locs2 cells slots Q (F0 m 849 ls [])) : W p l e room_1 s m #[Value.ref b] below meth c H locs cells slots Q (F0 m 780 ls []) := by
  obtain ⟨C, hX, hbl, hbA, hL, ho, hq⟩ := S
  obtain ⟨hx, hb, -, hml, hown, hts, -⟩ := id C
  obtain ⟨fo, hE7⟩ := hc.obj
  have zL : LW l G tC ad N o q yX7_seed wsX7_seed ({ frames := 0, cells := 0, slots := 0, locals := 0 } : Room) yX8_seed wsX8_seed ({ frames := 0, cells := 0, slots := 0, locals := 0 } : Room) (16 * k) E x [.int (xs (5 * k + 1))] := by
    obtain ⟨s0, pa, pm, co, ck, em, ek, er, ei, el, sn, ke, ks, kp⟩ := x
    exact L_seed (l := l) (tC := tC) (N := N) hq ho (by omega) hc hb0
  obtain ⟨r0, x2, h7, h8⟩ := zL
  refine lv_aload_n hx hb dL_law_780 rfl (lv_at hl 1 rfl) ?_
  refine lv_aload_n hx hb dL_law_781 rfl (lv_at hl 0 rfl) ?_
  refine lv_iload_n hx hb dL_law_782 rfl (lv_at hl 3 rfl) ?_
  refine lv_iconst (v := nI 1) hx hb dL_law_783 rfl ?_
  refine lv_iadd hx hb dL_law_784 ?_
  refine r_nat (5 * k + 1) (nI_add _ _) ?_
  refine r_scr hx hb hX hbl hbA hw.2.2 (j := 5 * k + 1) (by omega) hL dL_law_785 ?_
  refine r_vI C hw hl.1 (i := o) (by omega) hE7 (T := TX7) (n := 9) rfl [.int (xs (5 * k + 1))] 1 rfl h7 gL_law_X7_seed rfl ⟨rfl, rfl⟩ (by decide +kernel) ⟨Nat.le_of_ble_eq_true rfl, Nat.le_of_ble_eq_true rfl⟩ (rest := []) rfl (Nat.le_of_ble_eq_true rfl) dL_law_786 hcs (fun r7 E7 H7 L7 zp7 zw7 => ?_)
  obtain ⟨e7, ⟨hc7, hb7⟩, hf7⟩ := zp7
  have hm7 : ML G ad E7 q x := hm.same (fun j _ _ => hf7 j (by omega))
  obtain ⟨fm, hE8⟩ := hm7.obj
  refine lv_aload_n hx hb dL_law_789 rfl (lv_at hl 2 rfl) ?_
  refine lv_aload_n hx hb dL_law_790 rfl (lv_at hl 0 rfl) ?_
  refine lv_iload_n hx hb dL_law_791 rfl (lv_at hl 3 rfl) ?_
  refine lv_iconst (v := nI 1) hx hb dL_law_792 rfl ?_
  refine lv_iadd hx hb dL_law_793 ?_
  refine r_nat (5 * k + 1) (nI_add _ _) ?_
  refine r_scr hx hb hX hbl hbA zw7.2.2 (j := 5 * k + 1) (by omega) hL dL_law_794 ?_
  refine r_vI C zw7 hl.1 (i := q) (by omega) hE8 (T := TX8) (n := 17) rfl [.int (xs (5 * k + 1))] 1 rfl (h8 E7 hm7) gL_law_X8_seed rfl ⟨rfl, rfl⟩ (by decide +kernel) ⟨Nat.le_of_ble_eq_true rfl, Nat.le_of_ble_eq_true rfl⟩ (rest := [.int r7]) rfl (Nat.le_of_ble_eq_true rfl) dL_law_795 hcs (fun r8 E8 H8 L8 zp8 zw8 => ?_)
  obtain ⟨e8, hm8, hf8⟩ := zp8
  refine lv_icmp_eq (tgt := 849) hx hb dL_law_798 (by decide) (fun zh => ?_) (fun zh => absurd (e7.trans e8.symm) zh)
  exact K x2 E8 H8 L8 (hc7.same (fun j _ _ => hf8 j (by omega))) hb7 hm8 zw8
set_option maxHeartbeats 4000000 in
set_option maxRecDepth 100000 in
theorem lc_keep (S : LwS p s m meth c G tC A b L xs N o q) (hk : 5 * k + 5 ≤ L) (hcs : cells ≤ room_1.cells ∧ slots ≤ room_1.slots) (hw : Wd G A s.heap H locs ad E N) (hc : CL G ad E o (16 * k) x) (hb0 : Bd (16 * k) x) (hm : ML G ad E q x) (hl : lv_has ls 4 [(0, .ref b), (1, .ref (ad o)), (2, .ref (ad q)), (3, .int (nI (5 * k)))])
    (K : ∀ (x2 : SG) (E2 : Nat → va_E) (H2 : Heap) (locs2 : List Loc), CL G ad E2 o (16 * k + 16) x2 → Bd (16 * k + 16) x2 → ML G ad E2 q x2 → Wd G A s.heap H2 locs2 ad E2 N → W p l e room_1 s m #[Value.ref b] below meth c H2 locs2 cells slots Q (F0 m 849 ls [])) : W p l e room_1 s m #[Value.ref b] below meth c H locs cells slots Q (F0 m 803 ls []) := by
  obtain ⟨C, hX, hbl, hbA, hL, ho, hq⟩ := S
  obtain ⟨hx, hb, -, hml, hown, hts, -⟩ := id C
  obtain ⟨fo, hE7⟩ := hc.obj
  have zL : LW l G tC ad N o q yX7_keep wsX7_keep ({ frames := 2, cells := 0, slots := 0, locals := 61 } : Room) yX8_keep wsX8_keep ({ frames := 1, cells := 0, slots := 0, locals := 25 } : Room) (16 * k) E x [.int (xs (5 * k + 1))] := by
    obtain ⟨s0, pa, pm, co, ck, em, ek, er, ei, el, sn, ke, ks, kp⟩ := x
    exact L_keep (l := l) (tC := tC) (N := N) hq ho (by omega) hc hb0
  obtain ⟨r0, x2, h7, h8⟩ := zL
  refine lv_aload_n hx hb dL_law_803 rfl (lv_at hl 1 rfl) ?_
  refine lv_aload_n hx hb dL_law_804 rfl (lv_at hl 0 rfl) ?_
  refine lv_iload_n hx hb dL_law_805 rfl (lv_at hl 3 rfl) ?_
  refine lv_iconst (v := nI 1) hx hb dL_law_806 rfl ?_
  refine lv_iadd hx hb dL_law_807 ?_
  refine r_nat (5 * k + 1) (nI_add _ _) ?_
  refine r_scr hx hb hX hbl hbA hw.2.2 (j := 5 * k + 1) (by omega) hL dL_law_808 ?_
  refine r_vI C hw hl.1 (i := o) (by omega) hE7 (T := TX7) (n := 9) rfl [.int (xs (5 * k + 1))] 1 rfl h7 gL_law_X7_keep rfl ⟨rfl, rfl⟩ (by decide +kernel) ⟨Nat.le_of_ble_eq_true rfl, Nat.le_of_ble_eq_true rfl⟩ (rest := []) rfl (Nat.le_of_ble_eq_true rfl) dL_law_809 hcs (fun r7 E7 H7 L7 zp7 zw7 => ?_)
  obtain ⟨e7, ⟨hc7, hb7⟩, hf7⟩ := zp7
  have hm7 : ML G ad E7 q x := hm.same (fun j _ _ => hf7 j (by omega))
  obtain ⟨fm, hE8⟩ := hm7.obj
  refine lv_aload_n hx hb dL_law_812 rfl (lv_at hl 2 rfl) ?_
  refine lv_aload_n hx hb dL_law_813 rfl (lv_at hl 0 rfl) ?_
  refine lv_iload_n hx hb dL_law_814 rfl (lv_at hl 3 rfl) ?_
  refine lv_iconst (v := nI 1) hx hb dL_law_815 rfl ?_
  refine lv_iadd hx hb dL_law_816 ?_
  refine r_nat (5 * k + 1) (nI_add _ _) ?_
  refine r_scr hx hb hX hbl hbA zw7.2.2 (j := 5 * k + 1) (by omega) hL dL_law_817 ?_
  refine r_vI C zw7 hl.1 (i := q) (by omega) hE8 (T := TX8) (n := 17) rfl [.int (xs (5 * k + 1))] 1 rfl (h8 E7 hm7) gL_law_X8_keep rfl ⟨rfl, rfl⟩ (by decide +kernel) ⟨Nat.le_of_ble_eq_true rfl, Nat.le_of_ble_eq_true rfl⟩ (rest := [.int r7]) rfl (Nat.le_of_ble_eq_true rfl) dL_law_818 hcs (fun r8 E8 H8 L8 zp8 zw8 => ?_)
  obtain ⟨e8, hm8, hf8⟩ := zp8
  refine lv_icmp_eq (tgt := 849) hx hb dL_law_821 (by decide) (fun zh => ?_) (fun zh => absurd (e7.trans e8.symm) zh)
  exact K x2 E8 H8 L8 (hc7.same (fun j _ _ => hf8 j (by omega))) hb7 hm8 zw8
set_option maxHeartbeats 4000000 in
set_option maxRecDepth 100000 in
theorem lc_goBack (S : LwS p s m meth c G tC A b L xs N o q) (hk : 5 * k + 5 ≤ L) (hcs : cells ≤ room_1.cells ∧ slots ≤ room_1.slots) (hw : Wd G A s.heap H locs ad E N) (hc : CL G ad E o (16 * k) x) (hb0 : Bd (16 * k) x) (hm : ML G ad E q x) (hl : lv_has ls 4 [(0, .ref b), (1, .ref (ad o)), (2, .ref (ad q)), (3, .int (nI (5 * k)))])
    (K : ∀ (x2 : SG) (E2 : Nat → va_E) (H2 : Heap) (locs2 : List Loc), CL G ad E2 o (16 * k + 16) x2 → Bd (16 * k + 16) x2 → ML G ad E2 q x2 → Wd G A s.heap H2 locs2 ad E2 N → W p l e room_1 s m #[Value.ref b] below meth c H2 locs2 cells slots Q (F0 m 849 ls [])) : W p l e room_1 s m #[Value.ref b] below meth c H locs cells slots Q (F0 m 826 ls []) := by
  obtain ⟨C, hX, hbl, hbA, hL, ho, hq⟩ := S
  obtain ⟨hx, hb, -, hml, hown, hts, -⟩ := id C
  obtain ⟨fo, hE7⟩ := hc.obj
  have zL : LW l G tC ad N o q yX7_goBack wsX7_goBack ({ frames := 2, cells := 0, slots := 0, locals := 61 } : Room) yX8_goBack wsX8_goBack ({ frames := 1, cells := 0, slots := 0, locals := 25 } : Room) (16 * k) E x [.int (xs (5 * k + 1))] := by
    obtain ⟨s0, pa, pm, co, ck, em, ek, er, ei, el, sn, ke, ks, kp⟩ := x
    exact L_goBack (l := l) (tC := tC) (N := N) hq ho (by omega) hc hb0
  obtain ⟨r0, x2, h7, h8⟩ := zL
  refine lv_aload_n hx hb dL_law_826 rfl (lv_at hl 1 rfl) ?_
  refine lv_aload_n hx hb dL_law_827 rfl (lv_at hl 0 rfl) ?_
  refine lv_iload_n hx hb dL_law_828 rfl (lv_at hl 3 rfl) ?_
  refine lv_iconst (v := nI 1) hx hb dL_law_829 rfl ?_
  refine lv_iadd hx hb dL_law_830 ?_
  refine r_nat (5 * k + 1) (nI_add _ _) ?_
  refine r_scr hx hb hX hbl hbA hw.2.2 (j := 5 * k + 1) (by omega) hL dL_law_831 ?_
  refine r_vI C hw hl.1 (i := o) (by omega) hE7 (T := TX7) (n := 9) rfl [.int (xs (5 * k + 1))] 1 rfl h7 gL_law_X7_goBack rfl ⟨rfl, rfl⟩ (by decide +kernel) ⟨Nat.le_of_ble_eq_true rfl, Nat.le_of_ble_eq_true rfl⟩ (rest := []) rfl (Nat.le_of_ble_eq_true rfl) dL_law_832 hcs (fun r7 E7 H7 L7 zp7 zw7 => ?_)
  obtain ⟨e7, ⟨hc7, hb7⟩, hf7⟩ := zp7
  have hm7 : ML G ad E7 q x := hm.same (fun j _ _ => hf7 j (by omega))
  obtain ⟨fm, hE8⟩ := hm7.obj
  refine lv_aload_n hx hb dL_law_835 rfl (lv_at hl 2 rfl) ?_
  refine lv_aload_n hx hb dL_law_836 rfl (lv_at hl 0 rfl) ?_
  refine lv_iload_n hx hb dL_law_837 rfl (lv_at hl 3 rfl) ?_
  refine lv_iconst (v := nI 1) hx hb dL_law_838 rfl ?_
  refine lv_iadd hx hb dL_law_839 ?_
  refine r_nat (5 * k + 1) (nI_add _ _) ?_
  refine r_scr hx hb hX hbl hbA zw7.2.2 (j := 5 * k + 1) (by omega) hL dL_law_840 ?_
  refine r_vI C zw7 hl.1 (i := q) (by omega) hE8 (T := TX8) (n := 17) rfl [.int (xs (5 * k + 1))] 1 rfl (h8 E7 hm7) gL_law_X8_goBack rfl ⟨rfl, rfl⟩ (by decide +kernel) ⟨Nat.le_of_ble_eq_true rfl, Nat.le_of_ble_eq_true rfl⟩ (rest := [.int r7]) rfl (Nat.le_of_ble_eq_true rfl) dL_law_841 hcs (fun r8 E8 H8 L8 zp8 zw8 => ?_)
  obtain ⟨e8, hm8, hf8⟩ := zp8
  refine lv_icmp_eq (tgt := 849) hx hb dL_law_844 (by decide) (fun zh => ?_) (fun zh => absurd (e7.trans e8.symm) zh)
  exact K x2 E8 H8 L8 (hc7.same (fun j _ _ => hf8 j (by omega))) hb7 hm8 zw8
end P78
