/-! FOR THE CALLS OF THE CLASS. -/
theorem sh_cnt : ∀ k, k < 64 → (nI k).toInt64.toUInt64 &&& Int64.toUInt64 63 = UInt64.ofNat k := by decide +kernel
theorem lN_shr {e k : Nat} (he : e < 9223372036854775808) (hk : k < 64) : ((lN e).toUInt64 >>> ((nI k).toInt64.toUInt64 &&& Int64.toUInt64 63)).toInt64 = lN (e / 2 ^ k) := by
  rw [sh_cnt k hk]
  have h2 : e / 2 ^ k < 9223372036854775808 := Nat.lt_of_le_of_lt (Nat.div_le_self _ _) he
  have hu : ∀ n, n < 9223372036854775808 → ((lN n).toUInt64).toNat = n := fun n hn => by
    show (UInt64.ofNat n).toNat = n
    rw [UInt64.toNat_ofNat']
    exact Nat.mod_eq_of_lt (by omega)
  have : (lN e).toUInt64 >>> UInt64.ofNat k = (lN (e / 2 ^ k)).toUInt64 := by
    apply UInt64.toNat_inj.mp
    rw [UInt64.toNat_shiftRight, hu e he, hu _ h2, UInt64.toNat_ofNat', Nat.shiftRight_eq_div_pow, Nat.mod_eq_of_lt (show k % 2 ^ 64 < 64 by omega), Nat.mod_eq_of_lt (show k < 2 ^ 64 by omega)]
  rw [this]
  exact Int64.toInt64_toUInt64 _
theorem nI_and15 (a : Nat) : nI a &&& nI 15 = nI (a % 16) := by
  apply Int32.toBitVec_inj.mp
  rw [Int32.toBitVec_and]
  show BitVec.ofNat 32 a &&& BitVec.ofNat 32 15 = BitVec.ofNat 32 (a % 16)
  apply BitVec.eq_of_toNat_eq
  rw [BitVec.toNat_and, BitVec.toNat_ofNat, BitVec.toNat_ofNat, BitVec.toNat_ofNat]
  rw [show 15 % 2 ^ 32 = 2 ^ 4 - 1 by decide, Nat.and_two_pow_sub_one_eq_mod]
  omega
theorem pow_16 (k : Nat) : 2 ^ (4 * k) = 16 ^ k := by rw [Nat.pow_mul]
theorem ck_upd {cg : Nat → Int32} {ck : Nat → Nat} {v : Nat} (hv : v < 256) (h : ∀ j, j < 9 → cg j = nI (ck j) ∧ ck j < 256) : ∀ j, j < 10 → upd cg 9 (nI v) j = nI (ckV ck v j) ∧ ckV ck v j < 256 := by
  intro j hj
  by_cases q : j = 9
  · subst q; rw [upd_s, ckV, if_pos rfl]; exact ⟨rfl, hv⟩
  · rw [upd_n _ _ q, ckV, if_neg q]; exact h j (by omega)
theorem told_k {s : Nat → Int32} {pg co em pm k : Nat} {ek er ei el : Nat → Nat} (hk : k ≤ 7) : a_told s pg co em pm ek er ei el (nI k) = if k < 4 then s k else if k = 4 then nI co else if k = 5 then nI em else if k = 6 then wrgI s pg em ek er ei el else nI pm := by
  rw [a_told, if_pos (in_nI hk (by omega)), nI_clamp (by omega)]
theorem page_k {s : Nat → Int32} {pg k w : Nat} (hk : k < pg) (hp : pg ≤ 10) (hw : w ≤ 8) : a_page s pg (nI k) (nI w) = if w < 5 then s (8 + 50 * k + w) else if w = 5 then nI (lenN (lkL s k) (ltF s k)) else if w = 6 then nI (lacN (ltF s k)) else if w = 7 then nI (surN (ltF s k) 40) else lkd s k pg := by
  rw [a_page, if_pos (has_nI hk (by omega)), if_pos (in_nI hw (by omega)), nI_clamp (by omega), nI_clamp (by omega)]
theorem sw_out {x : Int32} {b : Nat} (hb : b < 2147483648) (h : x.toInt < 0 ∨ (b : Int) < x.toInt) : ¬ (nI 0 ≤ x ∧ x ≤ nI b) := by
  rintro ⟨p, q⟩
  rw [Int32.le_iff_toInt_le, nI_toInt (by omega)] at p q
  omega
theorem rep_pgS {s cs op : Nat → Int32} {pg cm hd : Nat} {lst md : Int32} {T : Nat} (h : RepS s cs op pg cm hd lst md T) : pgS s = pg := by
  unfold pgS
  rw [h.1.1, nI_clamp (by have := h.1.2.1; omega)]
theorem kp0 {b kd e : Nat} {pt : Nat → Int32} : ∀ x, x < 2 → upd (upd pt 0 (nI (codeN b))) 1 (nI (codeN kd)) x = nI (kpk b kd e x) := fun x hx => kp_init x (by omega) (Or.inl hx)
theorem kp1 {b kd e j : Nat} {g : Nat → Int32} (h2 : 2 ≤ j) (h : ∀ x, x < j → g x = nI (kpk b kd e x)) : ∀ x, x < j + 1 → upd g j (nI (laidN kd (e / 16 ^ (9 - j) % 16))) x = nI (kpk b kd e x) := by
  intro x hx
  by_cases c : x = j
  · rw [c, upd_s, kpk, if_neg (by omega), if_neg (by omega)]
  · rw [upd_n _ _ c]; exact h x (by omega)
