/-! PURE WORDS: longs of the draws; what the calls that change something leave. -/
theorem lcg_L {sd : Nat} (h : sd < 2147483648) : lN (sd * 1103515245 + 12345) - lN (sd * 1103515245 + 12345) / 2147483648 * 2147483648 = lN (lcg sd) := by
  have z := pk_lRem (a := sd * 1103515245 + 12345) (b := 2147483648) (by omega) (by omega) (by omega)
  exact z
theorem lcg_D (sd : Nat) : lN (lcg sd) / 65536 = lN (lcg sd / 65536) := by
  have h := lcg_lt sd
  have z := pk_lDiv (a := lcg sd) (b := 65536) (by omega) (by omega) (by omega)
  exact z
theorem lcg_R (sd : Nat) {n : Nat} (h0 : 0 < n) (h : n < 2147483648) : lN (lcg sd / 65536) - lN (lcg sd / 65536) / lN n * lN n = lN (lcg sd / 65536 % n) := by
  have h2 := lcg_lt sd
  exact pk_lRem (by omega) h0 (by omega)
theorem lN_ne0 {n : Nat} (h0 : 0 < n) (h : n < 2147483648) : ¬ lN n = 0 := by
  intro q
  have z := (pk_lEQ (a := n) (b := 0) (by omega) (by omega)).mp q
  omega
