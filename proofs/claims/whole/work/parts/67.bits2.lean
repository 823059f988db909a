/-! the fields of a number, on the machine -/
theorem and_be (w : Nat) : w &&& 9218868437227405312 = w / 4503599627370496 % 2048 * 4503599627370496 := by
  apply Nat.eq_of_testBit_eq
  intro i
  rw [Nat.testBit_and, show (9218868437227405312 : Nat) = (2 ^ 11 - 1) * 2 ^ 52 from rfl, show (4503599627370496 : Nat) = 2 ^ 52 from rfl, show (2048 : Nat) = 2 ^ 11 from rfl, Nat.testBit_mul_two_pow, Nat.testBit_mul_two_pow, Nat.testBit_two_pow_sub_one, Nat.testBit_mod_two_pow, Nat.testBit_div_two_pow]
  by_cases c : 52 ≤ i
  · rw [show i - 52 + 52 = i by omega]
    simp [c]
    rw [Bool.and_comm]
  · simp [c]
theorem or_52 {x : Nat} (h : x < 4503599627370496) : x ||| 4503599627370496 = 4503599627370496 + x := by
  have := Nat.two_pow_add_eq_or_of_lt (i := 52) (b := x) h 1
  rw [Nat.mul_one] at this
  rw [Nat.or_comm]
  exact this.symm
theorem shr52 {n : Nat} (hn : n < 2 ^ 64) : ((Int64.toUInt64 (lN n)) >>> (Int64.toUInt64 (Int32.toInt64 52) &&& Int64.toUInt64 63)).toInt64 = lN (n / 4503599627370496) := wb_shr (k := 52) hn (by decide)
theorem cmp0 {n : Nat} (h : n < 2 ^ 63) : lg_cmp (lN n) 0 = 0 ↔ n = 0 := by
  rw [cmp_eq]
  exact pk_lEQ (b := 0) h (by decide)
theorem and_52 {n : Nat} (hn : n < 2 ^ 64) : lN n &&& 4503599627370495 = lN (n % 4503599627370496) := wb_mask (k := 52) hn (by decide)
theorem and_63 {n : Nat} (hn : n < 2 ^ 64) : lN n &&& 9223372036854775807 = lN (n % 9223372036854775808) := wb_mask (k := 63) hn (by decide)
theorem and_bel {n : Nat} (hn : n < 2 ^ 64) : lN n &&& 9218868437227405312 = lN (n / 4503599627370496 % 2048 * 4503599627370496) := by
  rw [← and_be]
  exact wb_and (b := 9218868437227405312) hn (by decide)
theorem MA_lt (a : Nat) : MA a < 9007199254740992 := by
  unfold MA
  split <;> omega
theorem whole2_ok {a : Nat} (h : a < 2 ^ 63) : f_X2_whole (lN a) = some (lN (MA a)) := by
  unfold f_X2_whole MA
  rw [shr52 (by omega)]
  have hc := cmp0 (n := a / 4503599627370496) (by omega)
  by_cases c : a / 4503599627370496 = 0
  · rw [if_pos (hc.mpr c), if_pos c]
  · have ho : lN (a % 4503599627370496) ||| 4503599627370496 = lN (4503599627370496 + a % 4503599627370496) := by
      rw [← or_52 (by omega)]
      exact wb_or (b := 4503599627370496) (by omega) (by decide)
    rw [if_neg (fun g => c (hc.mp g)), if_neg c, and_52 (by omega), ho]
theorem two_ok {a : Nat} (h : a < 2 ^ 63) : ∃ q, f_X2_two (lN a) = some q ∧ q.toInt = PQ a := by
  unfold f_X2_two PQ SS
  rw [shr52 (by omega)]
  have hc := cmp0 (n := a / 4503599627370496) (by omega)
  by_cases c : a / 4503599627370496 = 0
  · rw [if_pos (hc.mpr c), if_pos c]
    exact ⟨_, rfl, rfl⟩
  · rw [if_neg (fun g => c (hc.mp g)), if_neg c, lN_i]
    refine ⟨_, rfl, ?_⟩
    have e : (1075 : Int32).toInt = 1075 := rfl
    rw [i_sub (by rw [nI_toInt (by omega), e]; omega) (by rw [nI_toInt (by omega), e]; omega), nI_toInt (by omega), e]
    omega
theorem isNone_ok {w : Nat} (h : w < 2 ^ 64) : f_X1_isNone (lN w) = some (if w / 4503599627370496 % 2048 = 2047 then 1 else 0) := by
  unfold f_X1_isNone
  rw [and_bel h]
  have hc : lg_cmp (lN (w / 4503599627370496 % 2048 * 4503599627370496)) 9218868437227405312 = 0 ↔ w / 4503599627370496 % 2048 = 2047 := by
    rw [cmp_eq]
    have := pk_lEQ (a := w / 4503599627370496 % 2048 * 4503599627370496) (b := 9218868437227405312) (by omega) (by decide)
    exact this.trans (by omega)
  by_cases c : w / 4503599627370496 % 2048 = 2047
  · rw [if_pos (hc.mpr c), if_pos c]
  · rw [if_neg (fun g => c (hc.mp g)), if_neg c]
theorem mantissa_ok {w : Nat} (h : w < 2 ^ 64) : f_X1_mantissaOf (lN w) = some (lN (MA (w % 9223372036854775808))) := by
  unfold f_X1_mantissaOf MA
  rw [and_bel h, and_52 h]
  have hc := cmp0 (n := w / 4503599627370496 % 2048 * 4503599627370496) (by omega)
  by_cases c : w % 9223372036854775808 / 4503599627370496 = 0
  · rw [if_pos (hc.mpr (by omega)), if_pos c]
    congr 2
    omega
  · have e : (4503599627370496 : Int64) = lN 4503599627370496 := rfl
    rw [if_neg (fun g => c (by have := hc.mp g; omega)), if_neg c, e, lN_add]
    congr 2
    omega
theorem power_ok {w : Nat} (h : w < 2 ^ 64) : ∃ q, f_X1_powerOf (lN w) = some q ∧ q.toInt = PQ (w % 9223372036854775808) := by
  unfold f_X1_powerOf PQ SS
  rw [and_bel h, shr52 (by omega), lN_i, Nat.mul_div_cancel _ (by decide)]
  refine ⟨_, rfl, ?_⟩
  have e1074 : (-1074 : Int32).toInt = -1074 := rfl
  have ht : (nI (w / 4503599627370496 % 2048)).toInt = ((w / 4503599627370496 % 2048 : Nat) : Int) := nI_toInt (by omega)
  have hi : (if nI (w / 4503599627370496 % 2048) < 1 then (1 : Int32) else nI (w / 4503599627370496 % 2048)).toInt = if w % 9223372036854775808 / 4503599627370496 = 0 then 1 else ((w % 9223372036854775808 / 4503599627370496 : Nat) : Int) := by
    by_cases c : nI (w / 4503599627370496 % 2048) < 1
    · rw [if_pos c]
      rw [i_lt, ht, lit_1] at c
      rw [if_pos (by omega)]
      rfl
    · rw [if_neg c]
      rw [i_lt, ht, lit_1] at c
      rw [if_neg (by omega), ht]
      congr 1
      omega
  generalize (if nI (w / 4503599627370496 % 2048) < 1 then (1 : Int32) else nI (w / 4503599627370496 % 2048)) = x at *
  have hx : 1 ≤ x.toInt ∧ x.toInt ≤ 2048 := by
    rw [hi]
    split <;> omega
  rw [i_add (by rw [i_s1 (by omega), e1074]; omega) (by rw [i_s1 (by omega), e1074]; omega), i_s1 (by omega), e1074, hi]
  split <;> omega
theorem rowOf_ok {l1 : Int64} {l3 us : Int32} {d n pw : Nat → Int32} {f : Nat → Int64} {r a : Nat} (h1 : l1 = lN a) (ha : a < 2 ^ 63) (h2 : l3 = nI r) (h3 : r ≤ 5600) (h4 : a < BE) :
    RO r (MA a) (PQ a) d n pw (f_X2_rowOf l1 l3 us d n pw f) := by
  unfold f_X2_rowOf
  obtain ⟨q, e1, e2⟩ := two_ok ha
  have hq : PQ a = (SS a : Int) - 1074 := rfl
  have hs : SS a ≤ 2045 := by
    unfold SS
    unfold BE at h4
    split <;> omega
  have hm := MA_lt a
  have h := row_ok (l1 := lN (MA a)) (l3 := q) (l4 := l3) (us := us) (d := d) (n := n) (pw := pw) (f := f) (r := r) (c := MA a) rfl (by omega) h2 h3 (by rw [e2, hq]; omega) (by rw [e2, hq]; omega)
  rw [h1, whole2_ok ha, Option.bind_some, e1, Option.bind_some]
  rw [e2] at h
  obtain ⟨us', d', n', pw', f', E, m, P, g1, g2⟩ := h
  exact ⟨us', d', n', pw', f', E, m, P, by rw [g1, Option.bind_some], g2⟩
