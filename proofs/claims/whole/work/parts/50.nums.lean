/-! numbers: Int32 and Int64 by their values -/
theorem i_rng (a : Int32) : -2147483648 ≤ a.toInt ∧ a.toInt < 2147483648 := ⟨Int32.le_toInt a, Int32.toInt_lt a⟩
theorem i_add {a b : Int32} (h1 : -2147483648 ≤ a.toInt + b.toInt) (h2 : a.toInt + b.toInt < 2147483648) : (a + b).toInt = a.toInt + b.toInt := by
  rw [Int32.toInt_add]; exact Int.bmod_eq_of_le (by omega) (by omega)
theorem i_sub {a b : Int32} (h1 : -2147483648 ≤ a.toInt - b.toInt) (h2 : a.toInt - b.toInt < 2147483648) : (a - b).toInt = a.toInt - b.toInt := by
  rw [Int32.toInt_sub]; exact Int.bmod_eq_of_le (by omega) (by omega)
theorem i_mul {a b : Int32} (h1 : -2147483648 ≤ a.toInt * b.toInt) (h2 : a.toInt * b.toInt < 2147483648) : (a * b).toInt = a.toInt * b.toInt := by
  rw [Int32.toInt_mul]; exact Int.bmod_eq_of_le (by omega) (by omega)
theorem i_neg {a : Int32} (h1 : -2147483648 < a.toInt) : (-a).toInt = -a.toInt := by
  have := i_rng a
  rw [Int32.toInt_neg]; exact Int.bmod_eq_of_le (by omega) (by omega)
theorem i_lt {a b : Int32} : a < b ↔ a.toInt < b.toInt := Int32.lt_iff_toInt_lt
theorem i_le {a b : Int32} : a ≤ b ↔ a.toInt ≤ b.toInt := Int32.le_iff_toInt_le
theorem i_eq {a b : Int32} : a = b ↔ a.toInt = b.toInt := Int32.toInt_inj.symm
theorem i_cl (a : Int32) : a.toNatClampNeg = a.toInt.toNat := (Int32.toNat_toInt a).symm
theorem i_in {a : Int32} {N : Nat} (h1 : 0 ≤ a.toInt) (h2 : a.toInt < N) : ¬ (a < 0 ∨ N ≤ a.toNatClampNeg) := by
  rw [i_lt, i_cl]
  have : (0 : Int32).toInt = 0 := rfl
  omega
theorem i_of (z : Int) (h1 : -2147483648 ≤ z) (h2 : z < 2147483648) : (Int32.ofInt z).toInt = z := Int32.toInt_ofInt_of_le h1 h2
theorem i_div {a b : Int32} (hb : 0 < b.toInt) : (a / b).toInt = a.toInt.tdiv b.toInt := by
  refine Int32.toInt_div_of_ne_right a b ?_
  intro e
  have h := i_eq.mp e
  have : (-1 : Int32).toInt = -1 := rfl
  omega
theorem l_rng (a : Int64) : -9223372036854775808 ≤ a.toInt ∧ a.toInt < 9223372036854775808 := ⟨Int64.le_toInt a, Int64.toInt_lt a⟩
theorem l_add {a b : Int64} (h1 : -9223372036854775808 ≤ a.toInt + b.toInt) (h2 : a.toInt + b.toInt < 9223372036854775808) : (a + b).toInt = a.toInt + b.toInt := by
  rw [Int64.toInt_add]; exact Int.bmod_eq_of_le (by omega) (by omega)
theorem l_sub {a b : Int64} (h1 : -9223372036854775808 ≤ a.toInt - b.toInt) (h2 : a.toInt - b.toInt < 9223372036854775808) : (a - b).toInt = a.toInt - b.toInt := by
  rw [Int64.toInt_sub]; exact Int.bmod_eq_of_le (by omega) (by omega)
theorem l_mul {a b : Int64} (h1 : -9223372036854775808 ≤ a.toInt * b.toInt) (h2 : a.toInt * b.toInt < 9223372036854775808) : (a * b).toInt = a.toInt * b.toInt := by
  rw [Int64.toInt_mul]; exact Int.bmod_eq_of_le (by omega) (by omega)
theorem l_lt {a b : Int64} : a < b ↔ a.toInt < b.toInt := Int64.lt_iff_toInt_lt
theorem l_le {a b : Int64} : a ≤ b ↔ a.toInt ≤ b.toInt := Int64.le_iff_toInt_le
theorem l_eq {a b : Int64} : a = b ↔ a.toInt = b.toInt := Int64.toInt_inj.symm
theorem l_N {n : Nat} (h : n < 9223372036854775808) : (lN n).toInt = (n : Int) := pk_lT h
theorem l_i {a : Int32} : (Int32.toInt64 a).toInt = a.toInt := Int32.toInt_toInt64 a
theorem l_div {a b : Int64} (hb : 0 < b.toInt) : (a / b).toInt = a.toInt.tdiv b.toInt := by
  refine Int64.toInt_div_of_ne_right a b ?_
  intro e
  have h := l_eq.mp e
  have : (-1 : Int64).toInt = -1 := rfl
  omega
theorem l_lN {a : Int64} {n : Nat} (hn : n < 9223372036854775808) (h : a.toInt = (n : Int)) : a = lN n := l_eq.mpr (by rw [h, l_N hn])
/-- long compares -/
theorem cmp_le {x y : Int64} : lg_cmp x y ≤ 0 ↔ x.toInt ≤ y.toInt := by
  unfold lg_cmp
  have h0 : (0 : Int32).toInt = 0 := rfl
  have h1 : (1 : Int32).toInt = 1 := rfl
  have h2 : (-1 : Int32).toInt = -1 := rfl
  split
  · rename_i h; rw [gt_iff_lt, l_lt] at h; rw [i_le, h0, h1]; omega
  · rename_i h
    rw [gt_iff_lt, l_lt] at h
    split
    · rename_i h3; rw [i_le, h0]; subst h3; omega
    · rw [i_le, h0, h2]; omega
theorem cmp_ge {x y : Int64} : 0 ≤ lg_cmp x y ↔ y.toInt ≤ x.toInt := by
  unfold lg_cmp
  have h0 : (0 : Int32).toInt = 0 := rfl
  have h1 : (1 : Int32).toInt = 1 := rfl
  have h2 : (-1 : Int32).toInt = -1 := rfl
  split
  · rename_i h; rw [gt_iff_lt, l_lt] at h; rw [i_le, h0, h1]; omega
  · rename_i h
    rw [gt_iff_lt, l_lt] at h
    split
    · rename_i h3; rw [i_le, h0]; subst h3; omega
    · rename_i h3; rw [l_eq] at h3; rw [i_le, h0, h2]; omega
theorem cmp_eq {x y : Int64} : lg_cmp x y = 0 ↔ x = y := by
  rw [l_eq, i_eq]
  have h1 := cmp_le (x := x) (y := y)
  have h2 := cmp_ge (x := x) (y := y)
  rw [i_le] at h1 h2
  have h0 : (0 : Int32).toInt = 0 := rfl
  rw [h0] at h1 h2 ⊢
  omega
theorem upL_self {f : Nat → Int64} {k : Nat} {x : Int64} : vp_updL f k x k = x := pk_uLs
theorem upL_ne {f : Nat → Int64} {k j : Nat} {x : Int64} (h : j ≠ k) : vp_updL f k x j = f j := pk_uLn h
