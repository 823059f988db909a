/-! a mantissa and a power joined are the nearest number -/
theorem rnd_hi {N U : Nat} (hU : 0 < U) : 2 * N < (2 * rnd N U + 1) * U ∨ (2 * N = (2 * rnd N U + 1) * U ∧ rnd N U % 2 = 0) := by
  have h1 := Nat.div_add_mod N U
  have h2 := Nat.mod_lt N hU
  by_cases c : RC N U
  · left
    rw [rnd_yes c, Nat.add_mul, Nat.mul_assoc, Nat.add_mul, Nat.one_mul, Nat.mul_comm (N / U)]
    omega
  · rw [rnd_no c, Nat.add_mul, Nat.mul_assoc, Nat.one_mul, Nat.mul_comm (N / U)]
    unfold RC at c
    by_cases c2 : 2 * (N % U) = U
    · right
      omega
    · left
      omega
theorem rnd_lo {N U : Nat} (hU : 0 < U) (h0 : rnd N U ≠ 0) : (2 * rnd N U - 1) * U < 2 * N ∨ ((2 * rnd N U - 1) * U = 2 * N ∧ rnd N U % 2 = 0) := by
  have h1 := Nat.div_add_mod N U
  have h2 := Nat.mod_lt N hU
  by_cases c : RC N U
  · rw [rnd_yes c, show 2 * (N / U + 1) - 1 = 2 * (N / U) + 1 by omega, Nat.add_mul, Nat.mul_assoc, Nat.one_mul, Nat.mul_comm (N / U)]
    unfold RC at c
    rcases c with c | c
    · left; omega
    · right
      omega
  · rw [rnd_no c] at h0 ⊢
    left
    obtain ⟨q, hq⟩ : ∃ q, N / U = q + 1 := ⟨N / U - 1, (Nat.succ_pred_eq_of_ne_zero h0).symm⟩
    rw [hq] at h1 ⊢
    rw [show 2 * (q + 1) - 1 = 2 * q + 1 by omega, Nat.add_mul, Nat.mul_assoc, Nat.one_mul, Nat.mul_comm q]
    rw [Nat.mul_add, Nat.mul_one] at h1
    omega
theorem rnd_ge {N U c : Nat} (hU : 0 < U) (h : c * U ≤ N) : c ≤ rnd N U := by
  have h1 : c ≤ N / U := (Nat.le_div_iff_mul_le hU).mpr h
  unfold rnd
  split <;> omega
theorem rnd_le {N U c : Nat} (hU : 0 < U) (h : N < c * U) : rnd N U ≤ c := by
  have h1 : N / U < c := (Nat.div_lt_iff_lt_mul hU).mpr h
  unfold rnd
  split <;> omega
/-- against the middle of two numbers -/
theorem mid_cmp {N M T a : Nat} (h : M * 2 ^ T = N * 2 ^ 1074) : (mid a < N ↔ (gg a + gg (a + 1)) * KK < 2 * M * 2 ^ T) ∧ (mid a = N ↔ (gg a + gg (a + 1)) * KK = 2 * M * 2 ^ T) ∧ (N < mid a ↔ 2 * M * 2 ^ T < (gg a + gg (a + 1)) * KK) := by
  have e1 : 2 * M * 2 ^ T = N * (2 * 2 ^ 1074) := by rw [Nat.mul_assoc, h, Nat.mul_left_comm]
  have e2 : (gg a + gg (a + 1)) * KK = mid a * (2 * 2 ^ 1074) := by
    rw [KK_WW]
    unfold mid
    rw [show (2 : Nat) ^ 1076 = 2 * (2 * 2 ^ 1074) by rw [← Nat.pow_succ', ← Nat.pow_succ']]
    generalize gg a + gg (a + 1) = x
    generalize WW = w
    generalize 2 * 2 ^ 1074 = y
    rw [Nat.mul_comm 2 x, Nat.mul_assoc, Nat.mul_assoc, ← Nat.mul_assoc w, Nat.mul_comm w 2, Nat.mul_assoc 2 w]
  have hp : 0 < 2 * 2 ^ 1074 := Nat.mul_pos (by decide) (Nat.pow_pos (by decide))
  rw [e1, e2]
  generalize 2 * 2 ^ 1074 = y at *
  exact ⟨(Nat.mul_lt_mul_right hp).symm, ⟨fun g => by rw [g], fun g => Nat.eq_of_mul_eq_mul_right hp g⟩, (Nat.mul_lt_mul_right hp).symm⟩
theorem KK_pos : 0 < KK := Nat.pow_pos (by decide)
/-- the sum of neighbours, where the step is 2^T -/
theorem near_core {N M T x r : Nat} (h : M * 2 ^ T = N * 2 ^ 1074) (hx : x = rnd M KK) (hr : r < BE) (hg : gg r = x * 2 ^ T) (hg1 : gg (r + 1) = (x + 1) * 2 ^ T) (hpar : x % 2 = 0 → r % 2 = 0) (hlo : r = 0 ∨ (1 ≤ x ∧ gg (r - 1) = (x - 1) * 2 ^ T) ∨ (x * KK ≤ M)) : Near N r := by
  have hp : 0 < 2 ^ T := Nat.pow_pos (by decide)
  refine ⟨by omega, ?_, Or.inr ?_⟩
  · by_cases c0 : r = 0
    · exact Or.inl c0
    · right
      obtain ⟨k1, k2, k3⟩ := mid_cmp (a := r - 1) h
      rw [show r - 1 + 1 = r by omega] at k1 k2 k3
      rcases hlo with g | g | g
      · omega
      · rw [k1, k2, g.2, hg, ← Nat.add_mul, show x - 1 + x = 2 * x - 1 by omega]
        have := rnd_lo (N := M) KK_pos (by rw [← hx]; omega)
        rw [← hx] at this
        rw [Nat.mul_right_comm]
        rcases this with t | t
        · left
          exact (Nat.mul_lt_mul_right hp).mpr t
        · right
          exact ⟨by rw [t.1], hpar t.2⟩
      · left
        rw [k1]
        have g1 := gg_lt (r - 1)
        rw [show r - 1 + 1 = r by omega] at g1
        have g2 : gg (r - 1) + gg r < 2 * (x * 2 ^ T) := by rw [← hg]; omega
        refine Nat.lt_of_lt_of_le ((Nat.mul_lt_mul_right KK_pos).mpr g2) ?_
        rw [← Nat.mul_assoc, Nat.mul_right_comm, Nat.mul_assoc 2 x KK]
        exact Nat.mul_le_mul_right _ (Nat.mul_le_mul_left 2 g)
  · obtain ⟨k1, k2, k3⟩ := mid_cmp (a := r) h
    rw [k3, eq_comm, k2, hg, hg1, ← Nat.add_mul, show x + (x + 1) = 2 * x + 1 by omega]
    have := rnd_hi (N := M) KK_pos
    rw [← hx] at this
    rw [Nat.mul_right_comm (2 * x + 1)]
    rcases this with t | t
    · left
      exact (Nat.mul_lt_mul_right hp).mpr t
    · right
      exact ⟨by rw [t.1], hpar t.2⟩
theorem gg_norm {T y : Nat} (hy : y < 4503599627370496) : gg (T * 4503599627370496 + (4503599627370496 + y)) = (4503599627370496 + y) * 2 ^ T ∧ SS (T * 4503599627370496 + (4503599627370496 + y)) = T := by
  have h1 : (T * 4503599627370496 + (4503599627370496 + y)) / 4503599627370496 = T + 1 := by omega
  have h2 : (T * 4503599627370496 + (4503599627370496 + y)) % 4503599627370496 = y := by omega
  unfold gg MA SS
  rw [h1, h2, if_neg (by omega), if_neg (by omega), Nat.add_sub_cancel]
  exact ⟨rfl, rfl⟩
theorem gg_sub {y : Nat} (hy : y ≤ 4503599627370496) : gg y = y ∧ SS y = 0 := by
  unfold gg MA SS
  by_cases c : y / 4503599627370496 = 0
  · rw [if_pos c, if_pos c]; exact ⟨by rw [Nat.pow_zero, Nat.mul_one], rfl⟩
  · have : y = 4503599627370496 := by omega
    subst this
    exact ⟨rfl, rfl⟩
/-- the joined bits -/
def JJ (x T : Nat) : Nat := if T ≤ 2045 then T * 4503599627370496 + x else BE
theorem near_join {N M T : Nat} (h : M * 2 ^ T = N * 2 ^ 1074) (h2 : M < 9007199254740992 * KK) (h1 : 4503599627370496 * KK ≤ M ∨ T = 0) : Near N (JJ (rnd M KK) T) := by
  obtain ⟨x, hx⟩ : ∃ x, x = rnd M KK := ⟨_, rfl⟩
  rw [← hx]
  have hx2 : x ≤ 9007199254740992 := by rw [hx]; exact rnd_le KK_pos h2
  have hp : 0 < 2 ^ T := Nat.pow_pos (by decide)
  by_cases cN : 4503599627370496 * KK ≤ M
  · have hx1 : 4503599627370496 ≤ x := by rw [hx]; exact rnd_ge KK_pos cN
    by_cases cT : T ≤ 2045
    · unfold JJ
      rw [if_pos cT]
      by_cases cx : x = 9007199254740992
      · -- rounded up to the next power of two
        have hr : T * 4503599627370496 + x = (T + 1) * 4503599627370496 + (4503599627370496 + 0) := by clear h h1 h2 cN; omega
        obtain ⟨g1, g2⟩ := gg_norm (T := T + 1) (y := 0) (by decide)
        rw [← hr] at g1 g2
        obtain ⟨q1, q2⟩ := gg_norm (T := T) (y := 4503599627370495) (by decide)
        have hr1 : T * 4503599627370496 + x - 1 = T * 4503599627370496 + (4503599627370496 + 4503599627370495) := by clear h h1 h2 cN; omega
        rw [← hr1] at q1 q2
        have e1 : gg (T * 4503599627370496 + x) = x * 2 ^ T := by
          rw [g1, cx, Nat.pow_succ, Nat.add_zero]
          generalize 2 ^ T = w
          omega
        refine ⟨by unfold BE; clear h h1 h2 cN; omega, ?_, ?_⟩
        · right
          obtain ⟨k1, k2, k3⟩ := mid_cmp (a := T * 4503599627370496 + x - 1) h
          rw [show T * 4503599627370496 + x - 1 + 1 = T * 4503599627370496 + x by clear h h1 h2 cN; omega] at k1 k2 k3
          have e2 : gg (T * 4503599627370496 + x - 1) = (x - 1) * 2 ^ T := by rw [q1, cx]
          rw [k1, k2, e1, e2, ← Nat.add_mul, show x - 1 + x = 2 * x - 1 by omega]
          have := rnd_lo (N := M) KK_pos (by rw [← hx]; omega)
          rw [← hx] at this
          rw [Nat.mul_right_comm]
          rcases this with t | t
          · left
            exact (Nat.mul_lt_mul_right hp).mpr t
          · right
            exact ⟨by rw [t.1], by clear h h1 h2 cN t; omega⟩
        · right; left
          obtain ⟨k1, k2, k3⟩ := mid_cmp (a := T * 4503599627370496 + x) h
          rw [k3]
          have g3 := gg_lt (T * 4503599627370496 + x)
          have g4 : 2 * (x * 2 ^ T) < gg (T * 4503599627370496 + x) + gg (T * 4503599627370496 + x + 1) := by rw [← e1]; clear h h1 h2 cN; omega
          refine Nat.lt_trans ?_ ((Nat.mul_lt_mul_right KK_pos).mpr g4)
          rw [← Nat.mul_assoc, Nat.mul_right_comm (2 * x), Nat.mul_assoc 2 x KK, Nat.mul_assoc 2 M, Nat.mul_assoc 2, cx]
          refine Nat.mul_lt_mul_of_pos_left ?_ (by decide)
          exact (Nat.mul_lt_mul_right hp).mpr h2
      · obtain ⟨y, hy⟩ : ∃ y, x = 4503599627370496 + y := ⟨x - 4503599627370496, by omega⟩
        obtain ⟨g1, g2⟩ := gg_norm (T := T) (y := y) (by omega)
        rw [← hy] at g1 g2
        have hs := gg_succ (T * 4503599627370496 + x)
        rw [g1, g2] at hs
        refine near_core h hx (by unfold BE; clear h h1 h2 cN; omega) g1 (by rw [hs, Nat.add_mul, Nat.one_mul]) (fun g => by clear h h1 h2 cN; omega) (Or.inr ?_)
        by_cases cy : y = 0
        · right
          rw [hy, cy]
          exact cN
        · left
          refine ⟨by omega, ?_⟩
          obtain ⟨q1, q2⟩ := gg_norm (T := T) (y := y - 1) (by omega)
          rw [show T * 4503599627370496 + (4503599627370496 + (y - 1)) = T * 4503599627370496 + x - 1 by clear h h1 h2 cN; omega] at q1
          rw [q1, hy]
          congr 1
          omega
    · unfold JJ
      rw [if_neg cT]
      refine ⟨Nat.le_refl _, ?_, Or.inl rfl⟩
      right; left
      obtain ⟨k1, k2, k3⟩ := mid_cmp (a := BE - 1) h
      rw [show BE - 1 + 1 = BE from rfl] at k1 k2 k3
      rw [k1]
      have g3 := gg_lt (BE - 1)
      rw [show BE - 1 + 1 = BE from rfl] at g3
      have g4 : gg (BE - 1) + gg BE < 2 * gg BE := by clear h h1 h2 cN; omega
      obtain ⟨q1, q2⟩ := gg_norm (T := 2046) (y := 0) (by decide)
      rw [show 2046 * 4503599627370496 + (4503599627370496 + 0) = BE from rfl, Nat.add_zero] at q1
      refine Nat.lt_of_lt_of_le ((Nat.mul_lt_mul_right KK_pos).mpr g4) ?_
      rw [q1, ← Nat.mul_assoc, Nat.mul_right_comm, Nat.mul_assoc 2 _ KK]
      exact Nat.mul_le_mul (Nat.mul_le_mul_left 2 cN) (Nat.pow_le_pow_right (by decide) (by omega))
  · have hT : T = 0 := h1.resolve_left cN
    subst hT
    have hx3 : x ≤ 4503599627370496 := by rw [hx]; exact rnd_le KK_pos (Nat.lt_of_not_le cN)
    unfold JJ
    rw [if_pos (by decide), Nat.zero_mul, Nat.zero_add]
    obtain ⟨g1, g2⟩ := gg_sub hx3
    have hs := gg_succ x
    rw [g1, g2] at hs
    refine near_core h hx (by unfold BE; clear h h1 h2 cN; omega) (by rw [g1, Nat.pow_zero, Nat.mul_one]) (by rw [hs, Nat.pow_zero, Nat.mul_one]) (fun g => g) ?_
    by_cases c0 : x = 0
    · exact Or.inl c0
    · right; left
      refine ⟨by omega, ?_⟩
      rw [(gg_sub (y := x - 1) (by omega)).1, Nat.pow_zero, Nat.mul_one]
