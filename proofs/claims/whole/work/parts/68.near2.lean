/-! the reference's nearest -/
theorem sgn_neg {x y : Nat} : sgn3 x y < 0 ↔ x < y := by
  unfold sgn3
  split
  · rename_i h; exact iff_of_true (by decide) h
  · rename_i h
    split
    · exact iff_of_false (by decide) h
    · exact iff_of_false (by decide) h
theorem sgn_zero {x y : Nat} : sgn3 x y = 0 ↔ x = y := by
  unfold sgn3
  split
  · rename_i h; exact iff_of_false (by decide) (by omega)
  · split
    · rename_i h; exact iff_of_true rfl h
    · rename_i h; exact iff_of_false (by decide) h
theorem mid_hi (a : Nat) : mid a < 4 * gg (a + 1) * WW := by
  unfold mid
  refine Nat.mul_lt_mul_of_pos_right ?_ WW_pos
  have := gg_lt a
  omega
theorem mid_lo (a : Nat) : 4 * gg a * WW < mid a := by
  unfold mid
  refine Nat.mul_lt_mul_of_pos_right ?_ WW_pos
  have := gg_lt a
  omega
theorem near_dn {N a : Nat} (ha : a < BE) (h1 : 4 * gg a * WW ≤ N) (h2 : N < mid a ∨ (N = mid a ∧ a % 2 = 0)) : Near N a := by
  refine ⟨by omega, ?_, Or.inr h2⟩
  by_cases c : a = 0
  · exact Or.inl c
  · right; left
    have := mid_hi (a - 1)
    rw [show a - 1 + 1 = a by omega] at this
    omega
theorem near_up {N a : Nat} (ha : a < BE) (h1 : a + 1 = BE ∨ N < 4 * gg (a + 1) * WW) (h2 : mid a < N ∨ (mid a = N ∧ a % 2 = 1)) : Near N (a + 1) := by
  refine ⟨by omega, ?_, ?_⟩
  · right
    rw [Nat.add_sub_cancel]
    rcases h2 with h | h
    · exact Or.inl h
    · exact Or.inr ⟨h.1, by omega⟩
  · rcases h1 with h | h
    · exact Or.inl h
    · right; left
      have := mid_lo (a + 1)
      omega
theorem BE_63 : BE < 2 ^ 63 := by decide
theorem ne_L45 : ∀ (fu k : Nat) (l1 l3 : Int64) (us : Int32) (d n pw : Nat → Int32) (f : Nat → Int64) (N E m : Nat) (P : Int32) (a b : Nat), l1 = lN a → l3 = lN b → a ≤ b → b < BE → 4 * gg a * WW ≤ N → (b + 1 = BE ∨ N < 4 * gg (b + 1) * WW) → RW 0 d n pw N E m P → NZ N E m → P.toInt = (E : Int) - 1125 → E < 2 ^ 20 → b - a < 2 ^ k → k < fu →
    ∃ r us' d' n' pw' f', f_X2_nearest_L45 fu l1 l3 us d n pw f = some (lN r, us', d', n', pw', f') ∧ Near N r := by
  intro fu
  induction fu with
  | zero => intro k l1 l3 us d n pw f N E m P a b h1 h2 h3 h4 h5 h6 h7 h8 h9 h10 h11 h12; omega
  | succ fu ih =>
    intro k l1 l3 us d n pw f N E m P a b h1 h2 h3 h4 h5 h6 h7 h8 h9 h10 h11 h12
    have hbe := BE_63
    subst h1 h2
    unfold f_X2_nearest_L45
    have hc : 0 ≤ lg_cmp (lN a) (lN b) ↔ b ≤ a := by
      rw [cmp_ge, l_N (by clear h11; omega), l_N (by clear h11; omega)]
      omega
    by_cases c : b ≤ a
    · have hab : b = a := by omega
      subst hab
      rw [if_pos (hc.mpr c), whole2_ok (by clear h11; omega), Option.bind_some]
      obtain ⟨q, e1, e2⟩ := two_ok (a := b) (by clear h11; omega)
      rw [e1, Option.bind_some]
      have hm := MA_lt b
      have hs : SS b ≤ 2045 := by
        unfold SS
        unfold BE at h4
        clear h11
        split <;> omega
      have hq : PQ b = (SS b : Int) - 1074 := rfl
      have t1 : (q - 1).toInt = PQ b - 1 := by rw [i_s1 (by rw [e2, hq]; clear h11; omega), e2]
      have e3 : (2 : Int64) * lN (MA b) + 1 = lN (2 * MA b + 1) := by
        have : (2 : Int64) = lN 2 := rfl
        rw [this, lN_mul, lN_1]
      obtain ⟨us', d', n', pw', f', E', m', P', g1, g2, g3, g4, g5, g6⟩ := row_ok (l1 := lN (2 * MA b + 1)) (l3 := q - 1) (l4 := 5600) (us := us) (d := d) (n := n) (pw := pw) (f := f) (r := 5600) (c := 2 * MA b + 1) rfl (by clear h11; omega) rfl (Nat.le_refl _) (by rw [t1, hq]; clear h11; omega) (by rw [t1, hq]; clear h11; omega)
      rw [e3, g1, Option.bind_some]
      rw [t1, VAL_mid, ← mid.eq_1] at g2 g3
      have hag := ag_ok (l1 := 0) (l2 := 5600) (r := 0) (o := 5600) (Z := 1125) rfl (by decide) rfl (by decide) (only_rw g6 (Or.inl (by decide)) h7) g2 h10 h8 g3 h9 g4
      simp only []
      rw [hag, Option.bind_some]
      by_cases c1 : N < mid b
      · rw [if_pos (sgn_neg.mpr c1)]
        exact ⟨b, us', d', n', pw', f', rfl, near_dn h4 h5 (Or.inl c1)⟩
      · rw [if_neg (fun h => c1 (sgn_neg.mp h))]
        by_cases c2 : N = mid b
        · rw [if_pos (sgn_zero.mpr c2)]
          have two : (2 : Int64) = lN 2 := rfl
          rw [two, pk_lRem (by clear h11; omega) (by decide) (by decide)]
          have hz := cmp0 (n := b % 2) (by clear h11; omega)
          by_cases c3 : b % 2 = 0
          · rw [if_pos (hz.mpr c3)]
            exact ⟨b, us', d', n', pw', f', rfl, near_dn h4 h5 (Or.inr ⟨c2, c3⟩)⟩
          · rw [if_neg (fun h => c3 (hz.mp h)), lN_1]
            exact ⟨b + 1, us', d', n', pw', f', rfl, near_up h4 h6 (Or.inr ⟨c2.symm, by omega⟩)⟩
        · rw [if_neg (fun h => c2 (sgn_zero.mp h)), lN_1]
          exact ⟨b + 1, us', d', n', pw', f', rfl, near_up h4 h6 (Or.inl (by omega))⟩
    · rw [if_neg (fun h => c (hc.mp h))]
      obtain ⟨k', rfl⟩ : ∃ k', k = k' + 1 := ⟨k - 1, by
        rcases Nat.eq_zero_or_pos k with g | g
        · subst g
          rw [Nat.pow_zero] at h11
          omega
        · omega⟩
      rw [Nat.pow_succ] at h11
      generalize hw : 2 ^ k' = w at h11
      have em : lN a + (lN b - lN a + 1) / 2 = lN (a + (b - a + 1) / 2) := by
        have two : (2 : Int64) = lN 2 := rfl
        rw [lN_sub (by omega), lN_1, two, pk_lDiv (by omega) (by decide) (by decide), lN_add]
      obtain ⟨mm, hmm⟩ : ∃ mm, mm = a + (b - a + 1) / 2 := ⟨_, rfl⟩
      rw [em, ← hmm]
      obtain ⟨us', d', n', pw', f', E', m', P', g1, g2, g3, g4, g5, g6⟩ := rowOf_ok (l1 := lN mm) (l3 := 1400) (us := us) (d := d) (n := n) (pw := pw) (f := f) (r := 1400) (a := mm) rfl (by omega) rfl (by decide) (by omega)
      rw [g1, Option.bind_some]
      rw [VAL_num] at g2 g3
      have h7' := only_rw g6 (Or.inl (by decide)) h7
      have hag := ag_ok (l1 := 0) (l2 := 1400) (r := 0) (o := 1400) (Z := 1125) rfl (by decide) rfl (by decide) h7' g2 h10 h8 g3 h9 g4
      simp only []
      rw [hag, Option.bind_some]
      by_cases c1 : N < 4 * gg mm * WW
      · rw [if_pos (sgn_neg.mpr c1)]
        have e1 : lN mm - 1 = lN (mm - 1) := lN_sub (b := 1) (by omega)
        rw [e1]
        exact ih k' (lN a) (lN (mm - 1)) us' d' n' pw' f' N E m P a (mm - 1) rfl rfl (by omega) (by omega) h5 (Or.inr (by rw [show mm - 1 + 1 = mm by omega]; exact c1)) h7' h8 h9 h10 (by rw [hw]; omega) (by omega)
      · rw [if_neg (fun h => c1 (sgn_neg.mp h))]
        exact ih k' (lN mm) (lN b) us' d' n' pw' f' N E m P mm b rfl rfl (by omega) h4 (by omega) h6 h7' h8 h9 h10 (by rw [hw]; omega) (by omega)
theorem nearest2_ok {us : Int32} {d n pw : Nat → Int32} {f : Nat → Int64} {N E m : Nat} {P : Int32} (h7 : RW 0 d n pw N E m P) (h8 : NZ N E m) (h9 : P.toInt = (E : Int) - 1125) (h10 : E < 2 ^ 20) :
    ∃ r us' d' n' pw' f', f_X2_nearest_L45 FU 0 9218868437227405311 us d n pw f = some (lN r, us', d', n', pw', f') ∧ Near N r := by
  refine ne_L45 FU 64 0 9218868437227405311 us d n pw f N E m P 0 (BE - 1) rfl rfl (by decide) (by decide) ?_ (Or.inl (by decide)) h7 h8 h9 h10 (by decide) (by unfold FU; decide)
  have : gg 0 = 0 := by decide
  rw [this, Nat.mul_zero, Nat.zero_mul]
  exact Nat.zero_le _
