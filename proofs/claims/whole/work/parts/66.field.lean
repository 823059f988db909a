/-! the 64 bits of a number -/
def FC : Nat := 4503599627370496
def MA (a : Nat) : Nat := if a / 4503599627370496 = 0 then a else 4503599627370496 + a % 4503599627370496
def SS (a : Nat) : Nat := if a / 4503599627370496 = 0 then 0 else a / 4503599627370496 - 1
def PQ (a : Nat) : Int := (SS a : Int) - 1074
def gg (a : Nat) : Nat := MA a * 2 ^ SS a
theorem gg_succ (a : Nat) : gg (a + 1) = gg a + 2 ^ SS a := by
  unfold gg MA SS
  by_cases c : a / 4503599627370496 = 0
  · by_cases c2 : (a + 1) / 4503599627370496 = 0
    · rw [if_pos c, if_pos c2, if_pos c, if_pos c2]; omega
    · rw [if_pos c, if_neg c2, if_pos c, if_neg c2]
      have e1 : (a + 1) / 4503599627370496 = 1 := by omega
      have e2 : (a + 1) % 4503599627370496 = 0 := by omega
      rw [e1, e2]
      have : a = 4503599627370495 := by omega
      subst this
      rfl
  · have c2 : ¬ (a + 1) / 4503599627370496 = 0 := by omega
    rw [if_neg c, if_neg c2, if_neg c, if_neg c2]
    obtain ⟨e, he⟩ : ∃ e, a / 4503599627370496 = e + 1 := ⟨a / 4503599627370496 - 1, by omega⟩
    by_cases c3 : a % 4503599627370496 + 1 < 4503599627370496
    · rw [show (a + 1) / 4503599627370496 = a / 4503599627370496 by omega, show (a + 1) % 4503599627370496 = a % 4503599627370496 + 1 by omega, ← Nat.add_assoc, Nat.add_mul _ 1, Nat.one_mul]
    · rw [show (a + 1) / 4503599627370496 = e + 2 by omega, show (a + 1) % 4503599627370496 = 0 by omega, show a % 4503599627370496 = 4503599627370495 by omega, he]
      rw [show e + 2 - 1 = e + 1 by omega, show e + 1 - 1 = e by omega, Nat.pow_succ]
      generalize 2 ^ e = w
      omega
theorem SS_pow (a : Nat) : 0 < 2 ^ SS a := Nat.pow_pos (by decide)
theorem gg_lt (a : Nat) : gg a < gg (a + 1) := by
  have := gg_succ a
  have := SS_pow a
  omega
theorem gg_mono {a b : Nat} (h : a ≤ b) : gg a ≤ gg b := by
  obtain ⟨k, rfl⟩ : ∃ k, b = a + k := ⟨b - a, by omega⟩
  clear h
  induction k with
  | zero => exact Nat.le_refl _
  | succ k ih => exact Nat.le_trans ih (Nat.le_of_lt (gg_lt (a + k)))
/-- the unit: 10^1125 / 2^1076 -/
def WW : Nat := 5 ^ 1125 * 2 ^ 49
theorem WW_pos : 0 < WW := Nat.mul_pos (Nat.pow_pos (by decide)) (Nat.pow_pos (by decide))
theorem KK_WW : KK = WW * 2 ^ 1076 := by
  rw [KK_ten]
  unfold WW
  rw [Nat.mul_assoc, ← Nat.pow_add, ← Nat.mul_pow]
theorem VAL_W {c : Nat} {Q : Int} (h : -1076 ≤ Q) : VAL c Q = c * 2 ^ (Q + 1076).toNat * WW := by
  unfold VAL
  rw [KK_WW]
  by_cases c0 : 0 ≤ Q
  · rw [show (-Q).toNat = 0 by omega, Nat.pow_zero, Nat.div_one, show (Q + 1076).toNat = Q.toNat + 1076 by omega, Nat.pow_add]
    generalize 2 ^ Q.toNat = x
    generalize 2 ^ 1076 = y
    generalize WW = w
    rw [Nat.mul_comm x, Nat.mul_assoc, Nat.mul_assoc, Nat.mul_assoc, Nat.mul_comm w, Nat.mul_comm y x]
  · rw [show Q.toNat = 0 by omega, Nat.pow_zero, Nat.one_mul, show (1076 : Nat) = (Q + 1076).toNat + (-Q).toNat by omega, Nat.pow_add]
    refine Nat.div_eq_of_eq_mul_left (Nat.pow_pos (by decide)) ?_
    generalize 2 ^ (Q + 1076).toNat = x
    generalize 2 ^ (-Q).toNat = y
    generalize WW = w
    rw [Nat.mul_assoc c x w, Nat.mul_comm x w, Nat.mul_assoc, Nat.mul_assoc]
theorem VAL_num (a : Nat) : VAL (MA a) (PQ a) = 4 * gg a * WW := by
  rw [VAL_W (by unfold PQ; omega)]
  congr 1
  unfold PQ gg
  rw [show ((SS a : Int) - 1074 + 1076).toNat = SS a + 2 by omega, Nat.pow_add]
  rw [← Nat.mul_assoc, Nat.mul_comm]
theorem VAL_mid (a : Nat) : VAL (2 * MA a + 1) (PQ a - 1) = 2 * (gg a + gg (a + 1)) * WW := by
  rw [VAL_W (by unfold PQ; omega), gg_succ]
  congr 1
  unfold PQ gg
  rw [show ((SS a : Int) - 1074 - 1 + 1076).toNat = SS a + 1 by omega, Nat.pow_succ, Nat.add_mul, Nat.one_mul, Nat.mul_assoc 2 (MA a), ← Nat.mul_assoc (MA a)]
  generalize MA a * 2 ^ SS a = x
  generalize 2 ^ SS a = y
  omega
/-- r is the number nearest to N, of two the even one -/
def BE : Nat := 9218868437227405312
def mid (a : Nat) : Nat := 2 * (gg a + gg (a + 1)) * WW
def Near (N r : Nat) : Prop := r ≤ BE ∧ (r = 0 ∨ mid (r - 1) < N ∨ (mid (r - 1) = N ∧ r % 2 = 0)) ∧ (r = BE ∨ N < mid r ∨ (N = mid r ∧ r % 2 = 0))
theorem mid_lt {a b : Nat} (h : a < b) : mid a < mid b := by
  unfold mid
  refine Nat.mul_lt_mul_of_pos_right ?_ WW_pos
  have h1 := gg_mono (show a + 1 ≤ b from h)
  have h2 := gg_lt a
  have h3 := gg_lt b
  omega
theorem mid_le {a b : Nat} (h : a ≤ b) : mid a ≤ mid b := by
  rcases Nat.lt_or_ge a b with g | g
  · exact Nat.le_of_lt (mid_lt g)
  · rw [show a = b by omega]; exact Nat.le_refl _
theorem near_aux {N r s : Nat} (h1 : Near N r) (h2 : Near N s) (h : r < s) : False := by
  obtain ⟨a1, a2, a3⟩ := h1
  obtain ⟨b1, b2, b3⟩ := h2
  have m1 := mid_le (show r ≤ s - 1 by omega)
  rcases a3 with a3 | a3 | a3
  · omega
  · rcases b2 with b2 | b2 | b2
    · omega
    · omega
    · omega
  · rcases b2 with b2 | b2 | b2
    · omega
    · omega
    · have : mid r = mid (s - 1) := by omega
      rcases Nat.lt_or_ge r (s - 1) with g | g
      · have := mid_lt g; omega
      · omega
theorem near_uniq {N r s : Nat} (h1 : Near N r) (h2 : Near N s) : r = s := by
  rcases Nat.lt_trichotomy r s with h | h | h
  · exact (near_aux h1 h2 h).elim
  · exact h
  · exact (near_aux h2 h1 h).elim
