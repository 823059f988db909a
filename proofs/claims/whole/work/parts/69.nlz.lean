/-! how many bits a number has -/
def BL (x b : Nat) : Prop := (x = 0 ∧ b = 0) ∨ (0 < b ∧ 2 ^ (b - 1) ≤ x ∧ x < 2 ^ b)
theorem ush (n k : Nat) (hn : n < 2 ^ 31) (hk : k < 32) (s : Int32) (hs : s = nI k) : ((nI n).toUInt32 >>> (s.toUInt32 &&& Int32.toUInt32 31)).toInt32 = nI (n / 2 ^ k) := by
  subst hs
  refine pk_ushrN (by omega) (nI k) k ?_
  have : ∀ k, k < 32 → (((nI k).toUInt32 &&& Int32.toUInt32 31).toBitVec % 32).toNat = k := by decide +kernel
  exact this k hk
theorem nz_b61 {x L : Nat} (h0 : 0 < x) (h : x < 16) (hL : 3 ≤ L) (hL2 : L < 2 ^ 31) : ∃ t, t ≤ 3 ∧ 2 ^ t ≤ x ∧ x < 2 ^ (t + 1) ∧ f_J6_numberOfLeadingZeros_0f7a4_b61 (nI x) (nI L) = some (nI (L - t)) := by
  unfold f_J6_numberOfLeadingZeros_0f7a4_b61
  have l4 : nI x < 4 ↔ x < 4 := nI_ltI (b := 4) (by omega) (by decide)
  have m2 : nI L + (-2) = nI (L - 2) := by
    have : (-2 : Int32) = -(nI 2) := rfl
    rw [this, ← Int32.sub_eq_add_neg]
    exact pk_sub (by omega)
  by_cases c : x < 4
  · rw [if_pos (l4.mpr c), ush x 1 (by omega) (by decide) 1 rfl]
    refine ⟨x / 2 ^ 1, by omega, ?_, ?_, by rw [pk_sub (by omega)]⟩
    · have : x = 1 ∨ x = 2 ∨ x = 3 := by omega
      rcases this with h | h | h <;> subst h <;> decide
    · have : x = 1 ∨ x = 2 ∨ x = 3 := by omega
      rcases this with h | h | h <;> subst h <;> decide
  · rw [if_neg (fun g => c (l4.mp g)), ush x 2 (by omega) (by decide) 2 rfl, ush (x / 2 ^ 2) 1 (by omega) (by decide) 1 rfl, m2, pk_sub (by omega)]
    refine ⟨2 + x / 2 ^ 2 / 2 ^ 1, by omega, ?_, ?_, by rw [show L - 2 - x / 2 ^ 2 / 2 ^ 1 = L - (2 + x / 2 ^ 2 / 2 ^ 1) by omega]⟩
    · by_cases c2 : x < 8
      · rw [show x / 2 ^ 2 / 2 ^ 1 = 0 by omega]; omega
      · rw [show x / 2 ^ 2 / 2 ^ 1 = 1 by omega]; omega
    · by_cases c2 : x < 8
      · rw [show x / 2 ^ 2 / 2 ^ 1 = 0 by omega]; omega
      · rw [show x / 2 ^ 2 / 2 ^ 1 = 1 by omega]; omega
theorem lg_shift {x k t : Nat} (h1 : 2 ^ t ≤ x / 2 ^ k) (h2 : x / 2 ^ k < 2 ^ (t + 1)) : 2 ^ (k + t) ≤ x ∧ x < 2 ^ (k + t + 1) := by
  constructor
  · rw [Nat.pow_add, Nat.mul_comm]
    exact (Nat.le_div_iff_mul_le (Nat.pow_pos (by decide))).mp h1
  · rw [Nat.add_assoc, Nat.pow_add, Nat.mul_comm]
    exact (Nat.div_lt_iff_lt_mul (Nat.pow_pos (by decide))).mp h2
theorem nz_b48 {x L : Nat} (h0 : 0 < x) (h : x < 256) (hL : 7 ≤ L) (hL2 : L < 2 ^ 31) : ∃ t, t ≤ 7 ∧ 2 ^ t ≤ x ∧ x < 2 ^ (t + 1) ∧ f_J6_numberOfLeadingZeros_0f7a4_b48 (nI x) (nI L) = some (nI (L - t)) := by
  unfold f_J6_numberOfLeadingZeros_0f7a4_b48
  have l4 : nI x < 16 ↔ x < 16 := nI_ltI (b := 16) (by omega) (by decide)
  by_cases c : x < 16
  · rw [if_pos (l4.mpr c)]
    obtain ⟨t, e1, e2, e3, e4⟩ := nz_b61 (L := L) h0 c (by omega) hL2
    exact ⟨t, by omega, e2, e3, e4⟩
  · have m2 : nI L + (-4) = nI (L - 4) := by
      have : (-4 : Int32) = -(nI 4) := rfl
      rw [this, ← Int32.sub_eq_add_neg]
      exact pk_sub (by omega)
    rw [if_neg (fun g => c (l4.mp g)), ush x 4 (by omega) (by decide) 4 rfl, m2]
    obtain ⟨t, e1, e2, e3, e4⟩ := nz_b61 (x := x / 2 ^ 4) (L := L - 4) (by omega) (by omega) (by omega) (by omega)
    have := lg_shift e2 e3
    exact ⟨4 + t, by omega, this.1, this.2, by rw [e4, show L - 4 - t = L - (4 + t) by omega]⟩
theorem nz_b33 {x L : Nat} (h0 : 0 < x) (h : x < 65536) (hL : 15 ≤ L) (hL2 : L < 2 ^ 31) : ∃ t, t ≤ 15 ∧ 2 ^ t ≤ x ∧ x < 2 ^ (t + 1) ∧ f_J6_numberOfLeadingZeros_0f7a4_b33 (nI x) (nI L) = some (nI (L - t)) := by
  unfold f_J6_numberOfLeadingZeros_0f7a4_b33
  have l4 : nI x < 256 ↔ x < 256 := nI_ltI (b := 256) (by omega) (by decide)
  by_cases c : x < 256
  · rw [if_pos (l4.mpr c)]
    obtain ⟨t, e1, e2, e3, e4⟩ := nz_b48 (L := L) h0 c (by omega) hL2
    exact ⟨t, by omega, e2, e3, e4⟩
  · have m2 : nI L + (-8) = nI (L - 8) := by
      have : (-8 : Int32) = -(nI 8) := rfl
      rw [this, ← Int32.sub_eq_add_neg]
      exact pk_sub (by omega)
    rw [if_neg (fun g => c (l4.mp g)), ush x 8 (by omega) (by decide) 8 rfl, m2]
    obtain ⟨t, e1, e2, e3, e4⟩ := nz_b48 (x := x / 2 ^ 8) (L := L - 8) (by omega) (by omega) (by omega) (by omega)
    have := lg_shift e2 e3
    exact ⟨8 + t, by omega, this.1, this.2, by rw [e4, show L - 8 - t = L - (8 + t) by omega]⟩
theorem nz_J6 {x : Nat} (h0 : 0 < x) (h : x < 2 ^ 31) : ∃ t, t ≤ 30 ∧ 2 ^ t ≤ x ∧ x < 2 ^ (t + 1) ∧ f_J6_numberOfLeadingZeros_0f7a4 (nI x) = some (nI (31 - t)) := by
  unfold f_J6_numberOfLeadingZeros_0f7a4
  have lp : 0 < nI x := nI_lt (a := 0) (by omega) (by omega)
  have l4 : nI x < 65536 ↔ x < 65536 := nI_ltI (b := 65536) (by omega) (by decide)
  rw [if_pos lp]
  by_cases c : x < 65536
  · rw [if_pos (l4.mpr c)]
    obtain ⟨t, e1, e2, e3, e4⟩ := nz_b33 (L := 31) h0 c (by decide) (by decide)
    exact ⟨t, by omega, e2, e3, e4⟩
  · rw [if_neg (fun g => c (l4.mp g)), ush x 16 (by omega) (by decide) 16 rfl]
    obtain ⟨t, e1, e2, e3, e4⟩ := nz_b33 (x := x / 2 ^ 16) (L := 15) (by omega) (by omega) (by decide) (by decide)
    have := lg_shift e2 e3
    have ht : 16 + t ≤ 30 := by
      rcases Nat.lt_or_ge (16 + t) 31 with g | g
      · omega
      · exfalso
        have g2 : 2 ^ 31 ≤ 2 ^ (16 + t) := Nat.pow_le_pow_right (by decide) g
        omega
    refine ⟨16 + t, ht, this.1, this.2, ?_⟩
    rw [show (31 : Int32) + (-16) = nI 15 from rfl, e4, show 15 - t = 31 - (16 + t) by omega]
theorem nlz_ok {x : Nat} (h : x < 2 ^ 60) : ∃ b, b ≤ 60 ∧ BL x b ∧ f_J13_numberOfLeadingZeros_95d88 (lN x) = some (nI (64 - b)) := by
  unfold f_J13_numberOfLeadingZeros_95d88
  have hs : ((Int64.toUInt64 (lN x)) >>> (Int64.toUInt64 (Int32.toInt64 32) &&& Int64.toUInt64 63)).toInt64 = lN (x / 2 ^ 32) := wb_shr (k := 32) (by omega) (by decide)
  rw [hs, lN_i, lN_i]
  have z0 : nI (x / 2 ^ 32) = 0 ↔ x / 2 ^ 32 = 0 := nI_eq (b := 0) (by omega) (by decide)
  have e32 : (32 : Int32) = nI 32 := rfl
  by_cases c : x / 2 ^ 32 = 0
  · rw [if_pos (z0.mpr c)]
    by_cases c0 : x = 0
    · subst c0
      exact ⟨0, by omega, Or.inl ⟨rfl, rfl⟩, by decide +kernel⟩
    · by_cases c1 : x < 2 ^ 31
      · obtain ⟨t, e1, e2, e3, e4⟩ := nz_J6 (by omega) c1
        rw [e4, Option.bind_some, e32, nI_add]
        exact ⟨t + 1, by omega, Or.inr ⟨by omega, e2, e3⟩, by rw [show 32 + (31 - t) = 64 - (t + 1) by omega]⟩
      · have hneg : (nI x).toInt < 0 := by
          have h2 : (nI x).toInt = ((x : Int) - 4294967296) := by
            show (Int32.ofNat x).toInt = _
            rw [Int32.toInt_ofNat']
            rw [Int.bmod_def]
            have e : ((Int32.size : Nat) : Int) = 4294967296 := rfl
            rw [e]
            omega
          omega
        have : f_J6_numberOfLeadingZeros_0f7a4 (nI x) = some 0 := by
          unfold f_J6_numberOfLeadingZeros_0f7a4
          rw [if_neg (by rw [i_lt, lit_0]; omega), if_neg (by rw [i_eq, lit_0]; omega)]
        rw [this, Option.bind_some]
        exact ⟨32, by omega, Or.inr ⟨by omega, by omega, by omega⟩, rfl⟩
  · rw [if_neg (fun g => c (z0.mp g))]
    obtain ⟨t, e1, e2, e3, e4⟩ := nz_J6 (x := x / 2 ^ 32) (by omega) (by omega)
    have := lg_shift e2 e3
    have ht : t ≤ 27 := by
      rcases Nat.lt_or_ge t 28 with g | g
      · omega
      · exfalso
        have g2 : 2 ^ 28 ≤ 2 ^ t := Nat.pow_le_pow_right (by decide) g
        omega
    rw [e4, Option.bind_some]
    exact ⟨32 + t + 1, by omega, Or.inr ⟨by omega, this.1, this.2⟩, by rw [show 31 - t = 64 - (32 + t + 1) by omega]⟩
