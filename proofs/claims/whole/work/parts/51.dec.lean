/-! the class's Decimal as a natural number: limbs of 10^9, the highest first; the number is N / 10^1125 -/
abbrev BB : Nat := 1000000000
/-- the value of the first k limbs -/
def VV (F : Nat → Nat) : Nat → Nat
  | 0 => 0
  | k + 1 => VV F k * BB + F k
theorem VV_s (F : Nat → Nat) (k : Nat) : VV F (k + 1) = VV F k * BB + F k := rfl
/-- the limbs' numbers -/
def LR (f : Nat → Int64) (F : Nat → Nat) : Prop := ∀ i, i < 160 → f i = lN (F i) ∧ F i < BB
/-- outside first .. last there is 0 -/
def ZO (a b : Int32) (F : Nat → Nat) : Prop := ∀ i : Nat, i < 160 → ((i : Int) < a.toInt ∨ b.toInt < (i : Int)) → F i = 0
def Rng (a b : Int32) : Prop := 0 ≤ a.toInt ∧ a.toInt ≤ 160 ∧ -1 ≤ b.toInt ∧ b.toInt < 160
/-- a Decimal that holds F -/
def DD (a b : Int32) (f : Nat → Int64) (F : Nat → Nat) : Prop := LR f F ∧ ZO a b F ∧ Rng a b
/-- .. its ends are no zeros -/
def TD (a b : Int32) (F : Nat → Nat) : Prop := a.toInt ≤ b.toInt → F a.toInt.toNat ≠ 0 ∧ F b.toInt.toNat ≠ 0
theorem VV_congr {F G : Nat → Nat} : ∀ k, (∀ i, i < k → F i = G i) → VV F k = VV G k
  | 0, _ => rfl
  | k + 1, h => by
    unfold VV
    rw [VV_congr k (fun i hi => h i (by omega)), h k (by omega)]
theorem VV_zero {F : Nat → Nat} : ∀ k, (∀ i, i < k → F i = 0) → VV F k = 0
  | 0, _ => rfl
  | k + 1, h => by
    rw [VV_s, VV_zero k (fun i hi => h i (by omega)), h k (by omega)]
    omega
theorem VV_lt {F : Nat → Nat} : ∀ k, (∀ i, i < k → F i < BB) → VV F k < BB ^ k
  | 0, _ => by simp [VV]
  | k + 1, h => by
    have h1 := VV_lt k (fun i hi => h i (by omega))
    have h2 := h k (by omega)
    unfold VV
    rw [Nat.pow_succ]
    have : VV F k * BB + BB ≤ BB ^ k * BB := by
      have h3 : (VV F k + 1) * BB ≤ BB ^ k * BB := Nat.mul_le_mul_right _ h1
      rw [Nat.add_mul] at h3
      omega
    omega
theorem VV_tail {F : Nat → Nat} (k : Nat) : ∀ d, (∀ i, k ≤ i → i < k + d → F i = 0) → VV F (k + d) = VV F k * BB ^ d
  | 0, _ => by simp
  | d + 1, h => by
    rw [show k + (d + 1) = (k + d) + 1 from rfl]
    rw [VV_s, VV_tail k d (fun i h1 h2 => h i h1 (by omega)), h (k + d) (by omega) (by omega), Nat.pow_succ, Nat.mul_assoc]
    omega
/-- the limbs from k on are the rest of the number -/
theorem VV_mod {F : Nat → Nat} (k : Nat) : ∀ d, (∀ i, i < k + d → F i < BB) → VV F (k + d) / BB ^ d = VV F k ∧ VV F (k + d) % BB ^ d = VV (fun i => F (k + i)) d
  | 0, _ => by simp [VV, Nat.mod_one]
  | d + 1, h => by
    obtain ⟨h1, h2⟩ := VV_mod k d (fun i hi => h i (by omega))
    have h3 := h (k + d) (by omega)
    rw [show k + (d + 1) = (k + d) + 1 from rfl]
    have e1 : VV F (k + d + 1) = VV F (k + d) * BB + F (k + d) := rfl
    have e2 : VV (fun i => F (k + i)) (d + 1) = VV (fun i => F (k + i)) d * BB + F (k + d) := rfl
    have e3 : (VV F (k + d) * BB + F (k + d)) / BB = VV F (k + d) := by
      rw [Nat.mul_comm, Nat.mul_add_div (by decide), Nat.div_eq_of_lt h3]; omega
    refine ⟨?_, ?_⟩
    · rw [e1, Nat.pow_succ, Nat.mul_comm (BB ^ d), ← Nat.div_div_eq_div_mul, e3, h1]
    · rw [e1, e2, ← h2, Nat.pow_succ, Nat.mul_comm (BB ^ d), Nat.mod_mul, e3]
      have : (VV F (k + d) * BB + F (k + d)) % BB = F (k + d) := by
        rw [Nat.mul_comm, Nat.mul_add_mod, Nat.mod_eq_of_lt h3]
      rw [this]
      rw [Nat.mul_comm]
      omega
theorem lit_160 : (160 : Int32).toInt = 160 := rfl
theorem lit_m1 : (-1 : Int32).toInt = -1 := rfl
theorem lit_0 : (0 : Int32).toInt = 0 := rfl
theorem lit_1 : (1 : Int32).toInt = 1 := rfl
theorem i_1 {a : Int32} (h : a.toInt < 2147483647) : (a + 1).toInt = a.toInt + 1 := by
  have := i_rng a
  rw [i_add (by rw [lit_1]; omega) (by rw [lit_1]; omega), lit_1]
theorem i_m1 {a : Int32} (h : -2147483648 < a.toInt) : (a + (-1)).toInt = a.toInt - 1 := by
  have := i_rng a
  rw [i_add (by rw [lit_m1]; omega) (by rw [lit_m1]; omega), lit_m1]; omega
theorem i_s1 {a : Int32} (h : -2147483648 < a.toInt) : (a - 1).toInt = a.toInt - 1 := by
  have := i_rng a
  rw [i_sub (by rw [lit_1]; omega) (by rw [lit_1]; omega), lit_1]
theorem lN_0 : lN 0 = 0 := rfl
/-- wipe: all limbs 0 -/
theorem wipe_L : ∀ (n : Nat) (i a b : Int32) (f : Nat → Int64), 0 ≤ i.toInt → i.toInt ≤ 160 → b.toInt < 160 → (160 - i.toInt).toNat < n → (∀ j : Nat, j < 160 → ((j : Int) < i.toInt ∨ b.toInt < (j : Int)) → f j = 0) →
    ∃ f', f_X0_wipe_L5 n i a b f = some (160, -1, f') ∧ ∀ j : Nat, j < 160 → f' j = 0
  | 0, i, a, b, f, h0, h1, h2, h3, h4 => by omega
  | n + 1, i, a, b, f, h0, h1, h2, h3, h4 => by
    unfold f_X0_wipe_L5
    by_cases c : b < i
    · rw [if_pos c]
      rw [i_lt] at c
      exact ⟨f, rfl, fun j hj => h4 j hj (by omega)⟩
    · rw [if_neg c]
      rw [i_lt] at c
      rw [if_neg (i_in h0 (by omega))]
      have e1 : (i + 1).toInt = i.toInt + 1 := i_1 (by omega)
      obtain ⟨f', h5, h6⟩ := wipe_L n (i + 1) a b (vp_updL f i.toNatClampNeg 0) (by omega) (by omega) h2 (by omega) (fun j hj hc => by
        rw [i_cl]
        by_cases hji : j = i.toInt.toNat
        · subst hji; exact upL_self
        · rw [upL_ne hji]; exact h4 j hj (by omega))
      exact ⟨f', h5, h6⟩
theorem wipe_ok {a b : Int32} {f : Nat → Int64} {F : Nat → Nat} (h : DD a b f F) : ∃ f', f_X0_wipe a b f = some (160, -1, f') ∧ DD 160 (-1) f' (fun _ => 0) := by
  obtain ⟨h1, h2, h3, h4, h5, h6⟩ := h
  obtain ⟨f', e1, e2⟩ := wipe_L FU a a b f h3 h4 h6 (by unfold FU; omega) (fun j hj hc => by rw [(h1 j hj).1, h2 j hj hc]; rfl)
  refine ⟨f', e1, fun i hi => ⟨by rw [e2 i hi]; rfl, (by decide : 0 < BB)⟩, fun i hi _ => rfl, ?_⟩
  unfold Rng
  rw [lit_160, lit_m1]
  omega
/-- trim -/
theorem trim_L38 : ∀ (n : Nat) (a b : Int32) (f : Nat → Int64) (F : Nat → Nat), DD a b f F → (b.toInt + 1).toNat < n → (a.toInt ≤ b.toInt → F a.toInt.toNat ≠ 0) → ∃ b', f_X0_trim_L38 n a b f = some (a, b') ∧ DD a b' f F ∧ TD a b' F
  | 0, a, b, f, F, h, h3, h4 => by omega
  | n + 1, a, b, f, F, h, h3, h4 => by
    unfold f_X0_trim_L38
    by_cases c : b < a
    · rw [if_pos c]
      rw [i_lt] at c
      exact ⟨b, rfl, h, fun h9 => by omega⟩
    · rw [if_neg c]
      rw [i_lt] at c
      obtain ⟨h1, h2, r1, r2, r3, r4⟩ := id h
      rw [if_neg (i_in (by omega) (by omega)), i_cl]
      have hb := h1 b.toInt.toNat (by omega)
      by_cases c2 : lg_cmp (f b.toInt.toNat) 0 = 0
      · rw [if_pos c2]
        rw [cmp_eq, hb.1] at c2
        have hz : F b.toInt.toNat = 0 := by
          have := (pk_lEQ (a := F b.toInt.toNat) (b := 0) (by have := hb.2; simp only [BB] at this; omega) (by decide)).mp c2
          exact this
        have e1 : (b - 1).toInt = b.toInt - 1 := i_s1 (by omega)
        refine trim_L38 n a (b - 1) f F ⟨h1, fun i hi hc => ?_, ?_⟩ (by omega) (fun h9 => h4 (by omega))
        · by_cases hib : i = b.toInt.toNat
          · subst hib; exact hz
          · exact h2 i hi (by omega)
        · unfold Rng; omega
      · rw [if_neg c2]
        refine ⟨b, rfl, h, fun h9 => ⟨h4 h9, fun hz => c2 ?_⟩⟩
        rw [cmp_eq, hb.1, hz]; rfl
theorem trim_L0 : ∀ (n : Nat) (a b : Int32) (f : Nat → Int64) (F : Nat → Nat), DD a b f F → (160 - a.toInt).toNat < n → ∃ a' b', f_X0_trim_L0 n a b f = some (a', b') ∧ DD a' b' f F ∧ TD a' b' F
  | 0, a, b, f, F, h, h3 => by omega
  | n + 1, a, b, f, F, h, h3 => by
    unfold f_X0_trim_L0
    obtain ⟨h1, h2, r1, r2, r3, r4⟩ := id h
    by_cases c : b < a
    · rw [if_pos c]
      rw [i_lt] at c
      obtain ⟨b', e1, e2, e3⟩ := trim_L38 FU a b f F h (by unfold FU; omega) (fun h9 => by omega)
      exact ⟨a, b', e1, e2, e3⟩
    · rw [if_neg c]
      rw [i_lt] at c
      rw [if_neg (i_in (by omega) (by omega)), i_cl]
      have hb := h1 a.toInt.toNat (by omega)
      by_cases c2 : lg_cmp (f a.toInt.toNat) 0 = 0
      · rw [if_pos c2]
        rw [cmp_eq, hb.1] at c2
        have hz : F a.toInt.toNat = 0 := by
          have := (pk_lEQ (a := F a.toInt.toNat) (b := 0) (by have := hb.2; simp only [BB] at this; omega) (by decide)).mp c2
          exact this
        have e1 : (a + 1).toInt = a.toInt + 1 := i_1 (by omega)
        refine trim_L0 n (a + 1) b f F ⟨h1, fun i hi hc => ?_, ?_⟩ (by omega)
        · by_cases hib : i = a.toInt.toNat
          · subst hib; exact hz
          · exact h2 i hi (by omega)
        · unfold Rng; omega
      · rw [if_neg c2]
        obtain ⟨b', e1, e2, e3⟩ := trim_L38 FU a b f F h (by unfold FU; omega) (fun h9 hz => c2 (by rw [cmp_eq, hb.1, hz]; rfl))
        exact ⟨a, b', e1, e2, e3⟩
theorem trim_ok {a b : Int32} {f : Nat → Int64} {F : Nat → Nat} (h : DD a b f F) : ∃ a' b', f_X0_trim a b f = some (a', b') ∧ DD a' b' f F ∧ TD a' b' F := by
  have e : f_X0_trim a b f = f_X0_trim_L0 (FU + 1) a b f := by
    unfold f_X0_trim
    rw [show f_X0_trim_L0 (FU + 1) a b f = _ from rfl]
    conv => rhs; unfold f_X0_trim_L0
  rw [e]
  exact trim_L0 (FU + 1) a b f F h (by have := h.2.2.1; unfold FU; omega)
