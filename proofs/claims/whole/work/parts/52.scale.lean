/-! times 2^b: the last d limbs -/
def UU (F : Nat → Nat) : Nat → Nat
  | 0 => 0
  | d + 1 => F (159 - d) * BB ^ d + UU F d
theorem UU_s (F : Nat → Nat) (d : Nat) : UU F (d + 1) = F (159 - d) * BB ^ d + UU F d := rfl
theorem UU_congr {F G : Nat → Nat} : ∀ d, d ≤ 160 → (∀ i, 160 - d ≤ i → i < 160 → F i = G i) → UU F d = UU G d
  | 0, _, _ => rfl
  | d + 1, hd, h => by
    rw [UU_s, UU_s, UU_congr d (by omega) (fun i h1 h2 => h i (by omega) h2), h (159 - d) (by omega) (by omega)]
theorem UU_zero {F : Nat → Nat} : ∀ d, d ≤ 160 → (∀ i, 160 - d ≤ i → i < 160 → F i = 0) → UU F d = 0
  | 0, _, _ => rfl
  | d + 1, hd, h => by
    rw [UU_s, UU_zero d (by omega) (fun i h1 h2 => h i (by omega) h2), h (159 - d) (by omega) (by omega)]
    omega
theorem VV_UU (F : Nat → Nat) : ∀ d, d ≤ 160 → VV F (160 - d) * BB ^ d + UU F d = VV F 160
  | 0, _ => by simp [UU]
  | d + 1, hd => by
    have h := VV_UU F d (by omega)
    have e1 : VV F (160 - d) = VV F (159 - d) * BB + F (159 - d) := by
      rw [show 160 - d = (159 - d) + 1 by omega, VV_s]
    have e2 : VV F (159 - d) * BB * BB ^ d = VV F (159 - d) * BB ^ (d + 1) := by rw [Nat.mul_assoc, ← Nat.pow_succ']
    rw [e1, Nat.add_mul, e2] at h
    rw [UU_s, show 160 - (d + 1) = 159 - d by omega]
    omega
/-- where the limbs ahead are 0, the last ones are all -/
theorem UU_all {F : Nat → Nat} {d : Nat} (hd : d ≤ 160) (h : ∀ i, i < 160 - d → F i = 0) : UU F d = VV F 160 := by
  have h1 := VV_UU F d hd
  rw [VV_zero _ h] at h1
  omega
def upN (F : Nat → Nat) (k x : Nat) : Nat → Nat := fun j => if j = k then x else F j
theorem upN_self {F : Nat → Nat} {k x : Nat} : upN F k x k = x := by simp [upN]
theorem upN_ne {F : Nat → Nat} {k j x : Nat} (h : j ≠ k) : upN F k x j = F j := by simp [upN, h]
theorem LR_up {f : Nat → Int64} {F : Nat → Nat} (h : LR f F) {k x : Nat} (hx : x < BB) : LR (vp_updL f k (lN x)) (upN F k x) := by
  intro i hi
  by_cases e : i = k
  · subst e; rw [upL_self, upN_self]; exact ⟨rfl, hx⟩
  · rw [upL_ne e, upN_ne e]; exact h i hi
theorem mod_sub (C : Nat) : C - C / BB * BB = C % BB := by
  have := Nat.div_add_mod C BB
  rw [Nat.mul_comm] at this
  omega
theorem B_lN : (1000000000 : Int64) = lN BB := rfl
theorem nI_of_toInt {a : Int32} {k : Nat} (h : a.toInt = (k : Int)) (hk : k < 2 ^ 31) : a = nI k := i_eq.mpr (by rw [h, nI_toInt hk])
/-- one limb of scaleUp, on the machine -/
theorem up_limb {x C B : Nat} {l1 : Int32} (hl : l1 = nI B) (hB : B ≤ 33) (hx : x < BB) (hC : C < 2 ^ B) :
    ((lN x <<< (Int32.toInt64 l1 &&& 63)) + lN C) / 1000000000 = lN ((x * 2 ^ B + C) / BB) ∧
    ((lN x <<< (Int32.toInt64 l1 &&& 63)) + lN C) - ((((lN x <<< (Int32.toInt64 l1 &&& 63)) + lN C) / 1000000000) * 1000000000) = lN ((x * 2 ^ B + C) % BB) ∧ (x * 2 ^ B + C) / BB < 2 ^ B := by
  subst hl
  have h2 : 2 ^ B ≤ 2 ^ 33 := Nat.pow_le_pow_right (by decide) hB
  have h3 : x * 2 ^ B + C < BB * 2 ^ B := by
    have : (x + 1) * 2 ^ B ≤ BB * 2 ^ B := Nat.mul_le_mul_right _ hx
    rw [Nat.add_mul] at this
    omega
  have h4 : BB * 2 ^ B ≤ BB * 2 ^ 33 := Nat.mul_le_mul_left _ h2
  have h5 : x * 2 ^ B + C < 2 ^ 63 := by
    have : BB * 2 ^ 33 < 2 ^ 63 := by decide
    omega
  have e1 : (lN x <<< (Int32.toInt64 (nI B) &&& 63)) + lN C = lN (x * 2 ^ B + C) := by rw [wb_shl x (by omega), lN_add]
  have e2 : lN (x * 2 ^ B + C) / lN BB = lN ((x * 2 ^ B + C) / BB) := pk_lDiv h5 (by decide) (by decide)
  rw [e1, B_lN, e2]
  refine ⟨rfl, ?_, ?_⟩
  · rw [lN_mul, lN_sub (Nat.div_mul_le_self _ _)]
    congr 1
    have := Nat.div_add_mod (x * 2 ^ B + C) BB
    rw [Nat.mul_comm] at this
    omega
  · exact (Nat.div_lt_iff_lt_mul (by decide)).mpr (by rw [Nat.mul_comm (2 ^ B) BB]; exact h3)
theorem mul_split (C P : Nat) : C % BB * P + C / BB * (P * BB) = C * P := by
  have e1 : C * P = (BB * (C / BB) + C % BB) * P := by rw [Nat.div_add_mod]
  rw [e1, Nat.add_mul]
  generalize C / BB = q
  generalize C % BB = r
  rw [Nat.add_comm, Nat.mul_comm P BB, ← Nat.mul_assoc, Nat.mul_comm q BB]
theorem up_carry {G : Nat → Nat} {C d : Nat} (hd : d < 160) : UU (upN G (159 - d) (C % BB)) (d + 1) + (C / BB) * BB ^ (d + 1) = UU G d + C * BB ^ d := by
  rw [UU_s, upN_self, UU_congr (F := upN G (159 - d) (C % BB)) (G := G) d (by omega) (fun i h1 h2 => upN_ne (by omega)), Nat.pow_succ, ← mul_split C (BB ^ d)]
  generalize C / BB * (BB ^ d * BB) = x
  generalize C % BB * BB ^ d = y
  omega
theorem up_step {F G : Nat → Nat} {B C d : Nat} (hd : d < 160) (h : UU G d + C * BB ^ d = 2 ^ B * UU F d) :
    UU (upN G (159 - d) ((F (159 - d) * 2 ^ B + C) % BB)) (d + 1) + ((F (159 - d) * 2 ^ B + C) / BB) * BB ^ (d + 1) = 2 ^ B * UU F (d + 1) := by
  rw [up_carry hd, UU_s, Nat.mul_add, ← h, Nat.add_mul]
  have e : F (159 - d) * 2 ^ B * BB ^ d = 2 ^ B * (F (159 - d) * BB ^ d) := by rw [Nat.mul_comm (F (159 - d)), Nat.mul_assoc]
  rw [e]
  generalize 2 ^ B * (F (159 - d) * BB ^ d) = x
  generalize C * BB ^ d = y
  omega
/-- all that the limbs hold is below this -/
def TOP : Nat := BB ^ 160
def LtT (M : Nat) : Prop := M < TOP
/-- what the last d limbs and the carry hold (a word of its own, so that the arithmetic of the places does not see it) -/
def UIn (G : Nat → Nat) (C d M : Nat) : Prop := UU G d + C * BB ^ d = M
def CLt (C B : Nat) : Prop := C < 2 ^ B
theorem UIn_end {G : Nat → Nat} {C d M : Nat} (h : UIn G C d M) (hd : d = 160) (hM : LtT M) : C = 0 := by
  unfold UIn LtT at *
  have e : BB ^ d = TOP := by rw [hd]; rfl
  rw [e] at h
  by_cases hz : C = 0
  · exact hz
  · exfalso
    have h1 : 1 * TOP ≤ C * TOP := Nat.mul_le_mul_right _ (by omega)
    generalize C * TOP = x at *
    omega
theorem UIn_all {G : Nat → Nat} {C d M : Nat} (h : UIn G C d M) (hC : C = 0) (hd : d ≤ 160) (hz : ∀ i, i < 160 - d → G i = 0) : VV G 160 = M := by
  rw [← UU_all hd hz]
  unfold UIn at h
  subst hC
  omega
theorem UIn_carry {G : Nat → Nat} {C d M : Nat} (h : UIn G C d M) (hd : d < 160) : UIn (upN G (159 - d) (C % BB)) (C / BB) (d + 1) M := by
  unfold UIn at *
  rw [up_carry hd]; exact h
theorem CLt_div {C B : Nat} (h : CLt C B) : CLt (C / BB) B := Nat.lt_of_le_of_lt (Nat.div_le_self _ _) h
theorem CLt_63 {C B : Nat} (h : CLt C B) (hB : B ≤ 33) : C < 2 ^ 63 := by
  have h2 : 2 ^ B ≤ 2 ^ 33 := Nat.pow_le_pow_right (by decide) hB
  have h3 : C < 2 ^ 33 := Nat.lt_of_lt_of_le h h2
  exact Nat.lt_of_lt_of_le h3 (by decide)
theorem carry_le {C B : Nat} {l2 : Int64} (h : CLt C B) (hB : B ≤ 33) (e : l2 = lN C) (c : lg_cmp l2 0 ≤ 0) : C = 0 := by
  have h1 := CLt_63 h hB
  rw [cmp_le, e, l_N h1] at c
  have : (0 : Int64).toInt = 0 := rfl
  omega
theorem carry_limb {C B : Nat} {l2 : Int64} (h : CLt C B) (hB : B ≤ 33) (e : l2 = lN C) : l2 / 1000000000 = lN (C / BB) ∧ l2 - l2 / 1000000000 * 1000000000 = lN (C % BB) := by
  have h1 := CLt_63 h hB
  have e2 : lN C / lN BB = lN (C / BB) := pk_lDiv h1 (by decide) (by decide)
  rw [e, B_lN, e2]
  exact ⟨rfl, by rw [lN_mul, lN_sub (Nat.div_mul_le_self _ _), mod_sub]⟩
/-- the second loop: the carry goes on -/
theorem up_L66 : ∀ (n : Nat) (l2 : Int64) (l4 a b : Int32) (f : Nat → Int64) (G : Nat → Nat) (C d M B : Nat), l2 = lN C → CLt C B → B ≤ 33 → l4.toInt = 159 - (d : Int) → d ≤ 160 → a.toInt = 160 - (d : Int) → LR f G → Rng a b → ZO a b G → UIn G C d M → LtT M → a.toInt ≤ b.toInt → 160 - d < n →
    ∃ a' b' f' G', f_X0_scaleUp_L66 n l2 l4 a b f = some (a', b', f') ∧ DD a' b' f' G' ∧ TD a' b' G' ∧ VV G' 160 = M := by
  intro n
  induction n with
  | zero => intro l2 l4 a b f G C d M B h1 h2 hB h3 h4 h5 h6 h7 h8 h9 h10 hab h11; omega
  | succ n ih =>
    intro l2 l4 a b f G C d M B h1 h2 hB h3 h4 h5 h6 h7 h8 h9 h10 hab h11
    unfold f_X0_scaleUp_L66
    have done : C = 0 → ∃ a' b' f' G', ((f_X0_trim a b f).bind fun (x : Int32 × Int32) => match x with | (v_first_108, v_last_108) => some (v_first_108, v_last_108, f)) = some (a', b', f') ∧ DD a' b' f' G' ∧ TD a' b' G' ∧ VV G' 160 = M := by
      intro hC
      obtain ⟨a', b', e1, e2, e3⟩ := trim_ok ⟨h6, h8, h7⟩
      exact ⟨a', b', f, G, by rw [e1]; rfl, e2, e3, UIn_all h9 hC h4 (fun i hi => h8 i (by omega) (by omega))⟩
    by_cases c : l4 < 0
    · rw [if_pos c]
      rw [i_lt, lit_0] at c
      exact done (UIn_end h9 (by omega) h10)
    · rw [if_neg c]
      rw [i_lt, lit_0] at c
      by_cases c2 : lg_cmp l2 0 ≤ 0
      · rw [if_pos c2]
        exact done (carry_le h2 hB h1 c2)
      · rw [if_neg c2, if_neg (i_in (by omega) (by omega)), i_cl]
        clear done
        obtain ⟨u1, u2⟩ := carry_limb h2 hB h1
        rw [u2, u1]
        have hd : d < 160 := by omega
        have hk : l4.toInt.toNat = 159 - d := by omega
        have e1 : (l4 + (-1)).toInt = l4.toInt - 1 := i_m1 (by omega)
        rw [hk]
        refine ih (lN (C / BB)) (l4 + (-1)) l4 b (vp_updL f (159 - d) (lN (C % BB))) (upN G (159 - d) (C % BB)) (C / BB) (d + 1) M B rfl (CLt_div h2) hB (by omega) (by omega) (by omega) (LR_up h6 (Nat.mod_lt _ (by decide))) ?_ ?_ (UIn_carry h9 hd) h10 (by omega) (by omega)
        · obtain ⟨r1, r2, r3, r4⟩ := h7
          unfold Rng; omega
        · intro i hi hc
          rw [upN_ne (by omega)]
          exact h8 i hi (by omega)
def UIs (F G : Nat → Nat) (B C d : Nat) : Prop := UU G d + C * BB ^ d = 2 ^ B * UU F d
theorem up_L8 : ∀ (n : Nat) (l1 : Int32) (l2 : Int64) (l4 a b : Int32) (f : Nat → Int64) (F G : Nat → Nat) (B C d : Nat), l1 = nI B → B ≤ 33 → l2 = lN C → CLt C B → l4.toInt = 159 - (d : Int) → d ≤ 160 → a.toInt ≤ 160 - (d : Int) → LR f G → (∀ i, i < 160 → F i < BB) → Rng a b → ZO a b F → ZO a b G → (∀ i, i < 160 - d → G i = F i) → UIs F G B C d → LtT (2 ^ B * VV F 160) → a.toInt ≤ b.toInt → l4.toInt ≤ b.toInt → 160 - d < n →
    ∃ a' b' f' G', f_X0_scaleUp_L8 n l1 l2 l4 a b f = some (a', b', f') ∧ DD a' b' f' G' ∧ TD a' b' G' ∧ VV G' 160 = 2 ^ B * VV F 160 := by
  intro n
  induction n with
  | zero => intro l1 l2 l4 a b f F G B C d h1 h2 h3 h4 h5 h6 h7 h8 h9 h10 h11 h12 h13 h14 h15 hab hlb h16; omega
  | succ n ih =>
    intro l1 l2 l4 a b f F G B C d h1 h2 h3 h4 h5 h6 h7 h8 h9 h10 h11 h12 h13 h14 h15 hab hlb h16
    unfold f_X0_scaleUp_L8
    obtain ⟨r1, r2, r3, r4⟩ := id h10
    by_cases c : l4 < a
    · rw [if_pos c]
      rw [i_lt] at c
      have e1 : (a - 1).toInt = a.toInt - 1 := i_s1 (by omega)
      refine up_L66 FU l2 (a - 1) a b f G C d (2 ^ B * VV F 160) B h3 h4 h2 (by omega) h6 (by omega) h8 h10 h12 ?_ h15 hab (by unfold FU; omega)
      unfold UIn
      unfold UIs at h14
      rw [h14, UU_all h6 (fun i hi => h11 i (by omega) (by omega))]
    · rw [if_neg c]
      rw [i_lt] at c
      rw [if_neg (i_in (by omega) (by omega)), if_neg (i_in (by omega) (by omega)), i_cl]
      have hd : d < 160 := by omega
      have hk : l4.toInt.toNat = 159 - d := by omega
      have e1 : (l4 + (-1)).toInt = l4.toInt - 1 := i_m1 (by omega)
      rw [hk, (h8 (159 - d) (by omega)).1, h13 (159 - d) (by omega), h3]
      obtain ⟨u1, u2, u3⟩ := up_limb (x := F (159 - d)) (C := C) h1 h2 (h9 _ (by omega)) h4
      rw [u2, u1]
      refine ih l1 _ (l4 + (-1)) a b _ F (upN G (159 - d) ((F (159 - d) * 2 ^ B + C) % BB)) B ((F (159 - d) * 2 ^ B + C) / BB) (d + 1) h1 h2 rfl u3 (by omega) (by omega) (by omega) (LR_up h8 (Nat.mod_lt _ (by decide))) h9 h10 h11 ?_ ?_ (up_step hd h14) h15 hab (by omega) (by omega)
      · intro i hi hc
        rw [upN_ne (by omega)]
        exact h12 i hi hc
      · intro i hi
        rw [upN_ne (by omega)]
        exact h13 i (by omega)
theorem up_ok {l1 a b : Int32} {f : Nat → Int64} {F : Nat → Nat} {B : Nat} (h : DD a b f F) (h1 : l1 = nI B) (h2 : B ≤ 33) (h15 : LtT (2 ^ B * VV F 160)) :
    ∃ a' b' f' G', f_X0_scaleUp l1 a b f = some (a', b', f') ∧ DD a' b' f' G' ∧ TD a' b' G' ∧ VV G' 160 = 2 ^ B * VV F 160 := by
  obtain ⟨g1, g2, g3⟩ := id h
  obtain ⟨r1, r2, r3, r4⟩ := id g3
  unfold f_X0_scaleUp
  by_cases c : b < a
  · -- nothing stands there
    have c9 := c
    rw [i_lt] at c
    have hz : VV F 160 = 0 := VV_zero _ (fun i hi => g2 i hi (by omega))
    obtain ⟨N9, hN9⟩ : ∃ N9, FU = N9 + 1 := ⟨8191, rfl⟩
    rw [hN9]
    unfold f_X0_scaleUp_L8
    rw [if_pos c9, hN9]
    unfold f_X0_scaleUp_L66
    obtain ⟨a', b', e1, e2, e3⟩ := trim_ok h
    refine ⟨a', b', f, F, ?_, e2, e3, by rw [hz]; rfl⟩
    have hc2 : lg_cmp (0 : Int64) 0 ≤ 0 := cmp_le.mpr (Int.le_refl _)
    by_cases c3 : a - 1 < 0
    · rw [if_pos c3, e1]; rfl
    · rw [if_neg c3, if_pos hc2, e1]; rfl
  · rw [i_lt] at c
    refine up_L8 FU l1 0 b a b f F F B 0 (159 - b.toInt).toNat h1 h2 rfl (Nat.two_pow_pos B) (by omega) (by omega) (by omega) g1 (fun i hi => (g1 i hi).2) g3 g2 g2 (fun i hi => rfl) ?_ h15 (by omega) (Int.le_refl _) (by unfold FU; omega)
    unfold UIs
    rw [UU_zero _ (by omega) (fun i h1 h2 => g2 i h2 (by omega))]
    simp
