/-! the reference's rows: n digits of N, the first at the place E - 1 -/
theorem ten_pos (e : Nat) : 0 < 10 ^ e := Nat.pow_pos (by decide)
theorem ten_le {a b : Nat} (h : a ≤ b) : 10 ^ a ≤ 10 ^ b := Nat.pow_le_pow_right (by decide) h
def RW (r : Nat) (d n pw : Nat → Int32) (N E m : Nat) (P : Int32) : Prop :=
  n r = nI m ∧ pw r = P ∧ m ≤ E ∧ m ≤ 1390 ∧ N < 10 ^ E ∧ N % 10 ^ (E - m) = 0 ∧ ∀ i, i < m → d (r + i) = nI (N / 10 ^ (E - 1 - i) % 10)
theorem dv_dvd {N a e : Nat} (h : N % 10 ^ a = 0) (hle : e < a) : N / 10 ^ e % 10 = 0 := by
  obtain ⟨k, hk⟩ := Nat.dvd_of_mod_eq_zero h
  obtain ⟨b, rfl⟩ : ∃ b, a = e + (b + 1) := ⟨a - e - 1, by omega⟩
  rw [hk, Nat.pow_add, Nat.mul_assoc, Nat.mul_div_cancel_left _ (ten_pos e), Nat.pow_succ, Nat.mul_comm (10 ^ b), Nat.mul_assoc]
  exact Nat.mul_mod_right _ _
theorem dv_zero {N E e : Nat} (h : N < 10 ^ E) (hle : E ≤ e) : N / 10 ^ e = 0 := Nat.div_eq_of_lt (Nat.lt_of_lt_of_le h (ten_le hle))
theorem dv_step (N e : Nat) : N / 10 ^ e = 10 * (N / 10 ^ (e + 1)) + N / 10 ^ e % 10 := by
  have h : N / 10 ^ (e + 1) = N / 10 ^ e / 10 := by rw [Nat.pow_succ, Nat.div_div_eq_div_mul]
  rw [h]
  exact (Nat.div_add_mod _ 10).symm
theorem dv_mod {N a b : Nat} (h : N % 10 ^ a = 0) (hb : b ≤ a) : N % 10 ^ b = 0 := by
  obtain ⟨k, hk⟩ := Nat.dvd_of_mod_eq_zero h
  rw [hk, show a = b + (a - b) by omega, Nat.pow_add, Nat.mul_assoc]
  exact Nat.mul_mod_right _ _
theorem dg_lt (N e : Nat) : N / 10 ^ e % 10 < 10 := Nat.mod_lt _ (by decide)
theorem dg_ok {r : Nat} {d n pw : Nat → Int32} {N E m e : Nat} {P l1 l2 : Int32} (h : RW r d n pw N E m P) (hr : l1 = nI r) (hr2 : r ≤ 5600) (hE : E < 2 ^ 20) (he : e < 2 ^ 20) (hl : l2.toInt = (E : Int) - 1 - e) : f_X2_digit l1 l2 d n = some (nI (N / 10 ^ e % 10)) := by
  obtain ⟨h1, h2, h3, h4, h5, h6, h7⟩ := h
  unfold f_X2_digit
  by_cases c : l2 < 0
  · rw [if_pos c]
    rw [i_lt, lit_0, hl] at c
    rw [dv_zero h5 (by clear h5 h6; omega)]
    rfl
  · rw [if_neg c]
    rw [i_lt, lit_0] at c
    subst hr
    rw [if_neg (nI_in (by omega) (by decide)), nI_clamp (by omega), h1]
    obtain ⟨i, hi, hi2⟩ : ∃ i : Nat, l2.toInt = (i : Int) ∧ i + 1 + e = E := ⟨l2.toInt.toNat, by clear h5 h6; omega, by clear h5 h6; omega⟩
    have hl2 : l2 = nI i := nI_of_toInt hi (by clear h5 h6; omega)
    subst hl2
    by_cases c2 : nI m ≤ nI i
    · rw [if_pos c2]
      rw [nI_leI (by omega) (by clear h5 h6; omega)] at c2
      rw [dv_dvd h6 (by clear h5 h6; omega)]
      rfl
    · rw [if_neg c2]
      rw [nI_leI (by omega) (by clear h5 h6; omega)] at c2
      rw [nI_add, if_neg (nI_in (by clear h5 h6; omega) (by decide)), nI_clamp (by clear h5 h6; omega), h7 i (by clear h5 h6; omega), show E - 1 - i = e by clear h5 h6; omega]
theorem lt_of_div {N M c : Nat} (h : N / c < M / c) : N < M := by
  rcases Nat.lt_or_ge N M with g | g
  · exact g
  · have := Nat.div_le_div_right (c := c) g
    omega
theorem eq_of_div {N M c : Nat} (h : N / c = M / c) (h1 : N % c = 0) (h2 : M % c = 0) : N = M := by
  have a := Nat.div_add_mod N c
  have b := Nat.div_add_mod M c
  rw [← a, ← b, h1, h2, h]
theorem sgn_lt {N M : Nat} (h : N < M) : sgn3 N M = -1 := if_pos h
theorem sgn_gt {N M : Nat} (h : M < N) : sgn3 N M = 1 := by
  unfold sgn3
  rw [if_neg (by omega), if_neg (by omega)]
theorem sgn_eq {N M : Nat} (h : N = M) : sgn3 N M = 0 := by
  unfold sgn3
  rw [if_neg (by omega), if_pos h]
theorem ag_L84 : ∀ (fu : Nat) (l1 l2 l3 : Int32) (d n pw : Nat → Int32) (r o N M E m k i : Nat) (P Q : Int32), l1 = nI r → r ≤ 5600 → l2 = nI o → o ≤ 5600 → RW r d n pw N E m P → RW o d n pw M E k Q → l3 = nI i → i ≤ E → E < 2 ^ 20 → N / 10 ^ (E - i) = M / 10 ^ (E - i) → i ≤ 1400 → 1400 < i + fu →
    f_X2_against_L84 fu l1 l2 l3 d n pw = some (sgn3 N M) := by
  intro fu
  induction fu with
  | zero => intro l1 l2 l3 d n pw r o N M E m k i P Q h1 h2 h3 h4 h5 h6 h7 h8 h9 h10 h11 h12; omega
  | succ fu ih =>
    intro l1 l2 l3 d n pw r o N M E m k i P Q h1 h2 h3 h4 h5 h6 h7 h8 h9 h10 h11 h12
    subst h1 h3 h7
    have a1 := h5.1
    have a3 := h5.2.2.1
    have a4 := h5.2.2.2.1
    have b1 := h6.1
    have b3 := h6.2.2.1
    have b4 := h6.2.2.2.1
    unfold f_X2_against_L84
    have go : (i < m ∨ i < k) → ((f_X2_digit (nI r) (nI i) d n).bind fun r107 => ((f_X2_digit (nI o) (nI i) d n).bind fun r113 => (if r107 = r113 then f_X2_against_L84 fu (nI r) (nI o) (nI i + 1) d n pw else ((f_X2_digit (nI r) (nI i) d n).bind fun r122 => ((f_X2_digit (nI o) (nI i) d n).bind fun r128 => (if r128 ≤ r122 then some 1 else some (-1))))))) = some (sgn3 N M) := by
      intro hik
      obtain ⟨e, he⟩ : ∃ e, i + 1 + e = E := ⟨E - 1 - i, by clear h10; omega⟩
      have hi : (nI i).toInt = (E : Int) - 1 - e := by rw [nI_toInt (by clear h10; omega)]; clear h10; omega
      have d1 := dg_ok (e := e) h5 rfl h2 h9 (by clear h10; omega) hi
      have d2 := dg_ok (e := e) h6 rfl h4 h9 (by clear h10; omega) hi
      rw [show E - i = e + 1 by clear h10; omega] at h10
      have s1 := dv_step N e
      have s2 := dv_step M e
      rw [d1, Option.bind_some, d2, Option.bind_some]
      have t1 := dg_lt N e
      have t2 := dg_lt M e
      by_cases c : nI (N / 10 ^ e % 10) = nI (M / 10 ^ e % 10)
      · rw [if_pos c, nI_1]
        rw [nI_eq (by omega) (by omega)] at c
        refine ih _ _ _ d n pw r o N M E m k (i + 1) P Q rfl h2 rfl h4 h5 h6 rfl (by clear h10 s1 s2; omega) h9 ?_ (by clear h10 s1 s2; omega) (by clear h10 s1 s2; omega)
        rw [show E - (i + 1) = e by clear h10 s1 s2; omega, s1, s2, h10, c]
      · rw [if_neg c, Option.bind_some, Option.bind_some]
        rw [nI_eq (by omega) (by omega)] at c
        by_cases c2 : nI (M / 10 ^ e % 10) ≤ nI (N / 10 ^ e % 10)
        · rw [if_pos c2]
          rw [nI_leI (by omega) (by omega)] at c2
          rw [sgn_gt (lt_of_div (c := 10 ^ e) (by rw [s1, s2, h10]; omega))]
        · rw [if_neg c2]
          rw [nI_leI (by omega) (by omega)] at c2
          rw [sgn_lt (lt_of_div (c := 10 ^ e) (by rw [s1, s2, h10]; omega))]
    rw [if_neg (nI_in (by omega) (by decide)), nI_clamp (by omega), a1]
    by_cases c : nI i < nI m
    · rw [if_pos c]
      rw [nI_ltI (by omega) (by omega)] at c
      exact go (Or.inl c)
    · rw [if_neg c, if_neg (nI_in (by omega) (by decide)), nI_clamp (by omega), b1]
      rw [nI_ltI (by omega) (by omega)] at c
      by_cases c2 : nI k ≤ nI i
      · rw [if_pos c2]
        rw [nI_leI (by omega) (by omega)] at c2
        rw [sgn_eq (eq_of_div h10 (dv_mod h5.2.2.2.2.2.1 (by clear h10; omega)) (dv_mod h6.2.2.2.2.2.1 (by clear h10; omega)))]
      · rw [if_neg c2]
        rw [nI_leI (by omega) (by omega)] at c2
        exact go (Or.inr (by omega))
/-- a row without zeros in front, or none at all -/
def NZ (N E m : Nat) : Prop := m ≠ 0 → 1 ≤ E ∧ 10 ^ (E - 1) ≤ N
theorem rw_zero {r : Nat} {d n pw : Nat → Int32} {N E m : Nat} {P : Int32} (h : RW r d n pw N E m P) (hm : m = 0) : N = 0 := by
  obtain ⟨h1, h2, h3, h4, h5, h6, h7⟩ := h
  subst hm
  rw [Nat.sub_zero, Nat.mod_eq_of_lt h5] at h6
  exact h6
theorem NZ_pos {N E m : Nat} (h : NZ N E m) (hm : m ≠ 0) : 0 < N := Nat.lt_of_lt_of_le (ten_pos _) (h hm).2
theorem ag_ok {l1 l2 : Int32} {d n pw : Nat → Int32} {r o N M E E' m k : Nat} {P Q : Int32} {Z : Int} (h1 : l1 = nI r) (h2 : r ≤ 5600) (h3 : l2 = nI o) (h4 : o ≤ 5600) (h5 : RW r d n pw N E m P) (h6 : RW o d n pw M E' k Q) (h7 : E < 2 ^ 20) (z1 : NZ N E m) (z2 : NZ M E' k) (hP : P.toInt = E - Z) (hQ : Q.toInt = E' - Z) :
    f_X2_against l1 l2 d n pw = some (sgn3 N M) := by
  subst h1 h3
  have a1 := h5.1
  have a2 := h5.2.1
  have a4 := h5.2.2.2.1
  have b1 := h6.1
  have b2 := h6.2.1
  have b4 := h6.2.2.2.1
  have i1 : ¬ (nI r < 0 ∨ 7000 ≤ (nI r).toNatClampNeg) := nI_in (by omega) (by decide)
  have i2 : ¬ (nI o < 0 ∨ 7000 ≤ (nI o).toNatClampNeg) := nI_in (by omega) (by decide)
  have m0 : nI m = 0 ↔ m = 0 := nI_eq (a := m) (b := 0) (by omega) (by decide)
  have k0 : nI k = 0 ↔ k = 0 := nI_eq (a := k) (b := 0) (by omega) (by decide)
  unfold f_X2_against f_X2_against_b18
  simp only [if_neg i1, if_neg i2]
  rw [nI_clamp (show r < 2 ^ 31 by omega), nI_clamp (show o < 2 ^ 31 by omega), a1, b1, a2, b2]
  by_cases c : m = 0
  · rw [if_pos (m0.mpr c)]
    simp only [if_pos (m0.mpr c)]
    have e1 := rw_zero h5 c
    by_cases c2 : k = 0
    · rw [if_pos (k0.mpr c2), sgn_eq (e1.trans (rw_zero h6 c2).symm)]
    · rw [if_neg (fun h => c2 (k0.mp h)), sgn_lt (by rw [e1]; exact NZ_pos z2 c2)]
  · have m1 : ¬ nI m = 0 := fun h => c (m0.mp h)
    rw [if_neg m1]
    by_cases c2 : k = 0
    · rw [if_pos (k0.mpr c2)]
      simp only [if_neg m1]
      rw [sgn_gt (by rw [rw_zero h6 c2]; exact NZ_pos z1 c)]
    · rw [if_neg (fun h => c2 (k0.mp h))]
      by_cases c3 : P = Q
      · have hEE : E = E' := by rw [c3] at hP; omega
        subst hEE
        rw [if_pos c3]
        refine ag_L84 FU _ _ _ d n pw r o N M E m k 0 P Q rfl h2 rfl h4 h5 h6 rfl (by omega) h7 ?_ (by omega) (by unfold FU; omega)
        rw [Nat.sub_zero, dv_zero h5.2.2.2.2.1 (Nat.le_refl _), dv_zero h6.2.2.2.2.1 (Nat.le_refl _)]
      · rw [if_neg c3]
        have y1 := z1 c
        have y2 := z2 c2
        have x1 := h5.2.2.2.2.1
        have x2 := h6.2.2.2.2.1
        by_cases c4 : Q ≤ P
        · rw [if_pos c4]
          rw [i_le] at c4
          have : E' < E := by
            have : ¬ P.toInt = Q.toInt := fun h => c3 (i_eq.mpr h)
            clear x1 x2 h5 h6; omega
          rw [sgn_gt (Nat.lt_of_lt_of_le x2 (Nat.le_trans (ten_le (by clear x1 x2; omega)) y1.2))]
        · rw [if_neg c4]
          rw [i_le] at c4
          rw [sgn_lt (Nat.lt_of_lt_of_le x1 (Nat.le_trans (ten_le (by clear x1 x2; omega)) y2.2))]
