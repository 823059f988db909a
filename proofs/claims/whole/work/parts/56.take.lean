/-! countUp, takeRounded, takeScaled -/
theorem lin4 {A B C D k K : Nat} (h : (A + B) * K = (C + D) * K) : A * K + k + B * K = C * K + k + D * K := by
  rw [Nat.add_mul, Nat.add_mul] at h
  omega
theorem VV_up (F : Nat → Nat) (j x : Nat) : ∀ k, j < k → VV (upN F j x) k + F j * BB ^ (k - 1 - j) = VV F k + x * BB ^ (k - 1 - j)
  | 0, h => by omega
  | k + 1, h => by
    rw [VV_s, VV_s]
    by_cases e : j = k
    · subst e
      rw [upN_self, VV_congr (F := upN F j x) (G := F) j (fun i hi => upN_ne (by omega)), show j + 1 - 1 - j = 0 by omega, Nat.pow_zero]
      omega
    · have ih := VV_up F j x k (by omega)
      rw [upN_ne (fun g => e g.symm), show k + 1 - 1 - j = (k - 1 - j) + 1 by omega, Nat.pow_succ, ← Nat.mul_assoc, ← Nat.mul_assoc]
      generalize BB ^ (k - 1 - j) = P at *
      have h1 : (VV (upN F j x) k + F j * P) * BB = (VV F k + x * P) * BB := by rw [ih]
      exact lin4 h1
theorem VV_ge (F : Nat → Nat) : ∀ k, 0 < k → F 0 * BB ^ (k - 1) ≤ VV F k
  | 0, h => by omega
  | k + 1, _ => by
    rw [VV_s]
    by_cases e : k = 0
    · subst e; simp [VV]
    · have ih := VV_ge F k (by omega)
      rw [show k + 1 - 1 = (k - 1) + 1 by omega, Nat.pow_succ, ← Nat.mul_assoc]
      exact Nat.le_trans (Nat.mul_le_mul_right BB ih) (Nat.le_add_right _ _)
def CIn (G : Nat → Nat) (M : Nat) : Prop := VV G 160 = M
theorem CIn_carry {G : Nat → Nat} {M i : Nat} (h : CIn G M) (hi : 0 < i) (hi2 : i < 160) (hb : BB ≤ G i) : CIn (upN (upN G i (G i - BB)) (i - 1) (G (i - 1) + 1)) M := by
  unfold CIn at *
  have h1 := VV_up G i (G i - BB) 160 hi2
  have h2 := VV_up (upN G i (G i - BB)) (i - 1) (G (i - 1) + 1) 160 (by omega)
  rw [upN_ne (show i - 1 ≠ i by omega)] at h2
  rw [show 160 - 1 - (i - 1) = (160 - 1 - i) + 1 by omega, Nat.pow_succ] at h2
  generalize BB ^ (160 - 1 - i) = P at *
  have e1 : G i * P = (G i - BB) * P + BB * P := by rw [← Nat.add_mul]; congr 1; omega
  rw [e1] at h1
  rw [Nat.add_mul, Nat.one_mul, Nat.mul_comm P BB] at h2
  generalize (G i - BB) * P = x at *
  generalize G (i - 1) * (BB * P) = y at *
  generalize BB * P = z at *
  omega
theorem CIn_top {G : Nat → Nat} {M : Nat} (h : CIn G M) (hM : LtT M) (h0 : BB ≤ G 0) : False := by
  unfold CIn at h
  have h1 := VV_ge G 160 (by decide)
  have h2 : BB * BB ^ (160 - 1) ≤ G 0 * BB ^ (160 - 1) := Nat.mul_le_mul_right _ h0
  have h3 : BB * BB ^ (160 - 1) = TOP := by
    show BB * BB ^ 159 = BB ^ 160
    rw [Nat.mul_comm, ← Nat.pow_succ]
  unfold LtT at hM
  rw [h3] at h2
  rw [h] at h1
  exact absurd (Nat.lt_of_lt_of_le hM (Nat.le_trans h2 h1)) (Nat.lt_irrefl _)
theorem LR_up2 {f : Nat → Int64} {F : Nat → Nat} (h : ∀ i, i < 160 → f i = lN (F i)) (k x : Nat) : ∀ i, i < 160 → vp_updL f k (lN x) i = lN (upN F k x i) := by
  intro i hi
  by_cases e : i = k
  · subst e; rw [upL_self, upN_self]
  · rw [upL_ne e, upN_ne e]; exact h i hi
theorem count_L13 : ∀ (n : Nat) (l4 a b : Int32) (f : Nat → Int64) (G : Nat → Nat) (M i : Nat), (∀ j, j < 160 → f j = lN (G j)) → (∀ j, j < 160 → j ≠ i → G j < BB) → G i ≤ BB → l4.toInt = (i : Int) → i < 160 → 0 ≤ a.toInt → a.toInt ≤ (i : Int) → (i : Int) ≤ b.toInt → b.toInt < 160 → ZO a b G → CIn G M → LtT M → i < n →
    ∃ a' f' G', f_X0_countUp_L13 n l4 a f = some (a', f') ∧ DD a' b f' G' ∧ VV G' 160 = M := by
  intro n
  induction n with
  | zero => intro l4 a b f G M i h1 h2 h3 h4 h5 h6 h7 h8 h9 h10 h11 h12 h13; omega
  | succ n ih =>
    intro l4 a b f G M i h1 h2 h3 h4 h5 h6 h7 h8 h9 h10 h11 h12 h13
    unfold f_X0_countUp_L13
    have done : G i < BB → ∃ a' f' G', some (a, f) = some (a', f') ∧ DD a' b f' G' ∧ VV G' 160 = M := by
      intro hlt
      refine ⟨a, f, G, rfl, ⟨fun j hj => ⟨h1 j hj, ?_⟩, h10, ?_⟩, h11⟩
      · by_cases e : j = i
        · rw [e]; exact hlt
        · exact h2 j hj e
      · unfold Rng; omega
    by_cases c : l4 ≤ 0
    · rw [if_pos c]
      rw [i_le, lit_0] at c
      have hi0 : i = 0 := by omega
      refine done ?_
      rcases Nat.lt_or_ge (G i) BB with h | h
      · exact h
      · rw [hi0] at h
        exact (CIn_top h11 h12 h).elim
    · rw [if_neg c]
      rw [i_le, lit_0] at c
      have hg := i_in (a := l4) (N := 160) (by omega) (by omega)
      rw [if_neg hg]
      have hcl : l4.toNatClampNeg = i := by rw [i_cl]; omega
      rw [hcl, h1 i h5]
      have b1 : G i < 9223372036854775808 := by simp only [BB] at h3; omega
      by_cases c2 : lg_cmp (lN (G i)) 1000000000 < 0
      · rw [if_pos c2]
        refine done ?_
        rcases Nat.lt_or_ge (G i) BB with h | h
        · exact h
        · exfalso
          have h9 : 0 ≤ lg_cmp (lN (G i)) 1000000000 := by
            rw [cmp_ge, l_N b1]
            have : (1000000000 : Int64).toInt = 1000000000 := rfl
            simp only [BB] at h
            omega
          rw [i_lt] at c2
          rw [i_le] at h9
          omega
      · rw [if_neg c2]
        clear done
        have hge : BB ≤ G i := by
          rcases Nat.lt_or_ge (G i) BB with h | h
          · exfalso
            apply c2
            have h9 : ¬ 0 ≤ lg_cmp (lN (G i)) 1000000000 := by
              rw [cmp_ge, l_N b1]
              have : (1000000000 : Int64).toInt = 1000000000 := rfl
              simp only [BB] at h
              omega
            rw [i_lt]
            rw [i_le] at h9
            omega
          · exact h
        have e1 : (l4 - 1).toInt = l4.toInt - 1 := i_s1 (by omega)
        have e1' : (l4 + (-1)).toInt = l4.toInt - 1 := i_m1 (by omega)
        have hg2 := i_in (a := l4 - 1) (N := 160) (by omega) (by omega)
        have hcl2 : (l4 - 1).toNatClampNeg = i - 1 := by rw [i_cl]; omega
        have hg3 : ¬ (l4 < 0 ∨ 160 ≤ i) := by rw [← hcl]; exact hg
        rw [if_neg hg3, if_neg hg3, if_neg hg2, if_neg hg2, hcl2]
        have e2 : lN (G i) - 1000000000 = lN (G i - BB) := by rw [B_lN]; exact lN_sub hge
        rw [e2, upL_ne (show i - 1 ≠ i by omega), h1 (i - 1) (by omega), lN_1]
        have hgp := h2 (i - 1) (by omega) (by omega)
        have ha : (if l4 - 1 < a then l4 - 1 else a).toInt = min (l4.toInt - 1) a.toInt := by
          by_cases c4 : l4 - 1 < a
          · rw [if_pos c4]; rw [i_lt] at c4; omega
          · rw [if_neg c4]; rw [i_lt] at c4; omega
        refine ih (l4 + (-1)) _ b _ (upN (upN G i (G i - BB)) (i - 1) (G (i - 1) + 1)) M (i - 1) (LR_up2 (LR_up2 h1 i _) (i - 1) _) ?_ ?_ (by omega) (by omega) (by omega) (by omega) (by omega) h9 ?_ (CIn_carry h11 (by omega) h5 hge) h12 (by omega)
        · intro j hj hne
          rw [upN_ne hne]
          by_cases e : j = i
          · subst e; rw [upN_self]; simp only [BB] at *; omega
          · rw [upN_ne e]; exact h2 j hj e
        · rw [upN_self]; exact hgp
        · intro j hj hc
          rw [upN_ne (by omega), upN_ne (by omega)]
          exact h10 j hj (by omega)
/-- limbs[end] += unit, with what it carries -/
theorem count_ok {l1 a b : Int32} {l2 : Int64} {f : Nat → Int64} {F : Nat → Nat} {j x : Nat} (h : DD a b f F) (h1 : l1.toInt = (j : Int)) (hj : j < 160) (h2 : l2 = lN x) (hx : F j + x ≤ BB) (ha : a.toInt ≤ (j : Int)) (hb : (j : Int) ≤ b.toInt) (hM : LtT (VV F 160 + x * BB ^ (159 - j))) :
    ∃ a' f' G', f_X0_countUp l1 l2 a f = some (a', f') ∧ DD a' b f' G' ∧ VV G' 160 = VV F 160 + x * BB ^ (159 - j) := by
  obtain ⟨g1, g2, r1, r2, r3, r4⟩ := id h
  unfold f_X0_countUp
  have hg := i_in (a := l1) (N := 160) (by omega) (by omega)
  have hcl : l1.toNatClampNeg = j := by rw [i_cl]; omega
  rw [if_neg hg, if_neg hg, hcl, (g1 j hj).1, h2, lN_add]
  refine count_L13 FU l1 a b _ (upN F j (F j + x)) _ j (LR_up2 (fun i hi => (g1 i hi).1) j _) (fun i hi hne => by rw [upN_ne hne]; exact (g1 i hi).2) (by rw [upN_self]; exact hx) h1 hj r1 ha hb r4 ?_ ?_ hM (by unfold FU; omega)
  · intro i hi hc
    rw [upN_ne (by omega)]
    exact g2 i hi hc
  · unfold CIn
    have h9 := VV_up F j (F j + x) 160 hj
    rw [Nat.add_mul, show 160 - 1 - j = 159 - j by omega] at h9
    generalize F j * BB ^ (159 - j) = A at h9
    generalize x * BB ^ (159 - j) = B at h9 ⊢
    omega
