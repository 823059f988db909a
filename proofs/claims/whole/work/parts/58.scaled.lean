/-! takeScaled, topPlace, setDigit, isWide -/
theorem pre_val {F : Nat → Nat} {Z : Nat} (h1 : ∀ t, t < 33 → F t = 0) (h2 : F 33 = Z / BB) (h3 : F 34 = Z % BB) (h4 : ∀ t, 34 < t → t < 160 → F t = 0) : VV F 160 = Z * KK := by
  have e1 : VV F 35 = Z := by
    rw [show (35 : Nat) = 33 + 1 + 1 from rfl, VV_s, VV_s, VV_zero 33 h1, h2, h3, Nat.zero_mul, Nat.zero_add, Nat.mul_comm]
    exact Nat.div_add_mod Z BB
  have e2 := VV_tail (F := F) 35 125 (fun i g1 g2 => h4 i (by omega) (by omega))
  rw [show 35 + 125 = 160 from rfl, e1] at e2
  exact e2
theorem c33 : Int32.toNatClampNeg 33 = 33 := rfl
theorem c34 : Int32.toNatClampNeg 34 = 34 := rfl
theorem takeScaled_ok {l1 : Int64} {l3 a b : Int32} {f : Nat → Int64} {F : Nat → Nat} {Z : Nat} (h0 : DD a b f F) (h1 : l1 = lN Z) (hZ : Z < BB * BB) (g1 : -3000 < l3.toInt) (g2 : l3.toInt < 3000) (h : LtT (2 ^ l3.toInt.toNat * (Z * KK))) :
    ∃ a' b' f' G', f_X0_takeScaled l1 l3 a b f = some (a', b', f') ∧ DD a' b' f' G' ∧ TD a' b' G' ∧ VV G' 160 = 2 ^ l3.toInt.toNat * (Z * KK) / 2 ^ (-l3.toInt).toNat := by
  obtain ⟨g0, u1, u2⟩ := wipe_ok h0
  have hZ9 : Z < 2 ^ 63 := Nat.lt_of_lt_of_le hZ (by decide)
  have hd : Z / BB < BB := (Nat.div_lt_iff_lt_mul (by decide)).mpr hZ
  have e1 : l1 / 1000000000 = lN (Z / BB) := by rw [h1, B_lN]; exact pk_lDiv hZ9 (by decide) (by decide)
  have e2 : l1 - l1 / 1000000000 * 1000000000 = lN (Z % BB) := by rw [h1, B_lN]; exact pk_lRem hZ9 (by decide) (by decide)
  obtain ⟨F1, hF1⟩ : ∃ F1, F1 = upN (upN (fun _ => 0) 33 (Z / BB)) 34 (Z % BB) := ⟨_, rfl⟩
  have hL : LR (vp_updL (vp_updL g0 33 (lN (Z / BB))) 34 (lN (Z % BB))) F1 := by
    rw [hF1]; exact LR_up (LR_up u2.1 hd) (Nat.mod_lt _ (by decide))
  have h33 : (33 : Int32).toInt = 33 := rfl
  have h34 : (34 : Int32).toInt = 34 := rfl
  have hz : ∀ t, t ≠ 33 → t ≠ 34 → F1 t = 0 := fun t q1 q2 => by rw [hF1, upN_ne q2, upN_ne q1]
  have hD : DD 33 34 (vp_updL (vp_updL g0 33 (lN (Z / BB))) 34 (lN (Z % BB))) F1 := by
    refine ⟨hL, fun t ht hc => ?_, ?_⟩
    · rw [h33, h34] at hc
      exact hz t (by omega) (by omega)
    · unfold Rng; rw [h33, h34]; omega
  have hV : VV F1 160 = Z * KK := pre_val (fun t ht => hz t (by omega) (by omega)) (by rw [hF1, upN_ne (by decide), upN_self]) (by rw [hF1, upN_self]) (fun t q1 q2 => hz t (by omega) (by omega))
  obtain ⟨a2, b2, w1, w2, w3⟩ := trim_ok hD
  obtain ⟨a3, b3, f3, G3, x1, x2, x3, x4⟩ := sc_ok w2 w3 g1 g2 (by rw [hV]; exact h)
  refine ⟨a3, b3, f3, G3, ?_, x2, x3, by rw [x4, hV]⟩
  unfold f_X0_takeScaled
  rw [u1, Option.bind_some]
  show ((f_X0_trim 33 34 (vp_updL (vp_updL g0 (Int32.toNatClampNeg 33) (l1 / 1000000000)) (Int32.toNatClampNeg 34) (l1 - l1 / 1000000000 * 1000000000))).bind _) = _
  rw [e2, e1, c33, c34, w1, Option.bind_some]
  show ((f_X0_scale l3 a2 b2 (vp_updL (vp_updL g0 33 (lN (Z / BB))) 34 (lN (Z % BB)))).bind _) = _
  rw [x1, Option.bind_some]
/-- the place of the first digit -/
theorem TENS_lN : ∀ k, k < 9 → TENS_f k = lN (10 ^ k) := by decide
theorem top_L20 : ∀ (n : Nat) (l1 : Int64) (l3 a : Int32) (f : Nat → Int64) (x k : Nat), l1 = lN x → x < BB → 0 < x → l3.toInt = (k : Int) → k ≤ 8 → x < 10 ^ (k + 1) → k < n →
    ∃ m : Nat, m ≤ 8 ∧ 10 ^ m ≤ x ∧ x < 10 ^ (m + 1) ∧ f_X0_topPlace_L20 n l1 l3 a f = some ((34 - a) * 9 + nI m) := by
  intro n
  induction n with
  | zero => intro l1 l3 a f x k h1 h2 h3 h4 h5 h6 h7; omega
  | succ n ih =>
    intro l1 l3 a f x k h1 h2 h3 h4 h5 h6 h7
    unfold f_X0_topPlace_L20
    have hk : l3 = nI k := nI_of_toInt h4 (by omega)
    by_cases c : l3 ≤ 0
    · rw [if_pos c]
      rw [i_le, lit_0] at c
      have hk0 : k = 0 := by omega
      refine ⟨k, h5, by rw [hk0]; omega, h6, ?_⟩
      rw [hk]; rfl
    · rw [if_neg c]
      rw [i_le, lit_0] at c
      have hcl : l3.toNatClampNeg = k := by rw [i_cl]; omega
      rw [if_neg (i_in (by omega) (by omega)), hcl, TENS_lN k (by omega), h1]
      have b1 : x < 9223372036854775808 := by simp only [BB] at h2; omega
      have b2 : 10 ^ k < 9223372036854775808 := Nat.lt_of_le_of_lt (Nat.pow_le_pow_right (by decide) h5) (by decide : 10 ^ 8 < 9223372036854775808)
      by_cases c2 : 0 ≤ lg_cmp (lN x) (lN (10 ^ k))
      · rw [if_pos c2]
        rw [cmp_ge, l_N b1, l_N b2] at c2
        refine ⟨k, h5, by omega, h6, ?_⟩
        rw [hk]; rfl
      · rw [if_neg c2]
        rw [cmp_ge, l_N b1, l_N b2] at c2
        have e1 : (l3 + (-1)).toInt = l3.toInt - 1 := i_m1 (by omega)
        exact ih (lN x) (l3 + (-1)) a f x (k - 1) rfl h2 h3 (by omega) (by omega) (by rw [show k - 1 + 1 = k by omega]; omega) (by omega)
theorem topPlace_ok {a b : Int32} {f : Nat → Int64} {F : Nat → Nat} (h : DD a b f F) (ht : TD a b F) (hn : VV F 160 ≠ 0) : ∃ (r : Int32) (e : Nat), f_X0_topPlace a f = some r ∧ r.toInt = (e : Int) - 1125 ∧ 10 ^ e ≤ VV F 160 ∧ VV F 160 < 10 ^ (e + 1) ∧ e < 1440 := by
  obtain ⟨g1, g2, r1, r2, r3, r4⟩ := id h
  have hab : a.toInt ≤ b.toInt := by
    by_cases c : a.toInt ≤ b.toInt
    · exact c
    · exact absurd (VV_zero 160 (fun i hi => g2 i hi (by omega))) hn
  obtain ⟨j, hj⟩ : ∃ j : Nat, a.toInt = (j : Int) := ⟨a.toInt.toNat, by omega⟩
  have hj160 : j < 160 := by omega
  have hx0 : F j ≠ 0 := by
    have := (ht hab).1
    rwa [show a.toInt.toNat = j by omega] at this
  have hxB := (g1 j hj160).2
  obtain ⟨m, m1, m2, m3, m4⟩ := top_L20 FU (lN (F j)) 8 a f (F j) 8 rfl hxB (Nat.pos_of_ne_zero hx0) rfl (Nat.le_refl _) (Nat.lt_of_lt_of_le hxB (by decide)) (by decide)
  have hN : VV F 160 / BB ^ (159 - j) = F j := by
    rw [VV_pre (fun i hi => (g1 i hi).2) (by omega), show 160 - (159 - j) = j + 1 by omega, VV_s, VV_zero j (fun i hi => g2 i (by omega) (by omega)), Nat.zero_mul, Nat.zero_add]
  have hE : ∀ k, 10 ^ (9 * (159 - j) + k) = BB ^ (159 - j) * 10 ^ k := fun k => by rw [Nat.pow_add, Nat.pow_mul]
  have h34 : (34 : Int32).toInt = 34 := rfl
  have h9 : (9 : Int32).toInt = 9 := rfl
  have e1 : (34 - a).toInt = 34 - a.toInt := by rw [i_sub (by rw [h34]; omega) (by rw [h34]; omega), h34]
  have e2 : ((34 - a) * 9).toInt = (34 - a.toInt) * 9 := by rw [i_mul (by rw [e1, h9]; omega) (by rw [e1, h9]; omega), e1, h9]
  have e3 : (nI m).toInt = (m : Int) := nI_toInt (by omega)
  have e4 : ((34 - a) * 9 + nI m).toInt = (34 - a.toInt) * 9 + m := by rw [i_add (by rw [e2, e3]; omega) (by rw [e2, e3]; omega), e2, e3]
  refine ⟨_, 9 * (159 - j) + m, ?_, by rw [e4]; omega, ?_, ?_, by omega⟩
  · unfold f_X0_topPlace
    rw [limb_ok g1 hj hj160, Option.bind_some, if_neg ?_]
    · exact m4
    · rw [cmp_eq]
      intro g
      exact hx0 ((pk_lEQ (a := F j) (b := 0) (by simp only [BB] at hxB; omega) (by decide)).mp g)
  · rw [hE]
    have := (Nat.le_div_iff_mul_le (Nat.pow_pos (by decide : 0 < BB))).mp (hN ▸ m2 : 10 ^ m ≤ VV F 160 / BB ^ (159 - j))
    rwa [Nat.mul_comm] at this
  · rw [Nat.add_assoc, hE]
    have := (Nat.div_lt_iff_lt_mul (Nat.pow_pos (by decide : 0 < BB))).mp (hN ▸ m3 : VV F 160 / BB ^ (159 - j) < 10 ^ (m + 1))
    rwa [Nat.mul_comm] at this
theorem topPlace_zero {a b : Int32} {f : Nat → Int64} {F : Nat → Nat} (h : DD a b f F) (hz : VV F 160 = 0) : f_X0_topPlace a f = some 0 := by
  obtain ⟨g1, g2, r1, r2, r3, r4⟩ := id h
  have hall : ∀ i, i < 160 → F i = 0 := fun i hi => by
    by_cases c : F i = 0
    · exact c
    · exact absurd hz (VV_ne 160 i hi c)
  unfold f_X0_topPlace
  have : f_X0_limb a f = some (lN 0) := by
    by_cases c : a.toInt < 160
    · rw [limb_ok g1 (j := a.toInt.toNat) (by omega) (by omega), hall _ (by omega)]
    · exact limb_out (by omega)
  rw [this, Option.bind_some, if_pos (by decide)]
