/-! places: e = place + 1125 counts from the last digit that the limbs hold -/
abbrev KK : Nat := BB ^ 125
theorem limbOf_dec : ∀ k : Nat, k < 2600 → f_X0_limbOf (Int32.ofInt ((k : Int) - 1300)) = some (Int32.ofInt (34 - ((k : Int) - 1300) / 9)) ∧ f_X0_unitOf (Int32.ofInt ((k : Int) - 1300)) = some (lN (10 ^ (((k : Int) - 1300) % 9).toNat)) := by decide +kernel
theorem i_ofInt (a : Int32) : Int32.ofInt a.toInt = a := Int32.ofInt_toInt a
theorem limbOf_ok {l : Int32} {e : Nat} (h : l.toInt = (e : Int) - 1125) (he : e < 1440) : ∃ r : Int32, f_X0_limbOf l = some r ∧ r.toInt = 159 - ((e / 9 : Nat) : Int) := by
  have h1 := (limbOf_dec (e + 175) (by omega)).1
  rw [show (((e + 175 : Nat) : Int) - 1300) = l.toInt by omega, i_ofInt] at h1
  refine ⟨_, h1, ?_⟩
  rw [i_of _ (by omega) (by omega)]
  omega
theorem unitOf_ok {l : Int32} {e : Nat} (h : l.toInt = (e : Int) - 1125) (he : e < 1440) : f_X0_unitOf l = some (lN (10 ^ (e % 9))) := by
  have h1 := (limbOf_dec (e + 175) (by omega)).2
  rw [show (((e + 175 : Nat) : Int) - 1300) = l.toInt by omega, i_ofInt] at h1
  rw [h1, h]
  congr 3
  omega
theorem ten9 (k : Nat) : 10 ^ (k % 9) < BB ∧ 0 < 10 ^ (k % 9) := by
  have h : k % 9 < 9 := Nat.mod_lt _ (by decide)
  have h1 : 10 ^ (k % 9) ≤ 10 ^ 8 := Nat.pow_le_pow_right (by decide) (by omega)
  refine ⟨Nat.lt_of_le_of_lt h1 (by decide), Nat.pow_pos (by decide)⟩
theorem ten_split (e : Nat) : 10 ^ e = BB ^ (e / 9) * 10 ^ (e % 9) := by
  have h : BB ^ (e / 9) = 10 ^ (9 * (e / 9)) := by rw [Nat.pow_mul]
  rw [h, ← Nat.pow_add, Nat.div_add_mod]
/-- a limb out of the number -/
theorem VV_limb {F : Nat → Nat} (hF : ∀ i, i < 160 → F i < BB) {q : Nat} (hq : q < 160) : VV F 160 / BB ^ q % BB = F (159 - q) := by
  have h := (VV_mod (F := F) (160 - q) q (fun i hi => hF i (by omega))).1
  rw [show 160 - q + q = 160 by omega] at h
  rw [h, show 160 - q = (159 - q) + 1 by omega, VV_s, Nat.mul_comm, Nat.mul_add_mod, Nat.mod_eq_of_lt (hF _ (by omega))]
theorem VV_pre {F : Nat → Nat} (hF : ∀ i, i < 160 → F i < BB) {q : Nat} (hq : q ≤ 160) : VV F 160 / BB ^ q = VV F (160 - q) := by
  have h := (VV_mod (F := F) (160 - q) q (fun i hi => hF i (by omega))).1
  rw [show 160 - q + q = 160 by omega] at h
  exact h
theorem limb_ok {l : Int32} {f : Nat → Int64} {F : Nat → Nat} {j : Nat} (hf : LR f F) (h : l.toInt = (j : Int)) (hj : j < 160) : f_X0_limb l f = some (lN (F j)) := by
  unfold f_X0_limb
  rw [if_neg (by rw [i_lt, lit_0]; omega), if_neg (by rw [i_le, lit_160]; omega), if_neg (i_in (by omega) (by omega)), i_cl, show l.toInt.toNat = j by omega, (hf j hj).1]
theorem limb_out {l : Int32} {f : Nat → Int64} (h : l.toInt < 0 ∨ 160 ≤ l.toInt) : f_X0_limb l f = some (lN 0) := by
  unfold f_X0_limb
  by_cases c : l < 0
  · rw [if_pos c]; rfl
  · rw [if_neg c]
    rw [i_lt, lit_0] at c
    rw [if_pos (by rw [i_le, lit_160]; omega)]; rfl
theorem ten_lN : (10 : Int64) = lN 10 := rfl
theorem digit_ok {l : Int32} {f : Nat → Int64} {F : Nat → Nat} {e : Nat} (hf : LR f F) (h : l.toInt = (e : Int) - 1125) (he : e < 1440) : f_X0_digit l f = some (nI (VV F 160 / 10 ^ e % 10)) := by
  unfold f_X0_digit
  obtain ⟨r, h1, h2⟩ := limbOf_ok h he
  have hq : e / 9 < 160 := by omega
  have hj : r.toInt = ((159 - e / 9 : Nat) : Int) := by omega
  refine (bd_some h1).trans ?_
  refine (bd_some (limb_ok hf hj (by omega))).trans ?_
  refine (bd_some (unitOf_ok h he)).trans ?_
  obtain ⟨t1, t2⟩ := ten9 e
  have hx := (hf (159 - e / 9) (by omega)).2
  generalize hX : F (159 - e / 9) = x at *
  have hne : ¬ lN (10 ^ (e % 9)) = 0 := by
    intro h9
    have := (pk_lEQ (a := 10 ^ (e % 9)) (b := 0) (by simp only [BB] at t1; omega) (by decide)).mp h9
    omega
  rw [if_neg hne]
  have e1 : lN x / lN (10 ^ (e % 9)) = lN (x / 10 ^ (e % 9)) := pk_lDiv (by simp only [BB] at hx; omega) t2 (by simp only [BB] at t1; omega)
  have hle : x / 10 ^ (e % 9) < BB := Nat.lt_of_le_of_lt (Nat.div_le_self _ _) hx
  have e2 : lN (x / 10 ^ (e % 9)) - lN (x / 10 ^ (e % 9)) / lN 10 * lN 10 = lN (x / 10 ^ (e % 9) % 10) := pk_lRem (by simp only [BB] at hle; omega) (by decide) (by decide)
  rw [e1, ten_lN, e2, lN_i]
  congr 2
  rw [ten_split e, ← Nat.div_div_eq_div_mul, ← hX, ← VV_limb (fun i hi => (hf i hi).2) hq]
  generalize VV F 160 / BB ^ (e / 9) = y
  -- a limb's digit is the number's
  have h9 : e % 9 < 9 := Nat.mod_lt _ (by decide)
  have hB : BB = 10 ^ (e % 9) * (10 * 10 ^ (8 - e % 9)) := by
    have : (10 : Nat) ^ 9 = 10 ^ (e % 9) * (10 ^ 1 * 10 ^ (8 - e % 9)) := by
      rw [← Nat.pow_add, ← Nat.pow_add]; congr 1; omega
    exact this
  rw [hB, Nat.mod_mul_right_div_self, Nat.mod_mul_right_mod]
theorem whole_ok {f : Nat → Int64} {F : Nat → Nat} (hf : LR f F) : f_X0_whole f = some (lN (F 33 * BB + F 34)) := by
  unfold f_X0_whole
  have e1 : Int32.toNatClampNeg 33 = 33 := rfl
  have e2 : Int32.toNatClampNeg 34 = 34 := rfl
  rw [e1, e2, (hf 33 (by decide)).1, (hf 34 (by decide)).1, B_lN, lN_mul, lN_add]
/-- two numbers, limb by limb -/
theorem VV_cmp {F G : Nat → Nat} {i : Nat} (hF : ∀ j, j < 160 → F j < BB) (hi : i < 160) (he : ∀ j, j < i → F j = G j) (hlt : F i < G i) : VV F 160 < VV G 160 := by
  have key : ∀ d, i + 1 + d ≤ 160 → VV F (i + 1 + d) < VV G (i + 1 + d) := by
    intro d
    induction d with
    | zero =>
      intro _
      rw [Nat.add_zero, VV_s, VV_s, VV_congr i he]
      omega
    | succ d ih =>
      intro hd
      have h1 := ih (by omega)
      have h2 := hF (i + 1 + d) (by omega)
      rw [show i + 1 + (d + 1) = (i + 1 + d) + 1 from rfl, VV_s, VV_s]
      have h3 : (VV F (i + 1 + d) + 1) * BB ≤ VV G (i + 1 + d) * BB := Nat.mul_le_mul_right _ h1
      rw [Nat.add_mul] at h3
      omega
  have h := key (159 - i) (by omega)
  rwa [show i + 1 + (159 - i) = 160 by omega] at h
def sgn3 (x y : Nat) : Int32 := if x < y then -1 else if x = y then 0 else 1
theorem cmp_L24 : ∀ (n : Nat) (l2 l3 a b : Int32) (f : Nat → Int64) (a' b' : Int32) (g : Nat → Int64) (F G : Nat → Nat) (i : Nat), LR f F → LR g G → l3.toInt = (i : Int) → i ≤ 160 → l2.toInt < 160 → (∀ j, j < i → F j = G j) → (∀ j : Nat, j < 160 → l2.toInt < (j : Int) → F j = G j) → 160 - i < n →
    f_X0_comparedTo_L24 n l2 l3 a b f a' b' g = some (sgn3 (VV F 160) (VV G 160)) := by
  intro n
  induction n with
  | zero => intro l2 l3 a b f a' b' g F G i h1 h2 h3 h4 h5 h6 h7 h8; omega
  | succ n ih =>
    intro l2 l3 a b f a' b' g F G i h1 h2 h3 h4 h5 h6 h7 h8
    unfold f_X0_comparedTo_L24
    by_cases c : l2 < l3
    · rw [if_pos c]
      rw [i_lt] at c
      have : VV F 160 = VV G 160 := VV_congr 160 (fun j hj => by
        by_cases hj2 : j < i
        · exact h6 j hj2
        · exact h7 j hj (by omega))
      rw [this]
      unfold sgn3
      rw [if_neg (Nat.lt_irrefl _), if_pos rfl]
    · rw [if_neg c]
      rw [i_lt] at c
      have hg := i_in (a := l3) (N := 160) (by omega) (by omega)
      rw [if_neg hg, if_neg hg, if_neg hg, if_neg hg, i_cl, show l3.toInt.toNat = i by omega]
      have hf := h1 i (by omega)
      have hgg := h2 i (by omega)
      have b1 : F i < 9223372036854775808 := by have := hf.2; simp only [BB] at this; omega
      have b2 : G i < 9223372036854775808 := by have := hgg.2; simp only [BB] at this; omega
      rw [hf.1, hgg.1]
      by_cases c2 : lg_cmp (lN (F i)) (lN (G i)) = 0
      · rw [if_pos c2]
        rw [cmp_eq] at c2
        have he := (pk_lEQ b1 b2).mp c2
        have e1 : (l3 + 1).toInt = l3.toInt + 1 := i_1 (by omega)
        refine ih l2 (l3 + 1) a b f a' b' g F G (i + 1) h1 h2 (by omega) (by omega) h5 (fun j hj => ?_) h7 (by omega)
        by_cases hji : j = i
        · subst hji; exact he
        · exact h6 j (by omega)
      · rw [if_neg c2]
        rw [cmp_eq] at c2
        have hne : F i ≠ G i := fun h => c2 (by rw [h])
        by_cases c3 : 0 ≤ lg_cmp (lN (F i)) (lN (G i))
        · rw [if_pos c3]
          rw [cmp_ge, l_N b1, l_N b2] at c3
          have := VV_cmp (F := G) (G := F) (fun j hj => (h2 j hj).2) (show i < 160 by omega) (fun j hj => (h6 j hj).symm) (by omega)
          unfold sgn3
          rw [if_neg (by omega), if_neg (by omega)]
        · rw [if_neg c3]
          rw [cmp_ge, l_N b1, l_N b2] at c3
          have := VV_cmp (F := F) (G := G) (fun j hj => (h1 j hj).2) (show i < 160 by omega) h6 (by omega)
          unfold sgn3
          rw [if_pos this]
theorem compared_ok {a b a' b' : Int32} {f g : Nat → Int64} {F G : Nat → Nat} (h1 : DD a b f F) (h2 : DD a' b' g G) : f_X0_comparedTo a b f a' b' g = some (sgn3 (VV F 160) (VV G 160)) := by
  obtain ⟨p1, p2, p3, p4, p5, p6⟩ := h1
  obtain ⟨q1, q2, q3, q4, q5, q6⟩ := h2
  unfold f_X0_comparedTo
  have e1 : (if b < b' then b' else b).toInt = max b.toInt b'.toInt := by
    by_cases c : b < b'
    · rw [if_pos c]; rw [i_lt] at c; omega
    · rw [if_neg c]; rw [i_lt] at c; omega
  have e2 : (if a' < a then a' else a).toInt = min a.toInt a'.toInt := by
    by_cases c : a' < a
    · rw [if_pos c]; rw [i_lt] at c; omega
    · rw [if_neg c]; rw [i_lt] at c; omega
  exact cmp_L24 FU _ _ a b f a' b' g F G (min a.toInt a'.toInt).toNat p1 q1 (by omega) (by omega) (by omega) (fun j hj => by rw [p2 j (by omega) (by omega), q2 j (by omega) (by omega)]) (fun j hj hc => by rw [p2 j hj (by omega), q2 j hj (by omega)]) (by unfold FU; omega)
