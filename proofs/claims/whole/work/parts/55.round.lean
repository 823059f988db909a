/-! rounding: half to the even one -/
def rnd (N U : Nat) : Nat := if U < 2 * (N % U) ∨ (2 * (N % U) = U ∧ N / U % 2 = 1) then N / U + 1 else N / U
theorem VV_ne {F : Nat → Nat} : ∀ (d i : Nat), i < d → F i ≠ 0 → VV F d ≠ 0
  | 0, i, h, _ => by omega
  | d + 1, i, h, hn => by
    rw [VV_s]
    by_cases e : i = d
    · subst e; omega
    · have h1 := VV_ne d i (by omega) hn
      intro h3
      rcases Nat.mul_eq_zero.mp (Nat.add_eq_zero_iff.mp h3).1 with h5 | h5
      · exact h1 h5
      · exact absurd h5 (by decide)
theorem VV_low {F : Nat → Nat} (hF : ∀ i, i < 160 → F i < BB) {q : Nat} (hq : q ≤ 160) : (VV F 160 % BB ^ q = 0 ↔ ∀ i, 160 - q ≤ i → i < 160 → F i = 0) := by
  have h := (VV_mod (F := F) (160 - q) q (fun i hi => hF i (by omega))).2
  rw [show 160 - q + q = 160 by omega] at h
  rw [h]
  constructor
  · intro hz i h1 h2
    by_cases hn : F i = 0
    · exact hn
    · exfalso
      refine VV_ne (F := fun j => F (160 - q + j)) q (i - (160 - q)) (by omega) ?_ hz
      show F (160 - q + (i - (160 - q))) ≠ 0
      rw [show 160 - q + (i - (160 - q)) = i by omega]
      exact hn
  · intro hz
    exact VV_zero _ (fun i hi => hz _ (by omega) (by omega))
/-- against the half: X limbs' part, T the rest -/
theorem half_cmp {X T P H : Nat} (hT : T < P) : (H * P < X * P + T ↔ H < X ∨ (X = H ∧ T ≠ 0)) ∧ (X * P + T = H * P ↔ X = H ∧ T = 0) := by
  rcases Nat.lt_trichotomy X H with h | h | h
  · have h1 : (X + 1) * P ≤ H * P := Nat.mul_le_mul_right _ h
    rw [Nat.add_mul] at h1
    generalize H * P = a at *
    generalize X * P = b at *
    constructor <;> constructor <;> intro g <;> omega
  · subst h
    generalize X * P = b at *
    constructor <;> constructor <;> intro g <;> omega
  · have h1 : (H + 1) * P ≤ X * P := Nat.mul_le_mul_right _ h
    rw [Nat.add_mul] at h1
    generalize H * P = a at *
    generalize X * P = b at *
    constructor <;> constructor <;> intro g <;> omega
theorem cmp_ok {x y : Nat} (hx : x < 9223372036854775808) (hy : y < 9223372036854775808) : f_J13_compare_74951 (lN x) (lN y) = some (sgn3 x y) := by
  unfold f_J13_compare_74951 sgn3
  have e1 := cmp_ge (x := lN x) (y := lN y)
  have e2 := cmp_eq (x := lN x) (y := lN y)
  rw [l_N hx, l_N hy] at e1
  rw [pk_lEQ hx hy] at e2
  by_cases c : x < y
  · rw [if_neg (by rw [e1]; omega), if_pos c]
  · rw [if_pos (by rw [e1]; omega), if_neg c]
    by_cases c2 : x = y
    · rw [if_pos (e2.mpr c2), if_pos c2]
    · rw [if_neg (fun h => c2 (e2.mp h)), if_neg c2]
def sgn4 (x y : Nat) (b : Prop) [Decidable b] : Int32 := if x = y ∧ b then 1 else sgn3 x y
/-- sideOfHalf, where its limb and its full are known -/
theorem side_b28 {l4 b : Int32} {s0 : Int64} {f : Nat → Int64} {y full : Nat} (h1 : f_X0_limb l4 f = some (lN y)) (h2 : s0 = lN full) (hf : 0 < full) (hf2 : full ≤ BB) (hy : y < BB) :
    f_X0_sideOfHalf_b28 l4 s0 b f = some (sgn4 (y % full) (full / 2) (l4.toInt < b.toInt)) := by
  unfold f_X0_sideOfHalf_b28
  refine (bd_some h1).trans ?_
  simp only [BB] at hf2 hy
  have hne : ¬ s0 = 0 := by
    rw [h2]
    intro h9
    have := (pk_lEQ (a := full) (b := 0) (by omega) (by decide)).mp h9
    omega
  rw [if_neg hne]
  have e1 : lN y - lN y / s0 * s0 = lN (y % full) := by rw [h2]; exact pk_lRem (by omega) hf (by omega)
  have e2 : s0 / 2 = lN (full / 2) := by rw [h2]; exact pk_lDiv (b := 2) (by omega) (by decide) (by decide)
  have hm : y % full < full := Nat.mod_lt _ hf
  rw [e1, e2]
  refine (bd_some (cmp_ok (by omega) (by omega))).trans ?_
  generalize y % full = X at *
  generalize full / 2 = Y at *
  unfold sgn4
  rcases Nat.lt_trichotomy X Y with h | h | h
  · have e3 : sgn3 X Y = -1 := if_pos h
    rw [e3, if_neg (show ¬ (-1 : Int32) = 0 by decide), if_neg (fun g => by omega)]
  · have e3 : sgn3 X Y = 0 := by unfold sgn3; rw [if_neg (by omega : ¬ X < Y), if_pos h]
    rw [e3, if_pos rfl]
    by_cases c : b ≤ l4
    · rw [if_pos c]
      rw [i_le] at c
      rw [if_neg (fun g => by omega)]
    · rw [if_neg c]
      rw [i_le] at c
      rw [if_pos ⟨h, by omega⟩]
  · have e3 : sgn3 X Y = 1 := by unfold sgn3; rw [if_neg (by omega : ¬ X < Y), if_neg (by omega : ¬ X = Y)]
    rw [e3, if_neg (show ¬ (1 : Int32) = 0 by decide), if_neg (fun g => by omega)]
theorem one_lN : (1 : Int64) = lN 1 := rfl
theorem BB_ten (k : Nat) : BB = 10 ^ (k % 9) * (2 * (5 * 10 ^ (8 - k % 9))) := by
  have h9 : k % 9 < 9 := Nat.mod_lt _ (by decide)
  have : (10 : Nat) ^ 9 = 10 ^ (k % 9) * (10 ^ 1 * 10 ^ (8 - k % 9)) := by
    rw [← Nat.pow_add, ← Nat.pow_add]; congr 1; omega
  rw [show 2 * (5 * 10 ^ (8 - k % 9)) = 10 ^ 1 * 10 ^ (8 - k % 9) by omega]
  exact this
theorem ten_mod0 {k : Nat} : 10 ^ (k % 9) = 1 ↔ k % 9 = 0 := by
  constructor
  · intro h
    by_cases c : k % 9 = 0
    · exact c
    · have : 10 ^ 1 ≤ 10 ^ (k % 9) := Nat.pow_le_pow_right (by decide) (by omega)
      omega
  · intro h; rw [h]
theorem side_core {X T P H M U : Nat} {B : Prop} [Decidable B] (hM : M = X * P + T) (hU : U = 2 * (H * P)) (hT : T < P) (hB : X = H → (T ≠ 0 ↔ B)) : (0 < sgn4 X H B ↔ U < 2 * M) ∧ (sgn4 X H B = 0 ↔ 2 * M = U) := by
  obtain ⟨k1, k2⟩ := half_cmp (X := X) (H := H) hT
  have j1 : U < 2 * M ↔ H * P < X * P + T := by rw [hM, hU]; generalize H * P = a; generalize X * P = b; omega
  have j2 : 2 * M = U ↔ X * P + T = H * P := by rw [hM, hU]; generalize H * P = a; generalize X * P = b; omega
  rw [j1, j2, k1, k2]
  unfold sgn4 sgn3
  by_cases c : X = H ∧ B
  · rw [if_pos c]
    have h1 := (hB c.1).mpr c.2
    exact ⟨⟨fun _ => Or.inr ⟨c.1, h1⟩, fun _ => by decide⟩, ⟨fun h => absurd h (by decide), fun h => absurd h.2 h1⟩⟩
  · rw [if_neg c]
    by_cases c2 : X < H
    · rw [if_pos c2]
      exact ⟨⟨fun h => absurd h (by decide), fun h => by omega⟩, ⟨fun h => absurd h (by decide), fun h => by omega⟩⟩
    · rw [if_neg c2]
      by_cases c3 : X = H
      · rw [if_pos c3]
        have h1 : ¬ T ≠ 0 := fun h => c ⟨c3, (hB c3).mp h⟩
        exact ⟨⟨fun h => absurd h (by decide), fun h => h.elim (fun h => by omega) (fun h => absurd h.2 h1)⟩, ⟨fun _ => ⟨c3, by omega⟩, fun _ => rfl⟩⟩
      · rw [if_neg c3]
        exact ⟨⟨fun _ => Or.inl (by omega), fun _ => by decide⟩, ⟨fun h => absurd h (by decide), fun h => absurd h.1 c3⟩⟩
/-- the rest behind a limb that is no zero -/
theorem rest_last {a b : Int32} {f : Nat → Int64} {F : Nat → Nat} (h : DD a b f F) (ht : TD a b F) {j : Nat} (hj : j < 160) (hn : F j ≠ 0) : VV F 160 % BB ^ (159 - j) ≠ 0 ↔ (j : Int) < b.toInt := by
  obtain ⟨g1, g2, r1, r2, r3, r4⟩ := id h
  have hFB : ∀ i, i < 160 → F i < BB := fun i hi => (g1 i hi).2
  have hlow := VV_low hFB (show 159 - j ≤ 160 by omega)
  have hin : a.toInt ≤ (j : Int) ∧ (j : Int) ≤ b.toInt := by
    constructor
    · by_cases c : a.toInt ≤ (j : Int)
      · exact c
      · exact absurd (g2 j hj (by omega)) hn
    · by_cases c : (j : Int) ≤ b.toInt
      · exact c
      · exact absurd (g2 j hj (by omega)) hn
  constructor
  · intro hne
    by_cases c : (j : Int) < b.toInt
    · exact c
    · exact absurd (hlow.mpr (fun i h1 h2 => g2 i h2 (by omega))) hne
  · intro hlt hz
    exact (ht (by omega)).2 (hlow.mp hz b.toInt.toNat (by omega) (by omega))
/-- what roundsUp answers -/
theorem roundsUp_ok {l1 : Int32} {l2 : Int64} {a b : Int32} {f : Nat → Int64} {F : Nat → Nat} {e : Nat} (h : DD a b f F) (ht : TD a b F) (he : e < 1440) (h1 : l1.toInt = 159 - ((e / 9 : Nat) : Int)) (h2 : l2 = lN (10 ^ (e % 9))) :
    f_X0_roundsUp l1 l2 b f = some (if 10 ^ e < 2 * (VV F 160 % 10 ^ e) ∨ (2 * (VV F 160 % 10 ^ e) = 10 ^ e ∧ VV F 160 / 10 ^ e % 2 = 1) then 1 else 0) := by
  obtain ⟨g1, g2, r1, r2, r3, r4⟩ := id h
  have hFB : ∀ i, i < 160 → F i < BB := fun i hi => (g1 i hi).2
  obtain ⟨t1, t2⟩ := ten9 e
  -- the side
  have hside : ∃ s : Int32, f_X0_sideOfHalf l1 l2 b f = some s ∧ (0 < s ↔ 10 ^ e < 2 * (VV F 160 % 10 ^ e)) ∧ (s = 0 ↔ 2 * (VV F 160 % 10 ^ e) = 10 ^ e) := by
    by_cases c : e % 9 = 0
    · have hu : l2 = 1 := by rw [h2, c]; rfl
      have hc1 : lg_cmp l2 1 = 0 := by rw [hu]; decide
      have e1 : (l1 + 1).toInt = l1.toInt + 1 := i_1 (by omega)
      have hS : f_X0_sideOfHalf l1 l2 b f = f_X0_sideOfHalf_b28 (l1 + 1) 1000000000 b f := by
        unfold f_X0_sideOfHalf
        rw [if_pos hc1]
        unfold f_X0_sideOfHalf_b13
        rw [if_pos hc1]
      have hE : 10 ^ e = BB ^ (e / 9) := by rw [ten_split e, c, Nat.pow_zero, Nat.mul_one]
      by_cases c0 : e / 9 = 0
      · have h9 := side_b28 (b := b) (f := f) (y := 0) (full := BB) (s0 := 1000000000) (limb_out (l := l1 + 1) (by omega)) rfl (by decide) (Nat.le_refl _) (by decide)
        refine ⟨_, hS.trans h9, ?_⟩
        rw [hE, c0, Nat.pow_zero, Nat.mod_one]
        unfold sgn4
        rw [if_neg (fun g => absurd g.1 (by decide))]
        exact ⟨⟨fun h => absurd h (by decide), fun h => absurd h (by decide)⟩, ⟨fun h => absurd h (by decide), fun h => absurd h (by decide)⟩⟩
      · have hj : (l1 + 1).toInt = ((160 - e / 9 : Nat) : Int) := by omega
        have hy := hFB (160 - e / 9) (by omega)
        have h9 := side_b28 (b := b) (f := f) (y := F (160 - e / 9)) (full := BB) (s0 := 1000000000) (limb_ok g1 hj (by omega)) rfl (by decide) (Nat.le_refl _) hy
        refine ⟨_, hS.trans h9, ?_⟩
        rw [Nat.mod_eq_of_lt hy]
        have hP : BB ^ (e / 9) = BB ^ (e / 9 - 1) * BB := by rw [← Nat.pow_succ]; congr 1; omega
        have hl := VV_limb hFB (show e / 9 - 1 < 160 by omega)
        rw [show 159 - (e / 9 - 1) = 160 - e / 9 by omega] at hl
        refine side_core (T := VV F 160 % BB ^ (e / 9 - 1)) (P := BB ^ (e / 9 - 1)) ?_ ?_ (Nat.mod_lt _ (Nat.pow_pos (by decide))) ?_
        · rw [hE, hP, Nat.mod_mul, hl, Nat.mul_comm]
          omega
        · rw [hE, hP]
          generalize BB ^ (e / 9 - 1) = P
          show P * 1000000000 = 2 * (1000000000 / 2 * P)
          omega
        · intro hX
          have hr := rest_last h ht (show 160 - e / 9 < 160 by omega) (by rw [hX]; decide)
          rw [show 159 - (160 - e / 9) = e / 9 - 1 by omega] at hr
          rw [hj]
          exact hr
    · have hu : ¬ lg_cmp l2 1 = 0 := by
        rw [cmp_eq, h2, one_lN]
        intro g
        exact c (ten_mod0.mp ((pk_lEQ (by simp only [BB] at t1; omega) (by decide)).mp g))
      have hS : f_X0_sideOfHalf l1 l2 b f = f_X0_sideOfHalf_b28 l1 l2 b f := by
        unfold f_X0_sideOfHalf
        rw [if_neg hu]
        unfold f_X0_sideOfHalf_b13
        rw [if_neg hu]
      have hj : l1.toInt = ((159 - e / 9 : Nat) : Int) := by omega
      have hy := hFB (159 - e / 9) (by omega)
      have h9 := side_b28 (b := b) (f := f) (y := F (159 - e / 9)) (full := 10 ^ (e % 9)) (s0 := l2) (limb_ok g1 hj (by omega)) h2 t2 (Nat.le_of_lt t1) hy
      refine ⟨_, hS.trans h9, ?_⟩
      have hl := VV_limb hFB (show e / 9 < 160 by omega)
      refine side_core (T := VV F 160 % BB ^ (e / 9)) (P := BB ^ (e / 9)) ?_ ?_ (Nat.mod_lt _ (Nat.pow_pos (by decide))) ?_
      · rw [ten_split e, Nat.mod_mul, ← hl]
        have hd : VV F 160 / BB ^ (e / 9) % BB % 10 ^ (e % 9) = VV F 160 / BB ^ (e / 9) % 10 ^ (e % 9) := by
          generalize VV F 160 / BB ^ (e / 9) = y
          conv => lhs; rw [BB_ten e]
          rw [Nat.mod_mul_right_mod]
        rw [hd, Nat.mul_comm]
        omega
      · rw [ten_split e]
        have h10 : 10 ^ (e % 9) = 2 * (10 ^ (e % 9) / 2) := by
          have : 10 ^ (e % 9) = 2 * (5 * 10 ^ (e % 9 - 1)) := by
            have h8 : (10 : Nat) ^ (e % 9) = 10 ^ 1 * 10 ^ (e % 9 - 1) := by rw [← Nat.pow_add]; congr 1; omega
            omega
          omega
        conv => lhs; rw [h10]
        rw [Nat.mul_comm, Nat.mul_assoc]
      · intro hX
        have hne : F (159 - e / 9) ≠ 0 := by
          intro h0
          rw [h0, Nat.zero_mod] at hX
          have h10 : 10 ^ 1 ≤ 10 ^ (e % 9) := Nat.pow_le_pow_right (by decide) (by omega)
          omega
        have hr := rest_last h ht (show 159 - e / 9 < 160 by omega) hne
        rw [show 159 - (159 - e / 9) = e / 9 by omega] at hr
        rw [hj]
        exact hr
  obtain ⟨s, s1, s2, s3⟩ := hside
  unfold f_X0_roundsUp
  refine (bd_some s1).trans ?_
  by_cases c : 0 < s
  · rw [if_pos c, if_pos (Or.inl (s2.mp c))]
  · rw [if_neg c]
    have c' : ¬ 10 ^ e < 2 * (VV F 160 % 10 ^ e) := fun h => c (s2.mpr h)
    by_cases c2 : s = 0
    · rw [if_pos c2]
      refine (bd_some (limb_ok g1 (j := 159 - e / 9) (by omega) (by omega))).trans ?_
      have hx := hFB (159 - e / 9) (by omega)
      have hy := (VV_limb hFB (show e / 9 < 160 by omega)).symm
      have hne : ¬ l2 = 0 := by
        rw [h2]
        intro h9
        have := (pk_lEQ (a := 10 ^ (e % 9)) (b := 0) (by simp only [BB] at t1; omega) (by decide)).mp h9
        omega
      rw [if_neg hne, h2]
      generalize hX : F (159 - e / 9) = x at *
      have e1 : lN x / lN (10 ^ (e % 9)) = lN (x / 10 ^ (e % 9)) := pk_lDiv (by simp only [BB] at hx; omega) t2 (by simp only [BB] at t1; omega)
      have hle : x / 10 ^ (e % 9) < BB := Nat.lt_of_le_of_lt (Nat.div_le_self _ _) hx
      have e2 : lN (x / 10 ^ (e % 9)) - lN (x / 10 ^ (e % 9)) / 2 * 2 = lN (x / 10 ^ (e % 9) % 2) := pk_lRem (b := 2) (by simp only [BB] at hle; omega) (by decide) (by decide)
      have e3 : x / 10 ^ (e % 9) % 2 = VV F 160 / 10 ^ e % 2 := by
        rw [hy, ten_split e, ← Nat.div_div_eq_div_mul]
        generalize VV F 160 / BB ^ (e / 9) = y
        conv => lhs; rw [BB_ten e]
        rw [Nat.mod_mul_right_div_self, Nat.mod_mul_right_mod]
      rw [e1, e2, e3]
      have e4 : lg_cmp (lN (VV F 160 / 10 ^ e % 2)) 1 = 0 ↔ VV F 160 / 10 ^ e % 2 = 1 := by
        rw [cmp_eq, one_lN]
        exact pk_lEQ (by have := Nat.mod_lt (VV F 160 / 10 ^ e) (show 0 < 2 by decide); omega) (by decide)
      by_cases c3 : VV F 160 / 10 ^ e % 2 = 1
      · rw [if_pos (e4.mpr c3), if_pos (Or.inr ⟨s3.mp c2, c3⟩)]
      · rw [if_neg (fun h => c3 (e4.mp h)), if_neg (fun h => h.elim c' (fun h => c3 h.2))]
    · rw [if_neg c2, if_neg (fun h => h.elim c' (fun h => c2 (s3.mpr h.1)))]
