/-! takeRounded -/
theorem cut_val {F G : Nat → Nat} {e j : Nat} (hF : ∀ i, i < 160 → F i < BB) (he : e < 1440) (hj : j = 159 - e / 9) (h1 : ∀ t, t < j → G t = F t) (h2 : G j = F j - F j % 10 ^ (e % 9)) (h3 : ∀ t, j < t → t < 160 → G t = 0) : VV G 160 = VV F 160 / 10 ^ e * 10 ^ e := by
  have hq : e / 9 < 160 := by omega
  have e1 : VV G 160 = VV G (j + 1) * BB ^ (e / 9) := by
    have := VV_tail (F := G) (j + 1) (e / 9) (fun i g1 g2 => h3 i (by omega) (by omega))
    rwa [show j + 1 + e / 9 = 160 by omega] at this
  have e2 : VV F 160 / BB ^ (e / 9) = VV F j * BB + F j := by
    rw [VV_pre hF (by omega), show 160 - e / 9 = j + 1 by omega, VV_s]
  have e3 : F j % 10 ^ (e % 9) = (VV F j * BB + F j) % 10 ^ (e % 9) := by
    rw [BB_ten e, Nat.mul_comm (VV F j), Nat.mul_assoc, Nat.mul_add_mod]
  have e4 : VV G (j + 1) = (VV F j * BB + F j) / 10 ^ (e % 9) * 10 ^ (e % 9) := by
    rw [VV_s, VV_congr (F := G) (G := F) j h1, h2]
    have h5 := Nat.div_add_mod (VV F j * BB + F j) (10 ^ (e % 9))
    have h6 : F j % 10 ^ (e % 9) ≤ F j := Nat.mod_le _ _
    rw [← e3, Nat.mul_comm] at h5
    generalize F j % 10 ^ (e % 9) = r at *
    generalize (VV F j * BB + F j) / 10 ^ (e % 9) * 10 ^ (e % 9) = z at *
    generalize VV F j * BB = w at *
    omega
  rw [e1, e4, ten_split e, ← Nat.div_div_eq_div_mul, e2, Nat.mul_assoc, Nat.mul_comm (10 ^ (e % 9))]
theorem unit_fit {x k : Nat} (hx : x < BB) : x - x % 10 ^ (k % 9) + 10 ^ (k % 9) ≤ BB := by
  have h1 := Nat.div_add_mod x (10 ^ (k % 9))
  have h2 : x / 10 ^ (k % 9) < 2 * (5 * 10 ^ (8 - k % 9)) := by
    refine Nat.div_lt_of_lt_mul ?_
    rw [← BB_ten k]; exact hx
  have h3 : 10 ^ (k % 9) * (x / 10 ^ (k % 9) + 1) ≤ 10 ^ (k % 9) * (2 * (5 * 10 ^ (8 - k % 9))) := Nat.mul_le_mul_left _ h2
  rw [← BB_ten k, Nat.mul_add, Nat.mul_one] at h3
  generalize 10 ^ (k % 9) * (x / 10 ^ (k % 9)) = q at *
  generalize x % 10 ^ (k % 9) = r at *
  generalize 10 ^ (k % 9) = u at *
  omega
theorem cut_lN {x k : Nat} (hx : x < BB) : lN x - (lN x - lN x / lN (10 ^ (k % 9)) * lN (10 ^ (k % 9))) = lN (x - x % 10 ^ (k % 9)) := by
  obtain ⟨t1, t2⟩ := ten9 k
  simp only [BB] at hx t1
  have e1 : lN x - lN x / lN (10 ^ (k % 9)) * lN (10 ^ (k % 9)) = lN (x % 10 ^ (k % 9)) := pk_lRem (by omega) t2 (by omega)
  rw [e1, lN_sub (Nat.mod_le _ _)]
theorem tr_L27 : ∀ (n : Nat) (l2 l3 l4 a b : Int32) (g : Nat → Int64) (a1 b1 : Int32) (f : Nat → Int64) (F G : Nat → Nat) (e i : Nat), DD a1 b1 f F → TD a1 b1 F → l2.toInt = (e : Int) - 1125 → e < 1440 → l3.toInt = 159 - ((e / 9 : Nat) : Int) → l4.toInt = (i : Int) → i ≤ 160 → (a1.toInt ≤ (i : Int)) → ((i : Int) ≤ l3.toInt + 1 ∨ (i : Int) = a1.toInt) → LR g G → (∀ t : Nat, t < i → (t : Int) ≤ l3.toInt → G t = F t) → (∀ t : Nat, t < 160 → (i ≤ t ∨ l3.toInt < (t : Int)) → G t = 0) → LtT (VV F 160 + 10 ^ e) → 160 - i < n →
    ∃ a' b' f' G', f_X0_takeRounded_L27 n l2 l3 l4 a b g a1 b1 f = some (a', b', f') ∧ DD a' b' f' G' ∧ TD a' b' G' ∧ VV G' 160 = rnd (VV F 160) (10 ^ e) * 10 ^ e := by
  intro n
  induction n with
  | zero => intro l2 l3 l4 a b g a1 b1 f F G e i h ht h1 h2 h3 h4 h5 h6 h7 h8 h9 h10 h11 h12; omega
  | succ n ih =>
    intro l2 l3 l4 a b g a1 b1 f F G e i h ht h1 h2 h3 h4 h5 h6 h7 h8 h9 h10 h11 h12
    obtain ⟨g1, g2, r1, r2, r3, r4⟩ := id h
    have hFB : ∀ i, i < 160 → F i < BB := fun i hi => (g1 i hi).2
    unfold f_X0_takeRounded_L27
    have hgj := i_in (a := l3) (N := 160) (by omega) (by omega)
    have hq : e / 9 < 160 := by omega
    obtain ⟨j, hj⟩ : ∃ j, j = 159 - e / 9 := ⟨_, rfl⟩
    have hj3 : l3.toInt = (j : Int) := by omega
    have hclj : l3.toNatClampNeg = j := by rw [i_cl]; omega
    by_cases c : l3 < l4
    · rw [if_pos c]
      rw [i_lt] at c
      refine Exists.imp (fun _ => id) ?_
      obtain ⟨t1, t2⟩ := ten9 e
      have hne : ¬ lN (10 ^ (e % 9)) = 0 := by
        intro h9
        have := (pk_lEQ (a := 10 ^ (e % 9)) (b := 0) (by simp only [BB] at t1; omega) (by decide)).mp h9
        omega
      -- the cut limbs
      have hGj : G j = F j := h9 j (by omega) (by omega)
      have hcut : vp_updL g j (g j - (g j - g j / lN (10 ^ (e % 9)) * lN (10 ^ (e % 9)))) = vp_updL g j (lN (F j - F j % 10 ^ (e % 9))) := by
        rw [(h8 j (by omega)).1, hGj, cut_lN (hFB j (by omega))]
      obtain ⟨G1, hG1⟩ : ∃ G1, G1 = upN G j (F j - F j % 10 ^ (e % 9)) := ⟨_, rfl⟩
      have hlt : F j - F j % 10 ^ (e % 9) < BB := Nat.lt_of_le_of_lt (Nat.sub_le _ _) (hFB j (by omega))
      have hL1 : LR (vp_updL g j (lN (F j - F j % 10 ^ (e % 9)))) G1 := by rw [hG1]; exact LR_up h8 hlt
      have hV1 : VV G1 160 = VV F 160 / 10 ^ e * 10 ^ e := by
        refine cut_val hFB h2 hj (fun t ht9 => ?_) (by rw [hG1, upN_self]) (fun t ht9 ht8 => ?_)
        · rw [hG1, upN_ne (by omega)]; exact h9 t (by omega) (by omega)
        · rw [hG1, upN_ne (by omega)]; exact h10 t ht8 (by omega)
      have ha : (if l3 < a1 then l3 else a1).toInt = min l3.toInt a1.toInt := by
        by_cases c4 : l3 < a1
        · rw [if_pos c4]; rw [i_lt] at c4; omega
        · rw [if_neg c4]; rw [i_lt] at c4; omega
      obtain ⟨aa, haa⟩ : ∃ aa, aa = (if l3 < a1 then l3 else a1) := ⟨_, rfl⟩
      rw [← haa] at ha
      have hD1 : DD aa l3 (vp_updL g j (lN (F j - F j % 10 ^ (e % 9)))) G1 := by
        refine ⟨hL1, fun t ht9 hc => ?_, ?_⟩
        · rw [hG1]
          by_cases hlt2 : (t : Int) < l3.toInt
          · rw [upN_ne (by omega), h9 t (by omega) (by omega)]
            exact g2 t ht9 (by omega)
          · rw [upN_ne (by omega)]
            exact h10 t ht9 (by omega)
        · unfold Rng; omega
      have hle : VV F 160 / 10 ^ e * 10 ^ e ≤ VV F 160 := Nat.div_mul_le_self _ _
      have hE : 10 ^ (e % 9) * BB ^ (159 - j) = 10 ^ e := by rw [ten_split e, Nat.mul_comm, show 159 - j = e / 9 by omega]
      have hru := roundsUp_ok h ht h2 h3 (rfl : lN (10 ^ (e % 9)) = lN (10 ^ (e % 9)))
      have main : ∃ a' b' f' G', ((f_X0_roundsUp l3 (lN (10 ^ (e % 9))) b1 f).bind fun r98 => (if r98 = 0 then ((f_X0_trim aa l3 (vp_updL g j (lN (F j - F j % 10 ^ (e % 9))))).bind fun (x : Int32 × Int32) => match x with | (v1, v2) => some (v1, v2, (vp_updL g j (lN (F j - F j % 10 ^ (e % 9)))))) else ((f_X0_countUp l3 (lN (10 ^ (e % 9))) aa (vp_updL g j (lN (F j - F j % 10 ^ (e % 9))))).bind fun (x : Int32 × (Nat → Int64)) => match x with | (v1, v2) => ((f_X0_trim v1 l3 v2).bind fun (y : Int32 × Int32) => match y with | (v3, v4) => some (v3, v4, v2))))) = some (a', b', f') ∧ DD a' b' f' G' ∧ TD a' b' G' ∧ VV G' 160 = rnd (VV F 160) (10 ^ e) * 10 ^ e := by
        rw [hru, Option.bind_some]
        unfold rnd
        by_cases cc : 10 ^ e < 2 * (VV F 160 % 10 ^ e) ∨ (2 * (VV F 160 % 10 ^ e) = 10 ^ e ∧ VV F 160 / 10 ^ e % 2 = 1)
        · rw [if_pos cc, if_pos cc, if_neg (show ¬ (1 : Int32) = 0 by decide)]
          have hx : G1 j + 10 ^ (e % 9) ≤ BB := by rw [hG1, upN_self]; exact unit_fit (hFB j (by omega))
          have hM : LtT (VV G1 160 + 10 ^ (e % 9) * BB ^ (159 - j)) := by
            unfold LtT at *
            rw [hE, hV1]
            exact Nat.lt_of_le_of_lt (Nat.add_le_add_right hle _) h11
          obtain ⟨a2, f2, G2, v1, v2, v3⟩ := count_ok (x := 10 ^ (e % 9)) hD1 hj3 (by omega) rfl hx (by omega) (by omega) hM
          obtain ⟨a3, b3, w1, w2, w3⟩ := trim_ok v2
          refine ⟨a3, b3, f2, G2, ?_, w2, w3, ?_⟩
          · rw [v1, Option.bind_some]
            show ((f_X0_trim a2 l3 f2).bind _) = _
            rw [w1, Option.bind_some]
          · rw [v3, hE, hV1, Nat.add_mul, Nat.one_mul]
        · rw [if_neg cc, if_neg cc, if_pos rfl]
          obtain ⟨a3, b3, w1, w2, w3⟩ := trim_ok hD1
          refine ⟨a3, b3, _, G1, ?_, w2, w3, hV1⟩
          rw [w1, Option.bind_some]
      rw [unitOf_ok h1 h2, Option.bind_some, if_neg hgj, if_neg hgj, if_neg hne, if_neg hgj, hclj, hcut, ← haa]
      exact main
    · rw [if_neg c]
      rw [i_lt] at c
      have hg4 := i_in (a := l4) (N := 160) (by omega) (by omega)
      have hcl4 : l4.toNatClampNeg = i := by rw [i_cl]; omega
      rw [if_neg hg4, if_neg hg4, hcl4, (g1 i (by omega)).1]
      have e1 : (l4 + 1).toInt = l4.toInt + 1 := i_1 (by omega)
      refine ih l2 l3 (l4 + 1) a b _ a1 b1 f F (upN G i (F i)) e (i + 1) h ht h1 h2 h3 (by omega) (by omega) (by omega) (by omega) (LR_up h8 (hFB i (by omega))) ?_ ?_ h11 (by omega)
      · intro t ht9 hle
        by_cases et : t = i
        · rw [et, upN_self]
        · rw [upN_ne et]; exact h9 t (by omega) hle
      · intro t ht9 hc
        rw [upN_ne (by omega)]
        exact h10 t ht9 (by omega)
theorem takeRounded_ok {l2 a b a1 b1 : Int32} {g f : Nat → Int64} {G F : Nat → Nat} {e : Nat} (h0 : DD a b g G) (h : DD a1 b1 f F) (ht : TD a1 b1 F) (h1 : l2.toInt = (e : Int) - 1125) (h2 : e < 1440) (h3 : LtT (VV F 160 + 10 ^ e)) :
    ∃ a' b' f' G', f_X0_takeRounded l2 a b g a1 b1 f = some (a', b', f') ∧ DD a' b' f' G' ∧ TD a' b' G' ∧ VV G' 160 = rnd (VV F 160) (10 ^ e) * 10 ^ e := by
  obtain ⟨g0, u1, u2⟩ := wipe_ok h0
  obtain ⟨r, v1, v2⟩ := limbOf_ok h1 h2
  obtain ⟨p1, p2, r1, r2, r3, r4⟩ := id h
  unfold f_X0_takeRounded
  have hq : e / 9 < 160 := by omega
  have main : ∃ a' b' f' G', f_X0_takeRounded_L27 FU l2 r a1 160 (-1) g0 a1 b1 f = some (a', b', f') ∧ DD a' b' f' G' ∧ TD a' b' G' ∧ VV G' 160 = rnd (VV F 160) (10 ^ e) * 10 ^ e := by
    refine tr_L27 FU l2 r a1 160 (-1) g0 a1 b1 f F (fun _ => 0) e a1.toInt.toNat h ht h1 h2 v2 (by omega) (by omega) (by omega) (Or.inr (by omega)) u2.1 (fun t ht9 _ => (p2 t (by omega) (by omega)).symm) (fun t _ _ => rfl) h3 (by unfold FU; omega)
  rw [u1, Option.bind_some]
  show ∃ a' b' f' G', ((f_X0_limbOf l2).bind _) = _ ∧ _
  rw [v1, Option.bind_some, if_neg (by rw [i_lt, lit_0]; omega), if_pos (by rw [i_lt, lit_160]; omega)]
  exact main
