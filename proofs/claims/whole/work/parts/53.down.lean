/-! by 2^b: the first i limbs -/
def DIn (F G : Nat → Nat) (B R i : Nat) : Prop := VV G i * 2 ^ B + R = VV F i
theorem DIn_step {F G : Nat → Nat} {B R i : Nat} (h : DIn F G B R i) : DIn F (upN G i ((R * BB + F i) / 2 ^ B)) B ((R * BB + F i) % 2 ^ B) (i + 1) := by
  unfold DIn at *
  rw [VV_s, VV_s, upN_self, VV_congr (F := upN G i ((R * BB + F i) / 2 ^ B)) (G := G) i (fun j hj => upN_ne (by omega)), ← h, Nat.add_mul]
  have e1 := Nat.div_add_mod (R * BB + F i) (2 ^ B)
  have e2 : (R * BB + F i) / 2 ^ B * 2 ^ B + (R * BB + F i) % 2 ^ B = R * BB + F i := by rw [Nat.mul_comm]; exact e1
  rw [Nat.add_assoc, e2, Nat.add_mul]
  have e3 : VV G i * BB * 2 ^ B = VV G i * 2 ^ B * BB := by rw [Nat.mul_assoc, Nat.mul_comm BB, ← Nat.mul_assoc]
  rw [e3]
  omega
theorem dn_limb {x R B : Nat} {l1 : Int32} (hl : l1 = nI B) (hB : B ≤ 33) (hx : x < BB) (hR : CLt R B) :
    (Int64.toUInt64 ((lN R * 1000000000) + lN x) >>> (Int64.toUInt64 (Int32.toInt64 l1) &&& Int64.toUInt64 63)).toInt64 = lN ((R * BB + x) / 2 ^ B) ∧
    ((lN R * 1000000000) + lN x) &&& lN (2 ^ B - 1) = lN ((R * BB + x) % 2 ^ B) ∧ (R * BB + x) / 2 ^ B < BB ∧ CLt ((R * BB + x) % 2 ^ B) B := by
  subst hl
  unfold CLt at *
  have h2 : 2 ^ B ≤ 2 ^ 33 := Nat.pow_le_pow_right (by decide) hB
  have h3 : R * BB + x < 2 ^ B * BB := by
    have : (R + 1) * BB ≤ 2 ^ B * BB := Nat.mul_le_mul_right _ hR
    rw [Nat.add_mul] at this
    omega
  have h4 : 2 ^ B * BB ≤ 2 ^ 33 * BB := Nat.mul_le_mul_right _ h2
  have h5 : R * BB + x < 2 ^ 64 := by
    have : 2 ^ 33 * BB < 2 ^ 64 := by decide
    omega
  have e1 : (lN R * 1000000000) + lN x = lN (R * BB + x) := by rw [B_lN, lN_mul, lN_add]
  rw [e1]
  exact ⟨wb_shr h5 (by omega), wb_mask h5 (by omega), (Nat.div_lt_iff_lt_mul (Nat.two_pow_pos B)).mpr (by rw [Nat.mul_comm BB (2 ^ B)]; exact h3), Nat.mod_lt _ (Nat.two_pow_pos B)⟩
theorem DIn_end {F G : Nat → Nat} {B R i : Nat} (h : DIn F G B R i) (hi : i ≤ 160) (hR : CLt R B) (hz : i = 160 ∨ R = 0) (hF : ∀ j, i ≤ j → j < 160 → F j = 0) (hG : ∀ j, i ≤ j → j < 160 → G j = 0) : VV G 160 = VV F 160 / 2 ^ B := by
  unfold DIn CLt at *
  have e1 : VV F 160 = VV F i * BB ^ (160 - i) := by
    have := VV_tail (F := F) i (160 - i) (fun j h1 h2 => hF j h1 (by omega))
    rwa [show i + (160 - i) = 160 by omega] at this
  have e2 : VV G 160 = VV G i * BB ^ (160 - i) := by
    have := VV_tail (F := G) i (160 - i) (fun j h1 h2 => hG j h1 (by omega))
    rwa [show i + (160 - i) = 160 by omega] at this
  rcases hz with hz | hz
  · rw [hz] at h e1 e2
    rw [← h]
    rw [Nat.mul_comm, Nat.mul_add_div (Nat.two_pow_pos B), Nat.div_eq_of_lt hR, Nat.add_zero]
  · rw [e1, e2, ← h, hz, Nat.add_zero, Nat.mul_assoc, Nat.mul_comm (2 ^ B), ← Nat.mul_assoc, Nat.mul_div_cancel _ (Nat.two_pow_pos B)]
theorem dn_L71 : ∀ (n : Nat) (l1 : Int32) (l2 l4 : Int64) (l6 a b : Int32) (f : Nat → Int64) (F G : Nat → Nat) (B R i : Nat), l1 = nI B → B ≤ 33 → l2 = lN (2 ^ B - 1) → l4 = lN R → CLt R B → l6.toInt = (i : Int) → i ≤ 160 → b.toInt = (i : Int) - 1 → a.toInt ≤ (i : Int) → LR f G → Rng a b → ZO a b G → (∀ j, i ≤ j → j < 160 → F j = 0) → DIn F G B R i → 160 - i < n →
    ∃ a' b' f' G', f_X0_scaleDown_L71 n l1 l2 l4 l6 a b f = some (a', b', f') ∧ DD a' b' f' G' ∧ TD a' b' G' ∧ VV G' 160 = VV F 160 / 2 ^ B := by
  intro n
  induction n with
  | zero => intro l1 l2 l4 l6 a b f F G B R i h1 h2 h3 h4 h5 h6 h7 h8 h9 h10 h11 h12 h13 h14 h15; omega
  | succ n ih =>
    intro l1 l2 l4 l6 a b f F G B R i h1 h2 h3 h4 h5 h6 h7 h8 h9 h10 h11 h12 h13 h14 h15
    unfold f_X0_scaleDown_L71
    have done : (i = 160 ∨ R = 0) → ∃ a' b' f' G', ((f_X0_trim a b f).bind fun (x : Int32 × Int32) => match x with | (v_first_124, v_last_124) => some (v_first_124, v_last_124, f)) = some (a', b', f') ∧ DD a' b' f' G' ∧ TD a' b' G' ∧ VV G' 160 = VV F 160 / 2 ^ B := by
      intro hz
      obtain ⟨a', b', e1, e2, e3⟩ := trim_ok ⟨h10, h12, h11⟩
      exact ⟨a', b', f, G, by rw [e1]; rfl, e2, e3, DIn_end h14 h7 h5 hz h13 (fun j h1 h2 => h12 j h2 (by omega))⟩
    by_cases c : (160 : Int32) ≤ l6
    · rw [if_pos c]
      rw [i_le, lit_160] at c
      exact done (Or.inl (by omega))
    · rw [if_neg c]
      rw [i_le, lit_160] at c
      by_cases c2 : lg_cmp l4 0 ≤ 0
      · rw [if_pos c2]
        exact done (Or.inr (carry_le h5 h2 h4 c2))
      · rw [if_neg c2, if_neg (i_in (by omega) (by omega)), i_cl]
        clear done
        have hi : i < 160 := by omega
        have hk : l6.toInt.toNat = i := by omega
        have e1 : (l6 + 1).toInt = l6.toInt + 1 := i_1 (by omega)
        obtain ⟨u1, u2, u3, u4⟩ := dn_limb (x := 0) h1 h2 (by decide) h5
        have e0 : (l4 * 1000000000) = lN R * 1000000000 + lN 0 := by rw [h4, B_lN, lN_mul, lN_add, Nat.add_zero]
        rw [e0, h3, u1, u2, hk]
        have hF0 : F i = 0 := h13 i (Nat.le_refl _) hi
        have hd := DIn_step h14
        rw [hF0] at hd
        refine ih l1 _ _ (l6 + 1) a l6 _ F (upN G i ((R * BB + 0) / 2 ^ B)) B ((R * BB + 0) % 2 ^ B) (i + 1) h1 h2 rfl rfl u4 (by omega) (by omega) (by omega) (by omega) (LR_up h10 u3) ?_ ?_ (fun j g1 g2 => h13 j (by omega) g2) hd (by omega)
        · obtain ⟨r1, r2, r3, r4⟩ := h11
          unfold Rng; omega
        · intro j hj hc
          rw [upN_ne (by omega)]
          exact h12 j hj (by omega)
theorem dn_L15 : ∀ (n : Nat) (l1 : Int32) (l2 l4 : Int64) (l6 a b : Int32) (f : Nat → Int64) (F G : Nat → Nat) (B R i : Nat), l1 = nI B → B ≤ 33 → l2 = lN (2 ^ B - 1) → l4 = lN R → CLt R B → l6.toInt = (i : Int) → i ≤ 160 → a.toInt ≤ (i : Int) → a.toInt ≤ b.toInt → (i : Int) ≤ b.toInt + 1 → LR f G → Rng a b → (∀ j, j < 160 → F j < BB) → ZO a b F → ZO a b G → (∀ j, i ≤ j → j < 160 → G j = F j) → DIn F G B R i → 160 - i < n →
    ∃ a' b' f' G', f_X0_scaleDown_L15 n l1 l2 l4 l6 a b f = some (a', b', f') ∧ DD a' b' f' G' ∧ TD a' b' G' ∧ VV G' 160 = VV F 160 / 2 ^ B := by
  intro n
  induction n with
  | zero => intro l1 l2 l4 l6 a b f F G B R i h1 h2 h3 h4 h5 h6 h7 h8 hab hib h10 h11 hFB h12 h12' h13 h14 h15; omega
  | succ n ih =>
    intro l1 l2 l4 l6 a b f F G B R i h1 h2 h3 h4 h5 h6 h7 h8 hab hib h10 h11 hFB h12 h12' h13 h14 h15
    unfold f_X0_scaleDown_L15
    obtain ⟨r1, r2, r3, r4⟩ := id h11
    by_cases c : b < l6
    · rw [if_pos c]
      rw [i_lt] at c
      have e1 : (b + 1).toInt = b.toInt + 1 := i_1 (by omega)
      exact dn_L71 FU l1 l2 l4 (b + 1) a b f F G B R i h1 h2 h3 h4 h5 (by omega) h7 (by omega) h8 h10 h11 h12' (fun j g1 g2 => h12 j g2 (by omega)) h14 (by unfold FU; omega)
    · rw [if_neg c]
      rw [i_lt] at c
      rw [if_neg (i_in (by omega) (by omega)), if_neg (i_in (by omega) (by omega)), i_cl]
      have hi : i < 160 := by omega
      have hk : l6.toInt.toNat = i := by omega
      have e1 : (l6 + 1).toInt = l6.toInt + 1 := i_1 (by omega)
      obtain ⟨u1, u2, u3, u4⟩ := dn_limb (x := F i) h1 h2 (hFB i hi) h5
      rw [hk, (h10 i hi).1, h13 i (Nat.le_refl _) hi, h4, h3, u1, u2]
      refine ih l1 _ _ (l6 + 1) a b _ F (upN G i ((R * BB + F i) / 2 ^ B)) B ((R * BB + F i) % 2 ^ B) (i + 1) h1 h2 rfl rfl u4 (by omega) (by omega) (by omega) hab (by omega) (LR_up h10 u3) h11 hFB h12 ?_ ?_ (DIn_step h14) (by omega)
      · intro j hj hc
        rw [upN_ne (by omega)]
        exact h12' j hj hc
      · intro j g1 g2
        rw [upN_ne (by omega)]
        exact h13 j (by omega) g2
theorem mask_lN {B : Nat} {l1 : Int32} (hl : l1 = nI B) (hB : B ≤ 33) : ((1 <<< (Int32.toInt64 l1 &&& 63)) - 1 : Int64) = lN (2 ^ B - 1) := by
  subst hl
  have e : (1 : Int64) <<< (Int32.toInt64 (nI B) &&& 63) = lN (1 * 2 ^ B) := wb_shl 1 (by omega)
  rw [e, Nat.one_mul]
  exact lN_sub (a := 2 ^ B) (b := 1) (Nat.two_pow_pos B)
theorem dn_ok {l1 a b : Int32} {f : Nat → Int64} {F : Nat → Nat} {B : Nat} (h : DD a b f F) (h1 : l1 = nI B) (h2 : B ≤ 33) :
    ∃ a' b' f' G', f_X0_scaleDown l1 a b f = some (a', b', f') ∧ DD a' b' f' G' ∧ TD a' b' G' ∧ VV G' 160 = VV F 160 / 2 ^ B := by
  obtain ⟨g1, g2, g3⟩ := id h
  obtain ⟨r1, r2, r3, r4⟩ := id g3
  unfold f_X0_scaleDown
  rw [mask_lN h1 h2]
  by_cases c : b < a
  · have c9 := c
    rw [i_lt] at c
    have hz : VV F 160 = 0 := VV_zero _ (fun i hi => g2 i hi (by omega))
    obtain ⟨N9, hN9⟩ : ∃ N9, FU = N9 + 1 := ⟨8191, rfl⟩
    rw [hN9]
    unfold f_X0_scaleDown_L15
    rw [if_pos c9, hN9]
    unfold f_X0_scaleDown_L71
    obtain ⟨a', b', e1, e2, e3⟩ := trim_ok h
    refine ⟨a', b', f, F, ?_, e2, e3, by rw [hz, Nat.zero_div]⟩
    have hc2 : lg_cmp (0 : Int64) 0 ≤ 0 := cmp_le.mpr (Int.le_refl _)
    by_cases c3 : (160 : Int32) ≤ b + 1
    · rw [if_pos c3, e1]; rfl
    · rw [if_neg c3, if_pos hc2, e1]; rfl
  · rw [i_lt] at c
    refine dn_L15 FU l1 _ 0 a a b f F F B 0 a.toInt.toNat h1 h2 rfl rfl (Nat.two_pow_pos B) (by omega) (by omega) (by omega) (by omega) (by omega) g1 g3 (fun i hi => (g1 i hi).2) g2 g2 (fun j _ _ => rfl) ?_ (by unfold FU; omega)
    unfold DIn
    rw [VV_zero _ (fun i hi => g2 i (by omega) (by omega))]
    simp
/-- scale: passes of 33 -/
theorem min33 {x : Int32} : (if (33 : Int32) < x then (33 : Int32) else x).toInt = if 33 < x.toInt then 33 else x.toInt := by
  have h33 : (33 : Int32).toInt = 33 := rfl
  by_cases c : (33 : Int32) < x
  · rw [if_pos c]; rw [i_lt, h33] at c; rw [if_pos c]; rfl
  · rw [if_neg c]; rw [i_lt, h33] at c; rw [if_neg c]
theorem m33 {x : Int32} (h : -2147483000 < x.toInt) : (x + (-33)).toInt = x.toInt - 33 := by
  have h33 : (-33 : Int32).toInt = -33 := rfl
  have := i_rng x
  rw [i_add (by rw [h33]; omega) (by rw [h33]; omega), h33]; omega
theorem bd_some {α β : Type} {x : Option α} {u : α} {k : α → Option β} (h : x = some u) : x.bind k = k u := by rw [h]; rfl
theorem sc_L25 : ∀ (n : Nat) (l2 a b : Int32) (f : Nat → Int64) (F : Nat → Nat) (K : Nat), DD a b f F → TD a b F → (0 < l2.toInt → l2.toInt = (K : Int)) → (l2.toInt ≤ 0 → K = 0) → -3100 < l2.toInt → K + 33 ≤ 33 * n → 
    ∃ a' b' f' G', f_X0_scale_L25 n l2 a b f = some (a', b', f') ∧ DD a' b' f' G' ∧ TD a' b' G' ∧ VV G' 160 = VV F 160 / 2 ^ K := by
  intro n
  induction n with
  | zero => intro l2 a b f F K h1 h2 h4 h5 h6 h7; omega
  | succ n ih =>
    intro l2 a b f F K h1 h2 h4 h5 h6 h7
    unfold f_X0_scale_L25
    by_cases c : l2 ≤ 0
    · rw [if_pos c]
      rw [i_le, lit_0] at c
      refine ⟨a, b, f, F, rfl, h1, h2, ?_⟩
      rw [h5 c, Nat.pow_zero, Nat.div_one]
    · rw [if_neg c]
      rw [i_le, lit_0] at c
      have hK := h4 (by omega)
      obtain ⟨k1, hk1⟩ : ∃ k1, k1 = min K 33 := ⟨_, rfl⟩
      have e1 : (if (33 : Int32) < l2 then (33 : Int32) else l2) = nI k1 := by
        refine nI_of_toInt ?_ (by omega)
        rw [min33]
        split <;> omega
      obtain ⟨a', b', f', G', u1, u2, u3, u4⟩ := dn_ok (B := k1) h1 e1 (by omega)
      have e2 : (l2 + (-33)).toInt = l2.toInt - 33 := m33 (by omega)
      obtain ⟨a2, b2, f2, G2, v1, v2, v3, v4⟩ := ih (l2 + (-33)) a' b' f' G' (K - k1) u2 u3 (by clear u4; omega) (by clear u4; omega) (by clear u4; omega) (by clear u4; omega)
      refine ⟨a2, b2, f2, G2, (bd_some u1).trans v1, v2, v3, ?_⟩
      rw [v4, u4, Nat.div_div_eq_div_mul, ← Nat.pow_add, show k1 + (K - k1) = K by clear u4 v4; omega]
/-- times 2^z, z any: up, or down by as much -/
theorem sc_L2 : ∀ (n : Nat) (l1 l2 a b : Int32) (f : Nat → Int64) (F : Nat → Nat) (K : Nat), DD a b f F → TD a b F → (0 < l2.toInt → l2.toInt = (K : Int)) → (l2.toInt ≤ 0 → K = 0) → -3000 < l1.toInt → l1.toInt < 3000 → -3100 < l2.toInt → K + 33 ≤ 33 * n → LtT (2 ^ K * VV F 160) →
    ∃ a' b' f' G', f_X0_scale_L2 n l1 l2 a b f = some (a', b', f') ∧ DD a' b' f' G' ∧ TD a' b' G' ∧ VV G' 160 = 2 ^ K * VV F 160 / 2 ^ (-l1.toInt).toNat := by
  intro n
  induction n with
  | zero => intro l1 l2 a b f F K h1 h2 h4 h5 g1 g2 h6 h7 h8; omega
  | succ n ih =>
    intro l1 l2 a b f F K h1 h2 h4 h5 g1 g2 h6 h7 h8
    unfold f_X0_scale_L2
    by_cases c : l2 ≤ 0
    · rw [if_pos c]
      rw [i_le, lit_0] at c
      have hK := h5 c
      have e : (-l1).toInt = -l1.toInt := i_neg (by clear h8; omega)
      obtain ⟨a', b', f', G', u1, u2, u3, u4⟩ := sc_L25 FU (-l1) a b f F (-l1.toInt).toNat h1 h2 (by clear h8; omega) (by clear h8; omega) (by clear h8; omega) (by clear h8; unfold FU; omega)
      refine ⟨a', b', f', G', u1, u2, u3, ?_⟩
      rw [u4, hK, Nat.pow_zero, Nat.one_mul]
    · rw [if_neg c]
      rw [i_le, lit_0] at c
      have hK := h4 (by clear h8; omega)
      obtain ⟨k1, hk1⟩ : ∃ k1, k1 = min K 33 := ⟨_, rfl⟩
      have e1 : (if (33 : Int32) < l2 then (33 : Int32) else l2) = nI k1 := by
        refine nI_of_toInt ?_ (by clear h8; omega)
        rw [min33]
        clear h8
        split <;> omega
      have hsp : 2 ^ (K - k1) * (2 ^ k1 * VV F 160) = 2 ^ K * VV F 160 := by
        rw [← Nat.mul_assoc, ← Nat.pow_add, show K - k1 + k1 = K by clear h8; omega]
      have h9 : LtT (2 ^ k1 * VV F 160) := by
        unfold LtT at *
        refine Nat.lt_of_le_of_lt ?_ h8
        rw [← hsp]
        exact Nat.le_mul_of_pos_left _ (Nat.two_pow_pos _)
      obtain ⟨a', b', f', G', u1, u2, u3, u4⟩ := up_ok (B := k1) h1 e1 (by clear h8 h9 hsp; omega) h9
      have e2 : (l2 + (-33)).toInt = l2.toInt - 33 := m33 (by clear h8 h9 hsp u4; omega)
      obtain ⟨a2, b2, f2, G2, v1, v2, v3, v4⟩ := ih l1 (l2 + (-33)) a' b' f' G' (K - k1) u2 u3 (by clear h8 h9 hsp u4; omega) (by clear h8 h9 hsp u4; omega) g1 g2 (by clear h8 h9 hsp u4; omega) (by clear h8 h9 hsp u4; omega) (by rw [u4, hsp]; exact h8)
      refine ⟨a2, b2, f2, G2, (bd_some u1).trans v1, v2, v3, ?_⟩
      rw [v4, u4, hsp]
theorem sc_ok {l1 a b : Int32} {f : Nat → Int64} {F : Nat → Nat} (h1 : DD a b f F) (h2 : TD a b F) (g1 : -3000 < l1.toInt) (g2 : l1.toInt < 3000) (h : LtT (2 ^ l1.toInt.toNat * VV F 160)) :
    ∃ a' b' f' G', f_X0_scale l1 a b f = some (a', b', f') ∧ DD a' b' f' G' ∧ TD a' b' G' ∧ VV G' 160 = 2 ^ l1.toInt.toNat * VV F 160 / 2 ^ (-l1.toInt).toNat := by
  unfold f_X0_scale
  exact sc_L2 FU l1 l1 a b f F l1.toInt.toNat h1 h2 (by clear h; omega) (by clear h; omega) g1 g2 (by clear h; omega) (by clear h; unfold FU; omega) h
