/-! setDigit, and the class's numeral -/
theorem VV_add {F : Nat → Nat} {at' x : Nat} (h : at' < 160) : VV (upN F at' (F at' + x)) 160 = VV F 160 + x * BB ^ (159 - at') := by
  have key : ∀ d, at' + 1 + d ≤ 160 → VV (upN F at' (F at' + x)) (at' + 1 + d) = VV F (at' + 1 + d) + x * BB ^ d := by
    intro d
    induction d with
    | zero =>
      intro _
      rw [Nat.add_zero, VV_s, VV_s, upN_self, VV_congr (F := upN F at' (F at' + x)) (G := F) at' (fun i hi => upN_ne (by omega)), Nat.pow_zero, Nat.mul_one, Nat.add_assoc]
    | succ d ih =>
      intro hd
      rw [show at' + 1 + (d + 1) = (at' + 1 + d) + 1 from rfl, VV_s, VV_s, ih (by omega), upN_ne (by omega), Nat.add_mul, Nat.pow_succ, Nat.mul_assoc, Nat.add_right_comm]
  have := key (159 - at') (by omega)
  rwa [show at' + 1 + (159 - at') = 160 by omega] at this
def TD2 (a b : Int32) (F : Nat → Nat) : Prop := (a.toInt = 160 ∧ b.toInt = -1) ∨ (a.toInt ≤ b.toInt ∧ F a.toInt.toNat ≠ 0 ∧ F b.toInt.toNat ≠ 0)
theorem TD2_TD {a b : Int32} {F : Nat → Nat} (h : TD2 a b F) : TD a b F := by
  intro hab
  rcases h with ⟨h1, h2⟩ | h
  · omega
  · exact h.2
theorem setDigit_ok {l1 l2 a b : Int32} {f : Nat → Int64} {F : Nat → Nat} {e x : Nat} (h : DD a b f F) (ht : TD2 a b F) (h1 : l1.toInt = (e : Int) - 1125) (he : e < 1440) (h2 : l2 = nI x) (hx : x < 10) (hz : VV F 160 % 10 ^ (e + 1) = 0) :
    ∃ a' b' f' F', f_X0_setDigit l1 l2 a b f = some (a', b', f') ∧ DD a' b' f' F' ∧ TD2 a' b' F' ∧ VV F' 160 = VV F 160 + x * 10 ^ e := by
  obtain ⟨r, e1, e2⟩ := limbOf_ok h1 he
  have e3 := unitOf_ok h1 he
  obtain ⟨g1, g2, r1, r2, r3, r4⟩ := id h
  unfold f_X0_setDigit
  rw [e1, Option.bind_some, if_neg (by rw [i_lt, lit_0]; omega), if_neg (by rw [i_le, lit_160]; omega)]
  have hx0 : l2 = 0 ↔ x = 0 := by rw [h2]; exact nI_eq (b := 0) (by omega) (by decide)
  by_cases c : x = 0
  · rw [if_pos (hx0.mpr c), c, Nat.zero_mul, Nat.add_zero]
    exact ⟨a, b, f, F, rfl, h, ht, rfl⟩
  · have hq : e / 9 < 160 := by omega
    have hrn : r.toInt = ((159 - e / 9 : Nat) : Int) := by omega
    obtain ⟨q, hq2⟩ : ∃ q, q = 159 - e / 9 := ⟨_, rfl⟩
    rw [← hq2] at hrn
    have hcl : r.toNatClampNeg = q := by rw [i_cl]; omega
    have hin : ¬ (r < 0 ∨ 160 ≤ r.toNatClampNeg) := i_in (by omega) (by omega)
    rw [if_neg (fun g => c (hx0.mp g))]
    simp only [if_neg hin]
    rw [e3, Option.bind_some, hcl, h2, nI_l (by omega), (g1 q (by omega)).1, lN_mul, lN_add]
    -- the limb has room
    have hlimb : VV F 160 / BB ^ (e / 9) % BB = F q := by rw [hq2]; exact VV_limb (fun i hi => (g1 i hi).2) hq
    have hdv : F q % (10 ^ (e % 9) * 10) = 0 := by
      obtain ⟨k, hk⟩ := Nat.dvd_of_mod_eq_zero hz
      have hs : 10 ^ (e + 1) = BB ^ (e / 9) * (10 ^ (e % 9) * 10) := by rw [Nat.pow_succ, ten_split e, Nat.mul_assoc]
      rw [← hlimb, hk, hs, Nat.mul_assoc, Nat.mul_div_cancel_left _ (Nat.pow_pos (by decide))]
      have hd : 10 ^ (e % 9) * 10 ∣ BB := by
        rw [← Nat.pow_succ]
        exact Nat.pow_dvd_pow 10 (show (e % 9).succ ≤ 9 by omega)
      rw [Nat.mod_mod_of_dvd _ hd]
      exact Nat.mul_mod_right _ _
    have hroom : F q + x * 10 ^ (e % 9) < BB := by
      obtain ⟨k, hk⟩ := Nat.dvd_of_mod_eq_zero hdv
      have hlt := (g1 q (by omega)).2
      have hBB : ∃ w, BB = 10 ^ (e % 9) * 10 * w := by
        have : 10 ^ (e % 9) * 10 ∣ BB := by
          rw [← Nat.pow_succ]
          exact Nat.pow_dvd_pow 10 (show (e % 9).succ ≤ 9 by omega)
        exact this
      obtain ⟨w, hw⟩ := hBB
      have hp := ten_pos (e % 9)
      have hkw : k < w := by
        rw [hk, hw] at hlt
        exact Nat.lt_of_mul_lt_mul_left hlt
      have h3 : 10 ^ (e % 9) * 10 * (k + 1) ≤ BB := by rw [hw]; exact Nat.mul_le_mul_left _ hkw
      have h4 : x * 10 ^ (e % 9) < 10 ^ (e % 9) * 10 := by rw [Nat.mul_comm]; exact Nat.mul_lt_mul_of_pos_left hx hp
      rw [Nat.mul_add, Nat.mul_one, ← hk] at h3
      omega
    have hF' : ∀ i, i ≠ q → upN F q (F q + x * 10 ^ (e % 9)) i = F i := fun i hi => upN_ne hi
    have hpos : upN F q (F q + x * 10 ^ (e % 9)) q ≠ 0 := by
      rw [upN_self]
      have := ten_pos (e % 9)
      have : 0 < x * 10 ^ (e % 9) := Nat.mul_pos (by omega) this
      omega
    have ea : (if r < a then r else a).toInt = min r.toInt a.toInt := by
      by_cases c2 : r < a
      · rw [if_pos c2]; rw [i_lt] at c2; omega
      · rw [if_neg c2]; rw [i_lt] at c2; omega
    have eb : (if b < r then r else b).toInt = max b.toInt r.toInt := by
      by_cases c2 : b < r
      · rw [if_pos c2]; rw [i_lt] at c2; omega
      · rw [if_neg c2]; rw [i_lt] at c2; omega
    refine ⟨_, _, _, upN F q (F q + x * 10 ^ (e % 9)), rfl, ⟨LR_up g1 hroom, fun i hi hc => ?_, ?_⟩, ?_, ?_⟩
    · rw [ea, eb] at hc
      rw [hF' i (by clear hroom hdv hlimb hz hpos; omega)]
      exact g2 i hi (by clear hroom hdv hlimb hz hpos; omega)
    · unfold Rng
      rw [ea, eb]
      clear hroom hdv hlimb hz hpos
      omega
    · right
      rw [ea, eb]
      refine ⟨by clear hroom hdv hlimb hz hpos; omega, ?_, ?_⟩
      · by_cases c3 : (min r.toInt a.toInt).toNat = q
        · rw [c3]; exact hpos
        · rw [hF' _ c3]
          rcases ht with t | t
          · exfalso
            clear hroom hdv hlimb hz hpos
            omega
          · rw [show (min r.toInt a.toInt).toNat = a.toInt.toNat by clear hroom hdv hlimb hz hpos; omega]
            exact t.2.1
      · by_cases c3 : (max b.toInt r.toInt).toNat = q
        · rw [c3]; exact hpos
        · rw [hF' _ c3]
          rcases ht with t | t
          · exfalso
            clear hroom hdv hlimb hz hpos
            omega
          · rw [show (max b.toInt r.toInt).toNat = b.toInt.toNat by clear hroom hdv hlimb hz hpos; omega]
            exact t.2.2
    · rw [VV_add (by omega), show 159 - q = e / 9 by omega, Nat.mul_assoc, Nat.mul_comm (10 ^ (e % 9)), ← ten_split]
/-- the digits of the numeral before the byte j: how many, and the number that they make -/
def cnt (s I j : Nat) : Nat := if j ≤ s + I then j - s else j - s - 1
def NV (X : Nat → Int32) (s I j : Nat) : Nat := if j ≤ s + I then DA X 0 s (j - s) else DA X (DA X 0 s I) (s + I + 1) (j - s - I - 1)
/-- a byte of the numeral is a digit or the point -/
theorem byte_cases {X : Nat → Int32} {L s I f j : Nat} (h : SH X L s I f) (h1 : s ≤ j) (h2 : j < EE s I f) :
    (isD X L j ∧ j ≠ s + I ∧ X j ≠ 46 ∧ NV X s I (j + 1) = NV X s I j * 10 + dig (X j) ∧ cnt s I (j + 1) = cnt s I j + 1) ∨ (X j = 46 ∧ NV X s I (j + 1) = NV X s I j ∧ cnt s I (j + 1) = cnt s I j) := by
  obtain ⟨g1, g2, g3⟩ := h
  have e46 : ∀ x : Int32, 48 ≤ x.toInt → x ≠ 46 := fun x hx g => by
    rw [g] at hx
    have : (46 : Int32).toInt = 46 := rfl
    omega
  unfold EE at h2
  by_cases c : j < s + I
  · left
    have hd := g2.2.1 j h1 c
    refine ⟨hd, by omega, e46 _ hd.2.1, ?_, ?_⟩
    · unfold NV
      rw [if_pos (by omega), if_pos (by omega), show j + 1 - s = (j - s) + 1 by omega, DA_s, show s + (j - s) = j by omega]
    · unfold cnt
      rw [if_pos (by omega), if_pos (by omega)]; omega
  · rcases g3 with ⟨k1, k2⟩ | ⟨k1, k2, k3⟩
    · rw [if_pos k1] at h2; omega
    · rw [if_neg (by omega)] at h2
      by_cases c2 : j = s + I
      · right
        subst c2
        refine ⟨k2.2, ?_, ?_⟩
        · unfold NV
          rw [if_neg (by omega), if_pos (by omega), show s + I + 1 - s - I - 1 = 0 by omega, show s + I - s = I by omega]
          rfl
        · unfold cnt
          rw [if_neg (by omega), if_pos (by omega)]; omega
      · left
        have hd := k3.2.1 j (by omega) h2
        refine ⟨hd, c2, e46 _ hd.2.1, ?_, ?_⟩
        · unfold NV
          rw [if_neg (by omega), if_neg (by omega), show j + 1 - s - I - 1 = (j - s - I - 1) + 1 by omega, DA_s, show s + I + 1 + (j - s - I - 1) = j by omega]
        · unfold cnt
          rw [if_neg (by omega), if_neg (by omega)]; omega
theorem place_ok {s I j : Nat} {t : Int32} (ht1 : -10000 < t.toInt) (ht2 : t.toInt < 10000) (hs : s ≤ 1) (hI : 1 ≤ I) (hI2 : I ≤ 400) (hj : s ≤ j) (hj2 : j ≤ 402) (hp : j ≠ s + I) : ∃ r, f_X1_placeOf (nI j) (nI (s + I - 1)) t = some r ∧ r.toInt = t.toInt + I - 1 - cnt s I j := by
  unfold f_X1_placeOf cnt
  have t0 : (nI j - nI (s + I - 1)).toInt = (j : Int) - ((s + I - 1 : Nat) : Int) := pk_sub_toInt (by omega) (by omega)
  have le : nI j ≤ nI (s + I - 1) ↔ j ≤ s + I - 1 := nI_leI (by omega) (by omega)
  by_cases c : j ≤ s + I - 1
  · rw [if_pos (le.mpr c), if_pos (by omega)]
    refine ⟨_, rfl, ?_⟩
    rw [i_sub (by rw [t0]; omega) (by rw [t0]; omega), t0]
    omega
  · rw [if_neg (fun g => c (le.mp g)), if_neg (by omega)]
    refine ⟨_, rfl, ?_⟩
    have t1 : (nI j - nI (s + I - 1) - 1).toInt = (j : Int) - ((s + I - 1 : Nat) : Int) - 1 := by rw [i_s1 (by rw [t0]; omega), t0]
    rw [i_sub (by rw [t1]; omega) (by rw [t1]; omega), t1]
    omega
theorem ld_L5 : ∀ (fu : Nat) (X : Nat → Int32) (L s I f j : Nat) (ds : Int32), L ≤ 400 → SH X L s I f → s ≤ j → j ≤ EE s I f → NV X s I j = 0 → EE s I f < j + fu →
    ∃ ld, f_X1_leadingDigit_L5 fu (nI j) ds (nI (EE s I f)) X = some (nI ld) ∧ s ≤ ld ∧ ld ≤ EE s I f ∧ NV X s I ld = 0 ∧ (ld = EE s I f ∨ (isD X L ld ∧ ld ≠ s + I ∧ ld < EE s I f ∧ 1 ≤ dig (X ld))) := by
  intro fu
  induction fu with
  | zero => intro X L s I f j ds h1 h2 h3 h4 h5 h6; omega
  | succ fu ih =>
    intro X L s I f j ds h1 h2 h3 h4 h5 h6
    have hle := SH_le h2
    unfold f_X1_leadingDigit_L5
    have le : nI (EE s I f) ≤ nI j ↔ EE s I f ≤ j := nI_leI (by omega) (by omega)
    by_cases c : EE s I f ≤ j
    · rw [if_pos (le.mpr c)]
      exact ⟨j, rfl, h3, h4, h5, Or.inl (by omega)⟩
    · have hin : ¬ (nI j < 0 ∨ 400 ≤ (nI j).toNatClampNeg) := nI_in (by omega) (by decide)
      rw [if_neg (fun g => c (le.mp g))]
      simp only [if_neg hin]
      rw [nI_clamp (by omega), nI_1]
      rcases byte_cases h2 h3 (by omega) with ⟨k1, k2, k3, k4, k5⟩ | ⟨k1, k2, k3⟩
      · have hg := dig_ok k1.2.1 k1.2.2
        by_cases c2 : X j = 48
        · rw [if_pos c2]
          refine ih X L s I f (j + 1) ds h1 h2 (by omega) (by omega) ?_ (by omega)
          rw [k4, h5, c2]
          rfl
        · rw [if_neg c2, if_neg k3]
          refine ⟨j, rfl, h3, h4, h5, Or.inr ⟨k1, k2, by omega, ?_⟩⟩
          have : (X j).toInt ≠ 48 := fun g => c2 (i_eq.mpr g)
          omega
      · have c2 : ¬ X j = 48 := by rw [k1]; decide
        rw [if_neg c2, if_pos k1]
        exact ih X L s I f (j + 1) ds h1 h2 (by omega) (by omega) (by rw [k2, h5]) (by omega)
