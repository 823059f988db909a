/-! the class's numeral, the reference's nearest: the same answer -/
theorem NOut_bind {N : Nat} {o : Option ((Int64) × (Int32) × (Int32) × (Nat → Int64) × (Int32) × (Int32) × (Nat → Int64))} (h : NOut N o) : NOut N (o.bind fun (r97, a, b, f, a', b', f') => some (r97, a, b, f, a', b', f')) := by
  obtain ⟨r, a, b, f, F, a', b', f', F', h1, h2⟩ := h
  exact ⟨r, a, b, f, F, a', b', f', F', by rw [h1]; rfl, h2⟩
theorem cnt_EE {s I f : Nat} : cnt s I (EE s I f) = I + f := by
  unfold cnt EE
  by_cases c : f = 0
  · rw [if_pos c, if_pos (Nat.le_refl _)]; omega
  · rw [if_neg c, if_neg (by omega)]; omega
theorem NV_EE {X : Nat → Int32} {s I f : Nat} : NV X s I (EE s I f) = DA X (DA X 0 s I) (s + I + 1) f := by
  unfold NV EE
  by_cases c : f = 0
  · rw [if_pos c, if_pos (Nat.le_refl _), c, show s + I - s = I by omega]; rfl
  · rw [if_neg c, if_neg (by omega), show s + I + 1 + f - s - I - 1 = f by omega]
theorem nl_L50 : ∀ (fu : Nat) (X : Nat → Int32) (L s I f j : Nat) (t ds a b : Int32) (g : Nat → Int64) (a2 b2 : Int32) (g2 : Nat → Int64) (F G2 : Nat → Nat) (x xe : Nat), L ≤ 400 → s ≤ 1 → SH X L s I f → I ≤ 400 → -10000 < t.toInt → t.toInt < 10000 → s ≤ j → j ≤ EE s I f → DD a b g F → TD2 a b F → DD a2 b2 g2 G2 → VV F 160 = NV X s I j * 10 ^ x → (x : Int) = t.toInt + I + 1125 - cnt s I j → x ≤ 1434 → (xe : Int) = t.toInt + I + 1125 - (I + f : Nat) → cnt s I j ≤ I + f → NV X s I (EE s I f) ≠ 0 → HH (NV X s I (EE s I f) * 10 ^ xe) → EE s I f < j + fu →
    NOut (NV X s I (EE s I f) * 10 ^ xe) (f_X1_nearestToNumeral_L50 fu (nI j) ds (nI (EE s I f)) (nI (s + I - 1)) t X a b g a2 b2 g2) := by
  intro fu
  induction fu with
  | zero => intro X L s I f j t ds a b g a2 b2 g2 F G2 x xe h1 h2 h3 h3' h4 h5 h6 h7 h8 h9 h10 h11 h12 h13 h14 hc h15 h16 h17; omega
  | succ fu ih =>
    intro X L s I f j t ds a b g a2 b2 g2 F G2 x xe h1 h2 h3 h3' h4 h5 h6 h7 h8 h9 h10 h11 h12 h13 h14 hc h15 h16 h17
    have hle := SH_le h3
    unfold f_X1_nearestToNumeral_L50
    have le : nI (EE s I f) ≤ nI j ↔ EE s I f ≤ j := nI_leI (by clear h11 h16; omega) (by clear h11 h16; omega)
    by_cases c : EE s I f ≤ j
    · rw [if_pos (le.mpr c)]
      have hj : j = EE s I f := by clear h11 h16; omega
      subst hj
      have hxe : x = xe := by rw [cnt_EE] at h12; clear h11 h16; omega
      rw [hxe] at h11
      have hn : VV F 160 ≠ 0 := by
        rw [h11]
        exact Nat.mul_ne_zero h15 (by have := ten_pos xe; clear h11 h16; omega)
      have := nearestNumber_ok h8 (TD2_TD h9) h10 hn (by rw [h11]; exact h16)
      rw [h11] at this
      exact NOut_bind this
    · have hin : ¬ (nI j < 0 ∨ 400 ≤ (nI j).toNatClampNeg) := nI_in (by clear h11 h16; omega) (by decide)
      rw [if_neg (fun q => c (le.mp q))]
      simp only [if_neg hin]
      rw [nI_clamp (by clear h11 h16; omega), nI_1]
      have hmono : cnt s I (j + 1) ≤ I + f := by
        have hE : cnt s I (EE s I f) = I + f := cnt_EE
        unfold cnt at hE ⊢
        unfold EE at hE c
        clear h11 h16 ih
        by_cases cf : f = 0
        · rw [if_pos cf] at c hE; rw [if_pos (by omega)]; omega
        · rw [if_neg cf] at c hE; split <;> omega
      rcases byte_cases h3 h6 (by clear h11 h16; omega) with ⟨k1, k2, k3, k4, k5⟩ | ⟨k1, k2, k3⟩
      · have hg := dig_ok k1.2.1 k1.2.2
        obtain ⟨r, p1, p2⟩ := place_ok (s := s) (I := I) (j := j) h4 h5 h2 h3.1 h3' h6 (by clear h11 h16; omega) k2
        obtain ⟨e, he⟩ : ∃ e, x = e + 1 := ⟨x - 1, by clear h11 h16; omega⟩
        rw [if_neg k3, p1, Option.bind_some, hg.1]
        obtain ⟨a', b', g', F', q1, q2, q3, q4⟩ := setDigit_ok (e := e) (x := dig (X j)) (l1 := r) h8 h9 (by rw [p2]; clear h11 h16; omega) (by clear h11 h16; omega) rfl hg.2.1 (by rw [h11, ← he]; exact Nat.mul_mod_left _ _)
        rw [q1, Option.bind_some]
        refine ih X L s I f (j + 1) t ds a' b' g' a2 b2 g2 F' G2 e xe h1 h2 h3 h3' h4 h5 (by clear h11 h16; omega) (by clear h11 h16; omega) q2 q3 h10 ?_ (by rw [k5]; clear h11 h16; omega) (by clear h11 h16; omega) h14 hmono h15 h16 (by clear h11 h16; omega)
        rw [q4, h11, k4, he, Nat.pow_succ, Nat.add_mul, Nat.mul_assoc, Nat.mul_comm 10]
      · rw [if_pos k1]
        exact ih X L s I f (j + 1) t ds a b g a2 b2 g2 F G2 x xe h1 h2 h3 h3' h4 h5 (by clear h11 h16; omega) (by clear h11 h16; omega) h8 h9 h10 (by rw [k2]; exact h11) (by rw [k3]; exact h12) h13 h14 hmono h15 h16 (by clear h11 h16; omega)
/-- from the leading digit on, the number has as many digits as bytes were read -/
theorem lead_size {X : Nat → Int32} {L s I f ld : Nat} (h : SH X L s I f) (hs : s ≤ ld) (hld : isD X L ld) (hne : ld ≠ s + I) (hlt : ld < EE s I f) (h0 : NV X s I ld = 0) (h1 : 1 ≤ dig (X ld)) : ∀ k, ld + 1 + k ≤ EE s I f → cnt s I ld + 1 ≤ cnt s I (ld + 1 + k) ∧ 10 ^ (cnt s I (ld + 1 + k) - cnt s I ld - 1) ≤ NV X s I (ld + 1 + k) ∧ NV X s I (ld + 1 + k) < 10 ^ (cnt s I (ld + 1 + k) - cnt s I ld) := by
  intro k
  induction k with
  | zero =>
    intro _
    have hg := dig_ok hld.2.1 hld.2.2
    rcases byte_cases h hs hlt with ⟨k1, k2, k3, k4, k5⟩ | ⟨k1, k2, k3⟩
    · rw [Nat.add_zero, k4, k5, h0, Nat.zero_mul, Nat.zero_add, show cnt s I ld + 1 - cnt s I ld = 1 by omega]
      exact ⟨Nat.le_refl _, by rw [Nat.sub_self, Nat.pow_zero]; exact h1, by rw [Nat.pow_one]; exact hg.2.1⟩
    · exfalso
      have h46 : (46 : Int32).toInt = 46 := rfl
      rw [k1, h46] at hg
      have := hld.2.1
      rw [k1, h46] at this
      omega
  | succ k ih =>
    intro hk
    obtain ⟨i1, i2, i3⟩ := ih (by omega)
    rw [show ld + 1 + (k + 1) = (ld + 1 + k) + 1 from rfl]
    rcases byte_cases h (j := ld + 1 + k) (by omega) (by omega) with ⟨k1, k2, k3, k4, k5⟩ | ⟨k1, k2, k3⟩
    · have hg := (dig_ok k1.2.1 k1.2.2).2.1
      rw [k4, k5]
      refine ⟨by omega, ?_, ?_⟩
      · rw [show cnt s I (ld + 1 + k) + 1 - cnt s I ld - 1 = (cnt s I (ld + 1 + k) - cnt s I ld - 1) + 1 by clear i2 i3; omega, Nat.pow_succ]
        omega
      · rw [show cnt s I (ld + 1 + k) + 1 - cnt s I ld = (cnt s I (ld + 1 + k) - cnt s I ld) + 1 by clear i2 i3; omega, Nat.pow_succ]
        omega
    · rw [k2, k3]
      exact ⟨i1, i2, i3⟩
theorem lt_cancel (a b c : Nat) (h : a * c < b * c) : a < b := Nat.lt_of_mul_lt_mul_right h
theorem HH_of {A K z : Nat} {p : Int} (hA : A < 10 ^ K) (hp : p ≤ 308) (hz : (K + z : Nat) = p + 1126) (hK : K ≤ 400) : HH (A * 10 ^ z) := by
  intro j hj
  have hN : A * 10 ^ z < 10 ^ (K + z) := by rw [Nat.pow_add]; exact Nat.mul_lt_mul_of_pos_right hA (ten_pos z)
  have hlt : 2 ^ (j + 20) * KK < 10 ^ (K + z) := Nat.lt_of_le_of_lt hj hN
  rw [KK_ten] at hlt
  by_cases c : K + z ≤ 1125
  · exfalso
    have h1 : 10 ^ (K + z) ≤ 10 ^ 1125 := ten_le c
    have h2 : 10 ^ 1125 ≤ 2 ^ (j + 20) * 10 ^ 1125 := Nat.le_mul_of_pos_left _ (two_pos _)
    exact absurd (Nat.lt_of_lt_of_le hlt (Nat.le_trans h1 h2)) (Nat.lt_irrefl _)
  · obtain ⟨q, hq⟩ : ∃ q, K + z = q + 1 + 1125 := ⟨K + z - 1126, by clear hj hN hlt; omega⟩
    rw [hq, Nat.pow_add 10 (q + 1) 1125] at hlt
    have h3 : 2 ^ (j + 20) < 10 ^ (q + 1) := lt_cancel _ _ _ hlt
    have hjz : j ≤ z := by
      rcases Nat.lt_or_ge z j with g | g
      · exfalso
        have h4 : 10 ^ (q + 1) ≤ 2 ^ (q + 1 + 745) := by
          have e : (10 : Nat) ^ (q + 1) = 5 ^ (q + 1) * 2 ^ (q + 1) := by rw [← Nat.mul_pow]
          rw [e, Nat.pow_add 2 (q + 1), Nat.mul_comm]
          refine Nat.mul_le_mul_left _ (Nat.le_trans (Nat.pow_le_pow_right (by decide) (show q + 1 ≤ 309 by clear hj hN hlt h3; omega)) ?_)
          decide +kernel
        have h5 : 2 ^ (q + 1 + 745) ≤ 2 ^ (j + 20) := pow_mono (by clear hj hN hlt h3 h4; omega)
        exact absurd (Nat.lt_of_lt_of_le h3 (Nat.le_trans h4 h5)) (Nat.lt_irrefl _)
      · exact g
    have e : (10 : Nat) ^ z = 5 ^ z * 2 ^ (z - j) * 2 ^ j := by
      rw [Nat.mul_assoc, ← Nat.pow_add, show z - j + j = z by clear hj hN hlt h3; omega, ← Nat.mul_pow]
    rw [e, ← Nat.mul_assoc]
    exact Nat.mul_mod_left _ _
/-- what the numeral's number is, told by its first digit's place p -/
def NR (A m I f : Nat) (t : Int32) (v : Nat) : Prop := (A = 0 ∧ v = 0) ∨ (∃ (K : Nat) (p : Int), 1 ≤ K ∧ K ≤ m ∧ 10 ^ (K - 1) ≤ A ∧ A < 10 ^ K ∧ p = t.toInt + K - f - 1 ∧ ((p < -324 ∧ v = 0) ∨ (308 < p ∧ v = BE) ∨ (-324 ≤ p ∧ p ≤ 308 ∧ ∃ z : Nat, (z : Int) = t.toInt - f + 1125 ∧ Near (A * 10 ^ z) v)))
theorem numeral_ok {X : Nat → Int32} {L s I f : Nat} {t a b a2 b2 : Int32} {g g2 : Nat → Int64} {F G2 : Nat → Nat} (h1 : L ≤ 400) (h2 : s ≤ 1) (h3 : SH X L s I f) (h4 : -10000 < t.toInt) (h5 : t.toInt < 10000) (h6 : DD a b g F) (h7 : DD a2 b2 g2 G2) :
    ∃ v a' b' f' F' a3 b3 f3 F3, f_X1_nearestToNumeral (nI s) (nI (EE s I f)) (nI (s + I - 1)) t X a b g a2 b2 g2 = some (lN v, a', b', f', a3, b3, f3) ∧ DD a' b' f' F' ∧ DD a3 b3 f3 F3 ∧ NR (DA X (DA X 0 s I) (s + I + 1) f) (I + f) I f t v := by
  have hle := SH_le h3
  have hI : I ≤ 400 := by
    have : s + I ≤ EE s I f := by unfold EE; split <;> omega
    omega
  have hm : I + f ≤ 400 := by
    have : I + f ≤ EE s I f := by unfold EE; split <;> omega
    omega
  have hsE : s ≤ EE s I f := by unfold EE; split <;> omega
  unfold f_X1_nearestToNumeral f_X1_leadingDigit
  obtain ⟨ld, e1, e2, e3, e4, e5⟩ := ld_L5 FU X L s I f s (nI s) h1 h3 (Nat.le_refl _) hsE (by unfold NV; rw [if_pos (by omega), Nat.sub_self]; rfl) (by unfold FU; omega)
  rw [e1, Option.bind_some, ← NV_EE]
  have q : nI ld = nI (EE s I f) ↔ ld = EE s I f := nI_eq (by omega) (by omega)
  rcases e5 with e5 | ⟨e5, e6, e7, e8⟩
  · rw [if_pos (q.mpr e5)]
    exact ⟨0, a, b, g, F, a2, b2, g2, G2, rfl, h6, h7, Or.inl ⟨by rw [← e5]; exact e4, rfl⟩⟩
  · rw [if_neg (fun w => by have := q.mp w; omega)]
    obtain ⟨r, p1, p2⟩ := place_ok (s := s) (I := I) (j := ld) h4 h5 h2 h3.1 hI e2 (by omega) e6
    rw [p1, Option.bind_some]
    have hsz := lead_size h3 e2 e5 e6 e7 e4 e8 (EE s I f - (ld + 1)) (by omega)
    rw [show ld + 1 + (EE s I f - (ld + 1)) = EE s I f by omega, cnt_EE] at hsz
    obtain ⟨z1, z2, z3⟩ := hsz
    obtain ⟨K, hK⟩ : ∃ K, K = I + f - cnt s I ld := ⟨_, rfl⟩
    rw [← hK] at z2 z3
    have e324 : (-324 : Int32).toInt = -324 := rfl
    have e308 : (308 : Int32).toInt = 308 := rfl
    have hp : r.toInt = t.toInt + K - f - 1 := by rw [p2]; clear z2 z3; omega
    have hK1 : 1 ≤ K := by clear z2 z3; omega
    have hKm : K ≤ I + f := by clear z2 z3; omega
    by_cases c1 : (-324 : Int32) ≤ r
    · rw [if_pos c1, Option.bind_some]
      rw [i_le, e324] at c1
      by_cases c2 : r ≤ 308
      · rw [if_pos c2]
        rw [i_le, e308] at c2
        obtain ⟨g0, u1, u2⟩ := wipe_ok h6
        rw [u1, Option.bind_some]
        obtain ⟨xe, hxe⟩ : ∃ xe : Nat, (xe : Int) = t.toInt + I + 1125 - (I + f : Nat) := ⟨(t.toInt + I + 1125 - (I + f : Nat)).toNat, by clear z2 z3; omega⟩
        obtain ⟨x, hx⟩ : ∃ x : Nat, (x : Int) = t.toInt + I + 1125 - cnt s I ld := ⟨(t.toInt + I + 1125 - cnt s I ld).toNat, by clear z2 z3; omega⟩
        have hne : NV X s I (EE s I f) ≠ 0 := by have := ten_pos (K - 1); omega
        obtain ⟨v, a', b', f', F', a3, b3, f3, F3, y1, y2, y3, y4⟩ := nl_L50 FU X L s I f ld t (nI s) 160 (-1) g0 a2 b2 g2 (fun _ => 0) G2 x xe h1 h2 h3 hI h4 h5 e2 e3 u2 (Or.inl ⟨rfl, rfl⟩) h7 (by rw [e4, Nat.zero_mul]; exact VV_zero 160 (fun _ _ => rfl)) hx (by clear z2 z3; omega) hxe (by clear z2 z3; omega) hne (HH_of (K := K) (p := r.toInt) z3 c2 (by rw [hp]; clear z2 z3; omega) (by clear z2 z3; omega)) (by unfold FU; omega)
        refine ⟨v, a', b', f', F', a3, b3, f3, F3, y1, y2, y3, Or.inr ⟨K, r.toInt, hK1, hKm, z2, z3, hp, Or.inr (Or.inr ⟨c1, c2, xe, by clear z2 z3; omega, y4⟩)⟩⟩
      · rw [if_neg c2]
        rw [i_le, e308] at c2
        exact ⟨BE, a, b, g, F, a2, b2, g2, G2, rfl, h6, h7, Or.inr ⟨K, r.toInt, hK1, hKm, z2, z3, hp, Or.inr (Or.inl ⟨by clear z2 z3; omega, rfl⟩)⟩⟩
    · rw [if_neg c1]
      rw [i_le, e324] at c1
      exact ⟨0, a, b, g, F, a2, b2, g2, G2, rfl, h6, h7, Or.inr ⟨K, r.toInt, hK1, hKm, z2, z3, hp, Or.inl ⟨by clear z2 z3; omega, rfl⟩⟩⟩
/-- too small, too large -/
theorem near_small {N E : Nat} (h : N < 10 ^ E) (hE : E ≤ 801) : Near N 0 := by
  refine ⟨Nat.zero_le _, Or.inl rfl, Or.inr (Or.inl ?_)⟩
  have h1 : N < 10 ^ 801 := Nat.lt_of_lt_of_le h (ten_le hE)
  refine Nat.lt_trans h1 ?_
  have e : mid 0 = 2 * WW := by
    unfold mid
    rw [show gg 0 = 0 from rfl, show gg (0 + 1) = 1 from rfl]
  rw [e]
  unfold WW
  decide +kernel
theorem near_large {N E : Nat} (h : 10 ^ E ≤ N) (hE : 1434 ≤ E) : Near N BE := by
  refine ⟨Nat.le_refl _, Or.inr (Or.inl ?_), Or.inl rfl⟩
  have h1 : 10 ^ 1434 ≤ N := Nat.le_trans (ten_le hE) h
  refine Nat.lt_of_lt_of_le ?_ h1
  have h2 := mid_hi (BE - 1)
  rw [show BE - 1 + 1 = BE from rfl] at h2
  refine Nat.lt_trans h2 ?_
  have e : gg BE = 4503599627370496 * 2 ^ 2046 := by
    obtain ⟨q1, q2⟩ := gg_norm (T := 2046) (y := 0) (by decide)
    rw [show 2046 * 4503599627370496 + (4503599627370496 + 0) = BE from rfl, Nat.add_zero] at q1
    exact q1
  rw [e]
  unfold WW
  decide +kernel
theorem ten_uniq {A K M : Nat} (h1 : 10 ^ (K - 1) ≤ A) (h2 : A < 10 ^ K) (h3 : 10 ^ (M - 1) ≤ A) (h4 : A < 10 ^ M) (hK : 1 ≤ K) (hM : 1 ≤ M) : K = M := by
  rcases Nat.lt_trichotomy K M with g | g | g
  · exfalso
    have := ten_le (show K ≤ M - 1 by omega)
    exact absurd (Nat.lt_of_lt_of_le h2 (Nat.le_trans this h3)) (Nat.lt_irrefl _)
  · exact g
  · exfalso
    have := ten_le (show M ≤ K - 1 by omega)
    exact absurd (Nat.lt_of_lt_of_le h4 (Nat.le_trans this h1)) (Nat.lt_irrefl _)
theorem nearest_eq {A m I f v m' b : Nat} {t us : Int32} {d n pw : Nat → Int32} {fl : Nat → Int64} (hm : m = I + f) (hm2 : m ≤ 400) (h4 : -10000 < t.toInt) (h5 : t.toInt < 10000) (hN : NR A m I f t v) (hR : RW 0 d n pw A (m - b) m' (nI I + t - nI b)) (hZ : NZ A (m - b) m') (hb : b ≤ m) :
    ∃ us' d' n' pw' f', f_X2_nearest us d n pw fl = some (lN v, us', d', n', pw', f') := by
  unfold f_X2_nearest
  have a1 := hR.1
  have a2 := hR.2.1
  have a4 := hR.2.2.2.1
  rw [c0, a1, a2]
  have q0 : nI m' = 0 ↔ m' = 0 := nI_eq (b := 0) (by omega) (by decide)
  have tP : (nI I + t - nI b).toInt = (I : Int) + t.toInt - b := by
    have t1 : (nI I + t).toInt = (I : Int) + t.toInt := by rw [i_add (by rw [nI_toInt (by omega)]; omega) (by rw [nI_toInt (by omega)]; omega), nI_toInt (by omega)]
    rw [i_sub (by rw [t1, nI_toInt (by omega)]; omega) (by rw [t1, nI_toInt (by omega)]; omega), t1, nI_toInt (by omega)]
  rcases hN with ⟨n1, n2⟩ | ⟨K, p, k1, k2, k3, k4, k5, k6⟩
  · have hm0 : m' = 0 := by
      by_cases c : m' = 0
      · exact c
      · have := NZ_pos hZ c; omega
    rw [if_pos (q0.mpr hm0), n2]
    exact ⟨_, _, _, _, _, rfl⟩
  · have hA : A ≠ 0 := by have := ten_pos (K - 1); omega
    have hm0 : ¬ m' = 0 := fun c => hA (rw_zero hR c)
    rw [if_neg (fun g => hm0 (q0.mp g))]
    have hz := hZ hm0
    have hKb : K = m - b := ten_uniq k3 k4 hz.2 hR.2.2.2.2.1 k1 hz.1
    have em400 : (-400 : Int32).toInt = -400 := rfl
    have e400 : (400 : Int32).toInt = 400 := rfl
    have hpP : (nI I + t - nI b).toInt = p + 1 := by rw [tP, k5]; clear k3 k4 hz hR hZ k6; omega
    by_cases c1 : (-400 : Int32) ≤ nI I + t - nI b
    · rw [if_pos c1]
      rw [i_le, em400, hpP] at c1
      by_cases c2 : nI I + t - nI b ≤ 400
      · rw [if_pos c2]
        rw [i_le, e400, hpP] at c2
        obtain ⟨z, hzz⟩ : ∃ z : Nat, (z : Int) = t.toInt - f + 1125 := ⟨(t.toInt - f + 1125).toNat, by clear k3 k4 hz hR hZ k6; omega⟩
        have hR2 := rw_scale hR z
        have hE : ((m - b + z : Nat) : Int) = p + 1126 := by clear k3 k4 hz hR hZ k6 hR2; omega
        have hZ2 : NZ (A * 10 ^ z) (m - b + z) m' := fun _ => ⟨by clear k3 k4 hz hR hZ k6 hR2; omega, by
          rw [show m - b + z - 1 = (m - b - 1) + z by clear k3 k4 hz hR hZ k6 hR2; omega, Nat.pow_add]
          exact Nat.mul_le_mul_right _ hz.2⟩
        obtain ⟨r, us', d', n', pw', f', y1, y2⟩ := nearest2_ok (us := us) (f := fl) hR2 hZ2 (by rw [hpP]; clear k3 k4 hz hR hZ k6 hR2 hZ2; omega) (by clear k3 k4 hz hR hZ k6 hR2 hZ2; omega)
        have hrv : r = v := by
          rcases k6 with ⟨w1, w2⟩ | ⟨w1, w2⟩ | ⟨w1, w2, z2, w3, w4⟩
          · rw [w2]
            exact near_uniq y2 (near_small hR2.2.2.2.2.1 (by clear k3 k4 hz hR hZ hR2 hZ2; omega))
          · rw [w2]
            refine near_uniq y2 (near_large (hZ2 hm0).2 (by clear k3 k4 hz hR hZ hR2 hZ2; omega))
          · have : z2 = z := by clear k3 k4 hz hR hZ hR2 hZ2; omega
            subst this
            exact near_uniq y2 w4
        rw [← hrv]
        exact ⟨_, _, _, _, _, y1⟩
      · rw [if_neg c2]
        rw [i_le, e400, hpP] at c2
        have hv : v = BE := by
          rcases k6 with ⟨w1, w2⟩ | ⟨w1, w2⟩ | ⟨w1, w2, z2, w3, w4⟩
          · omega
          · exact w2
          · omega
        rw [hv]
        exact ⟨_, _, _, _, _, rfl⟩
    · rw [if_neg c1]
      rw [i_le, em400, hpP] at c1
      have hv : v = 0 := by
        rcases k6 with ⟨w1, w2⟩ | ⟨w1, w2⟩ | ⟨w1, w2, z2, w3, w4⟩
        · exact w2
        · omega
        · omega
      rw [hv]
      exact ⟨_, _, _, _, _, rfl⟩
theorem PW_rng {X : Nat → Int32} {L e : Nat} {t : Int32} (h : PW X L e t) : -10000 < t.toInt ∧ t.toInt < 10000 := by
  obtain ⟨st, p1, p2, p3, p4, p5, p6⟩ := h
  have h1 : DA X 0 st (L - st) < 10 ^ (0 + (L - st)) := DA_lt (L := L) (m := 0) (by decide) (L - st) (fun t ht => p4.2.1 (st + t) (by omega) (by omega))
  have h2 : 10 ^ (0 + (L - st)) ≤ 10 ^ 4 := ten_le (by omega)
  have h3 : DA X 0 st (L - st) < 10000 := Nat.lt_of_lt_of_le h1 h2
  have h4 : (nI (DA X 0 st (L - st))).toInt = (DA X 0 st (L - st) : Int) := nI_toInt (by omega)
  clear h1 h2
  rcases p1 with ⟨g1, g2, g3⟩ | ⟨g1, g2, g3⟩
  · rw [g3, h4]; omega
  · rw [g3, i_neg (by rw [h4]; omega), h4]; omega
theorem OKN_rng {X : Nat → Int32} {L s I f : Nat} {t : Int32} (h : OKN X L s I f t) : -10000 < t.toInt ∧ t.toInt < 10000 := by
  rcases h.2 with ⟨h1, h2⟩ | ⟨h1, h2⟩
  · rw [h2, lit_0]; omega
  · exact PW_rng h2
/-- read: both throw, or both answer the same -/
theorem read_eq {X : Nat → Int32} {L : Nat} {ds de ua tp a b a2 b2 th us at' : Int32} {g g2 : Nat → Int64} {F G2 : Nat → Nat} {d n pw : Nat → Int32} {fl : Nat → Int64} (h1 : L ≤ 400) (h6 : DD a b g F) (h7 : DD a2 b2 g2 G2) :
    (∃ ds' de' ua' tp' us2 at2 d2 n2 pw2 fl2, f_X1_read (nI L) ds de ua tp X a b g a2 b2 g2 = some (.inr (2, (ds', de', ua', tp', a, b, g, a2, b2, g2))) ∧ f_X2_read th (nI L) us at' X d n pw fl = some (0, 1, us2, at2, d2, n2, pw2, fl2)) ∨
    (∃ v ds' de' ua' tp' a' b' f' F' a3 b3 f3 F3 us2 at2 d2 n2 pw2 fl2, f_X1_read (nI L) ds de ua tp X a b g a2 b2 g2 = some (.inl (v, (ds', de', ua', tp', a', b', f', a3, b3, f3))) ∧ DD a' b' f' F' ∧ DD a3 b3 f3 F3 ∧ f_X2_read th (nI L) us at' X d n pw fl = some (v, 0, us2, at2, d2, n2, pw2, fl2)) := by
  unfold f_X1_read f_X1_scanNumeral f_X2_read
  have k1 : f_X1_isAt 0 45 (nI L) X = some (if 0 < L ∧ X 0 = 45 then 1 else 0) := isAt_ok (i := 0) h1 (by decide)
  have k2 : f_X2_is 45 (nI L) 0 X = some (if 0 < L ∧ X 0 = 45 then 1 else 0) := is_ok (i := 0) h1 (by decide)
  rw [k1, Option.bind_some, k2, Option.bind_some]
  -- the sign once
  have body : ∀ (s : Nat) (m1 : Int32), s ≤ 1 → (m1 = 0 ↔ ¬ (0 < L ∧ X 0 = 45)) →
      (∃ ds' de' ua' tp' us2 at2 d2 n2 pw2 fl2, ((f_X1_scanNumeral_b16 (nI s) (nI L) ds de ua tp X).bind fun (r1, v_digitsStart_1, v_digitsEnd_1, v_unitsAt_1, v_tenPower_1) =>
        (if r1 = 0 then some (.inr (2, (v_digitsStart_1, v_digitsEnd_1, v_unitsAt_1, v_tenPower_1, a, b, g, a2, b2, g2)))
        else ((f_X1_nearestToNumeral v_digitsStart_1 v_digitsEnd_1 v_unitsAt_1 v_tenPower_1 X a b g a2 b2 g2).bind fun (r16, v_number_first_16, v_number_last_16, v_number_limbs_16, v_rounded_first_16, v_rounded_last_16, v_rounded_limbs_16) =>
          ((some (if 0 < L ∧ X 0 = 45 then (1 : Int32) else 0)).bind fun r24 =>
          (if r24 = 0 then some (.inl (r16, (v_digitsStart_1, v_digitsEnd_1, v_unitsAt_1, v_tenPower_1, v_number_first_16, v_number_last_16, v_number_limbs_16, v_rounded_first_16, v_rounded_last_16, v_rounded_limbs_16)))
          else some (.inl ((r16 ||| (-9223372036854775808)), (v_digitsStart_1, v_digitsEnd_1, v_unitsAt_1, v_tenPower_1, v_number_first_16, v_number_last_16, v_number_limbs_16, v_rounded_first_16, v_rounded_last_16, v_rounded_limbs_16)))))))) = (some (.inr (2, (ds', de', ua', tp', a, b, g, a2, b2, g2))) : Option ((Int64 × (Int32 × Int32 × Int32 × Int32 × Int32 × Int32 × (Nat → Int64) × Int32 × Int32 × (Nat → Int64))) ⊕ (Nat × (Int32 × Int32 × Int32 × Int32 × Int32 × Int32 × (Nat → Int64) × Int32 × Int32 × (Nat → Int64))))) ∧ f_X2_read_b26 m1 th (nI L) us (nI s) X d n pw fl = some (0, 1, us2, at2, d2, n2, pw2, fl2)) ∨
      (∃ v ds' de' ua' tp' a' b' f' F' a3 b3 f3 F3 us2 at2 d2 n2 pw2 fl2, ((f_X1_scanNumeral_b16 (nI s) (nI L) ds de ua tp X).bind fun (r1, v_digitsStart_1, v_digitsEnd_1, v_unitsAt_1, v_tenPower_1) =>
        (if r1 = 0 then some (.inr (2, (v_digitsStart_1, v_digitsEnd_1, v_unitsAt_1, v_tenPower_1, a, b, g, a2, b2, g2)))
        else ((f_X1_nearestToNumeral v_digitsStart_1 v_digitsEnd_1 v_unitsAt_1 v_tenPower_1 X a b g a2 b2 g2).bind fun (r16, v_number_first_16, v_number_last_16, v_number_limbs_16, v_rounded_first_16, v_rounded_last_16, v_rounded_limbs_16) =>
          ((some (if 0 < L ∧ X 0 = 45 then (1 : Int32) else 0)).bind fun r24 =>
          (if r24 = 0 then some (.inl (r16, (v_digitsStart_1, v_digitsEnd_1, v_unitsAt_1, v_tenPower_1, v_number_first_16, v_number_last_16, v_number_limbs_16, v_rounded_first_16, v_rounded_last_16, v_rounded_limbs_16)))
          else some (.inl ((r16 ||| (-9223372036854775808)), (v_digitsStart_1, v_digitsEnd_1, v_unitsAt_1, v_tenPower_1, v_number_first_16, v_number_last_16, v_number_limbs_16, v_rounded_first_16, v_rounded_last_16, v_rounded_limbs_16)))))))) = (some (.inl (v, (ds', de', ua', tp', a', b', f', a3, b3, f3))) : Option ((Int64 × (Int32 × Int32 × Int32 × Int32 × Int32 × Int32 × (Nat → Int64) × Int32 × Int32 × (Nat → Int64))) ⊕ (Nat × (Int32 × Int32 × Int32 × Int32 × Int32 × Int32 × (Nat → Int64) × Int32 × Int32 × (Nat → Int64))))) ∧ DD a' b' f' F' ∧ DD a3 b3 f3 F3 ∧ f_X2_read_b26 m1 th (nI L) us (nI s) X d n pw fl = some (v, 0, us2, at2, d2, n2, pw2, fl2)) := by
    intro s m1 hs hm1
    rcases scan_b16 (X := X) (s := s) (ds := ds) (de := de) (ua := ua) (tp := tp) h1 hs with ⟨I, f, t, o1, o2⟩ | ⟨o1, w1, w2, w3, w4, o2⟩
    · right
      obtain ⟨r1, r2⟩ := OKN_rng o1
      obtain ⟨v, a', b', f', F', a3, b3, f3, F3, y1, y2, y3, y4⟩ := numeral_ok (t := t) h1 hs o1.1 r1 r2 h6 h7
      obtain ⟨at2, d', n', pw', m', bz, z1, z2, z3, z4⟩ := (parse_ok (d := d) (n := n) (pw := pw) h1 hs).1 I f t o1
      have hm : I + f ≤ 400 := by
        have h8 := SH_le o1.1
        have : I + f ≤ EE s I f := by unfold EE; split <;> omega
        omega
      obtain ⟨us2, d2, n2, pw2, fl2, x1⟩ := nearest_eq (us := us) (fl := fl) rfl hm r1 r2 y4 z2 z3 z4
      have one0 : ¬ (1 : Int32) = 0 := by decide
      have M : f_X2_read_b26 m1 th (nI L) us (nI s) X d n pw fl = some ((if m1 = 0 then lN v ||| 0 else lN v ||| (-9223372036854775808)), 0, us2, at2, d2, n2, pw2, fl2) := by
        unfold f_X2_read_b26
        rw [z1, Option.bind_some]
        show (if (1 : Int32) = 0 then _ else f_X2_read_b39 m1 0 th (nI L) us at2 X d' n' pw' fl) = _
        rw [if_neg one0]
        unfold f_X2_read_b39
        rw [if_pos rfl, x1, Option.bind_some]
        show (if m1 = 0 then _ else _) = _
        by_cases q : m1 = 0
        · rw [if_pos q, if_pos q]
        · rw [if_neg q, if_neg q]
      by_cases cs : 0 < L ∧ X 0 = 45
      · have hm1' : ¬ m1 = 0 := fun q => hm1.mp q cs
        rw [if_neg hm1'] at M
        have n0 : ¬ ((if 0 < L ∧ X 0 = 45 then (1 : Int32) else 0) = 0) := fun h => ite_eq0.mp h cs
        refine ⟨lN v ||| (-9223372036854775808), nI s, nI (EE s I f), nI (s + I - 1), t, a', b', f', F', a3, b3, f3, F3, us2, at2, d2, n2, pw2, fl2, ?_, y2, y3, M⟩
        rw [o2, Option.bind_some]
        show (if (1 : Int32) = 0 then _ else ((f_X1_nearestToNumeral (nI s) (nI (EE s I f)) (nI (s + I - 1)) t X a b g a2 b2 g2).bind _)) = _
        rw [if_neg one0, y1, Option.bind_some]
        show (if (if 0 < L ∧ X 0 = 45 then (1 : Int32) else 0) = 0 then _ else _) = _
        rw [if_neg n0]
      · have hm1' : m1 = 0 := hm1.mpr cs
        rw [if_pos hm1', show lN v ||| 0 = lN v from Int64.or_zero] at M
        have n0 : (if 0 < L ∧ X 0 = 45 then (1 : Int32) else 0) = 0 := ite_eq0.mpr cs
        refine ⟨lN v, nI s, nI (EE s I f), nI (s + I - 1), t, a', b', f', F', a3, b3, f3, F3, us2, at2, d2, n2, pw2, fl2, ?_, y2, y3, M⟩
        rw [o2, Option.bind_some]
        show (if (1 : Int32) = 0 then _ else ((f_X1_nearestToNumeral (nI s) (nI (EE s I f)) (nI (s + I - 1)) t X a b g a2 b2 g2).bind _)) = _
        rw [if_neg one0, y1, Option.bind_some]
        show (if (if 0 < L ∧ X 0 = 45 then (1 : Int32) else 0) = 0 then _ else _) = _
        rw [if_pos n0]
    · left
      obtain ⟨q1, q2, q3, q4, z1⟩ := (parse_ok (d := d) (n := n) (pw := pw) h1 hs).2 o1
      unfold f_X2_read_b26
      rw [o2, Option.bind_some, z1, Option.bind_some]
      unfold f_X2_read_b39
      exact ⟨w1, w2, w3, w4, us, q1, q2, q3, q4, fl, rfl, rfl⟩
  by_cases cs : 0 < L ∧ X 0 = 45
  · have n0 : ¬ ((if 0 < L ∧ X 0 = 45 then (1 : Int32) else 0) = 0) := fun h => ite_eq0.mp h cs
    rw [if_neg n0, if_neg n0]
    exact body 1 _ (Nat.le_refl _) ite_eq0
  · have n0 : (if 0 < L ∧ X 0 = 45 then (1 : Int32) else 0) = 0 := ite_eq0.mpr cs
    rw [if_pos n0, if_pos n0]
    exact body 0 _ (by decide) ite_eq0
