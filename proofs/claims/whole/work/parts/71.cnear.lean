/-! the class's nearestToNumber -/
def XX (V T N : Nat) : Prop := V * 2 ^ T = N * 2 ^ 1074
def HH (N : Nat) : Prop := ∀ j, 2 ^ (j + 20) * KK ≤ N → N % 2 ^ j = 0
def Sml (V : Nat) : Prop := V < BB * BB * KK
def Fin2 (V T : Nat) : Prop := V < 9007199254740992 * KK ∧ (4503599627370496 * KK ≤ V ∨ T = 0)
theorem two_pos (k : Nat) : 0 < 2 ^ k := Nat.pow_pos (by decide)
theorem exact_down {V T N j : Nat} (h : XX V T N) (hh : HH N) (hV : 2 ^ (j + 20) * KK ≤ V) : V % 2 ^ j = 0 := by
  unfold XX at h
  by_cases c : T + j ≤ 1074
  · have e : V = N * 2 ^ (1074 - T) := by
      have h2 : V * 2 ^ T = N * 2 ^ (1074 - T) * 2 ^ T := by rw [Nat.mul_assoc, ← Nat.pow_add, show 1074 - T + T = 1074 by omega]; exact h
      exact Nat.eq_of_mul_eq_mul_right (two_pos T) h2
    rw [e, show 1074 - T = (1074 - T - j) + j by omega, Nat.pow_add, ← Nat.mul_assoc]
    exact Nat.mul_mod_left _ _
  · obtain ⟨y, hy⟩ : ∃ y, T + j = 1074 + y := ⟨T + j - 1074, by omega⟩
    have h1 : 2 ^ (y + 20) * KK ≤ N := by
      have h2 : 2 ^ (y + 20) * KK * 2 ^ 1074 ≤ N * 2 ^ 1074 := by
        rw [← h, Nat.mul_right_comm, ← Nat.pow_add, show y + 20 + 1074 = (j + 20) + T by omega, Nat.pow_add, Nat.mul_right_comm]
        exact Nat.mul_le_mul_right _ hV
      exact Nat.le_of_mul_le_mul_right h2 (two_pos 1074)
    have h3 := hh y h1
    obtain ⟨k, hk⟩ := Nat.dvd_of_mod_eq_zero h3
    have e : V = k * 2 ^ j := by
      have h2 : V * 2 ^ T = k * 2 ^ j * 2 ^ T := by
        rw [h, hk, Nat.mul_assoc k, ← Nat.pow_add 2 j T, show j + T = y + 1074 by omega, Nat.pow_add, Nat.mul_comm (2 ^ y) k, Nat.mul_assoc]
      exact Nat.eq_of_mul_eq_mul_right (two_pos T) h2
    rw [e]
    exact Nat.mul_mod_left _ _
theorem XX_up {V T N r : Nat} (h : XX V T N) (hr : r ≤ T) : XX (2 ^ r * V) (T - r) N := by
  unfold XX at *
  rw [Nat.mul_comm (2 ^ r), Nat.mul_assoc, ← Nat.pow_add, show r + (T - r) = T by omega]
  exact h
theorem XX_dn {V T N j : Nat} (h : XX V T N) (hz : V % 2 ^ j = 0) : XX (V / 2 ^ j) (T + j) N := by
  unfold XX at *
  rw [Nat.add_comm, Nat.pow_add, ← Nat.mul_assoc, Nat.div_mul_cancel (Nat.dvd_of_mod_eq_zero hz)]
  exact h
theorem LtT_of {M c : Nat} (h : M < c * KK) (hc : c ≤ BB ^ 35) : LtT M := by
  unfold LtT TOP
  rw [show (160 : Nat) = 35 + 125 from rfl, Nat.pow_add]
  exact Nat.lt_of_lt_of_le h (Nat.mul_le_mul_right _ hc)
theorem whole_val {f : Nat → Int64} {F : Nat → Nat} (hf : LR f F) (h : Sml (VV F 160)) : f_X0_whole f = some (lN (VV F 160 / KK)) := by
  rw [whole_ok hf]
  have hF : ∀ i, i < 160 → F i < BB := fun i hi => (hf i hi).2
  have e1 : VV F 160 / KK = VV F 35 := VV_pre hF (q := 125) (by decide)
  have e2 : VV F 160 / BB ^ 127 = VV F 33 := VV_pre hF (q := 127) (by decide)
  have e3 : VV F 160 / BB ^ 127 = 0 := by
    refine Nat.div_eq_of_lt (Nat.lt_of_lt_of_le h ?_)
    rw [show (127 : Nat) = 2 + 125 from rfl, Nat.pow_add, show BB ^ 2 = BB * BB from Nat.pow_two BB]
    exact Nat.le_refl _
  rw [e1, show (35 : Nat) = 33 + 1 + 1 from rfl, VV_s, VV_s, ← e2, e3, Nat.zero_mul, Nat.zero_add]
theorem div_KK {V b : Nat} (hb : BL (V / KK) b) : V < 2 ^ b * KK ∧ (0 < b → 2 ^ (b - 1) * KK ≤ V) := by
  rcases hb with ⟨h1, h2⟩ | ⟨h1, h2, h3⟩
  · subst h2
    refine ⟨?_, fun g => by omega⟩
    rw [Nat.pow_zero, Nat.one_mul]
    exact (Nat.div_eq_zero_iff.mp h1).resolve_left (by have := KK_pos; omega)
  · exact ⟨(Nat.div_lt_iff_lt_mul KK_pos).mp h3, fun _ => (Nat.le_div_iff_mul_le KK_pos).mp h2⟩
theorem bits_ok {l1 : Int32} {f : Nat → Int64} {F : Nat → Nat} {T : Nat} (hf : LR f F) (h : Sml (VV F 160)) (h1 : l1.toInt = (T : Int) - 1074) (hT : T ≤ 3300) :
    ∃ (b : Nat) (r : Int32), b ≤ 60 ∧ BL (VV F 160 / KK) b ∧ f_X1_bitsToScale l1 f = some r ∧ r.toInt = min (T : Int) (min 33 (53 - (b : Int))) := by
  have hx : VV F 160 / KK < 2 ^ 60 := by
    have h2 : VV F 160 / KK < BB * BB := (Nat.div_lt_iff_lt_mul KK_pos).mpr h
    exact Nat.lt_of_lt_of_le h2 (by decide)
  obtain ⟨b, b1, b2, b3⟩ := nlz_ok hx
  unfold f_X1_bitsToScale
  rw [whole_val hf h, Option.bind_some, b3, Option.bind_some]
  clear b3 hx
  have e53 : (53 : Int32).toInt = 53 := rfl
  have e64 : (64 : Int32).toInt = 64 := rfl
  have e33 : (33 : Int32).toInt = 33 := rfl
  have e1074 : (-1074 : Int32).toInt = -1074 := rfl
  have t0 : (nI (64 - b)).toInt = 64 - (b : Int) := by rw [nI_toInt (by omega)]; omega
  have t1 : (64 - nI (64 - b)).toInt = (b : Int) := by rw [i_sub (by rw [e64, t0]; omega) (by rw [e64, t0]; omega), e64, t0]; omega
  have t2 : (53 - (64 - nI (64 - b))).toInt = 53 - (b : Int) := by rw [i_sub (by rw [e53, t1]; omega) (by rw [e53, t1]; omega), e53, t1]
  have t3 : (l1 - (-1074)).toInt = (T : Int) := by rw [i_sub (by rw [e1074, h1]; omega) (by rw [e1074, h1]; omega), e1074, h1]; omega
  generalize 53 - (64 - nI (64 - b)) = y at *
  generalize l1 - (-1074) = z at *
  have t4 : (if (33 : Int32) < y then (33 : Int32) else y).toInt = min 33 (53 - (b : Int)) := by
    by_cases c : (33 : Int32) < y
    · rw [if_pos c]; rw [i_lt, e33] at c; rw [e33]; omega
    · rw [if_neg c]; rw [i_lt, e33] at c; omega
  generalize (if (33 : Int32) < y then (33 : Int32) else y) = w at *
  refine ⟨b, _, b1, b2, rfl, ?_⟩
  by_cases c : z < w
  · rw [if_pos c]; rw [i_lt] at c; omega
  · rw [if_neg c]; rw [i_lt] at c; omega
theorem joined_ok {l2 : Int32} {x T : Nat} (h : l2.toInt = (T : Int) - 1074) (hT : T ≤ 3300) (hx : x < 2 ^ 63) : f_X1_joined (lN x) l2 = some (lN (JJ x T)) := by
  unfold f_X1_joined JJ
  have e971 : (971 : Int32).toInt = 971 := rfl
  have e1074 : (-1074 : Int32).toInt = -1074 := rfl
  have t3 : (l2 - (-1074)).toInt = (T : Int) := by rw [i_sub (by rw [e1074, h]; omega) (by rw [e1074, h]; omega), e1074, h]; omega
  have t4 : l2 - (-1074) = nI T := nI_of_toInt t3 (by omega)
  by_cases c : T ≤ 2045
  · rw [if_pos (by rw [i_le, e971, h]; omega), if_pos c, t4, nI_l (by omega)]
    have := wb_shl T (k := 52) (by decide)
    rw [show ((Int32.toInt64 52 &&& 63 : Int64)) = ((nI 52).toInt64 &&& 63) from rfl, this, lN_add]
  · rw [if_neg (by rw [i_le, e971, h]; omega), if_neg c]
    rfl
def NOut (N : Nat) (o : Option ((Int64) × (Int32) × (Int32) × (Nat → Int64) × (Int32) × (Int32) × (Nat → Int64))) : Prop :=
  ∃ r a b f F a' b' f' F', o = some (lN r, a, b, f, a', b', f') ∧ DD a b f F ∧ DD a' b' f' F' ∧ Near N r
theorem b77_ok {l1 a b a2 b2 : Int32} {f g : Nat → Int64} {F G : Nat → Nat} {T N : Nat} (h1 : DD a b f F) (h2 : TD a b F) (h3 : DD a2 b2 g G) (hX : XX (VV F 160) T N) (hf : Fin2 (VV F 160) T) (hl : l1.toInt = (T : Int) - 1074) (hT : T ≤ 3300) :
    NOut N (f_X1_nearestToNumber_b77 l1 a b f a2 b2 g) := by
  unfold f_X1_nearestToNumber_b77
  have hlt : VV F 160 + 10 ^ 1125 < 9007199254740993 * KK := by
    rw [← KK_ten, show (9007199254740993 : Nat) = 9007199254740992 + 1 from rfl, Nat.add_mul, Nat.one_mul]
    exact Nat.add_lt_add_right hf.1 _
  obtain ⟨a3, b3, g3, G3, e1, e2, e3, e4⟩ := takeRounded_ok (l2 := 0) (e := 1125) h3 h1 h2 rfl (by decide) (LtT_of hlt (by decide))
  rw [e1, Option.bind_some]
  rw [← KK_ten] at e4
  have hx := rnd_le KK_pos hf.1
  have hS : Sml (VV G3 160) := by
    unfold Sml
    rw [e4]
    exact (Nat.mul_lt_mul_right KK_pos).mpr (Nat.lt_of_le_of_lt hx (by decide))
  simp only []
  rw [whole_val e2.1 hS, Option.bind_some, e4, Nat.mul_div_cancel _ KK_pos, joined_ok hl hT (Nat.lt_of_le_of_lt hx (by decide)), Option.bind_some]
  exact ⟨_, a, b, f, F, a3, b3, g3, G3, rfl, h1, e2, near_join hX hf.1 hf.2⟩
theorem pow_mono {a b : Nat} (h : a ≤ b) : 2 ^ a ≤ 2 ^ b := Nat.pow_le_pow_right (by decide) h
theorem nn_L40 : ∀ (fu : Nat) (l1 l2 a b : Int32) (f : Nat → Int64) (a2 b2 : Int32) (g : Nat → Int64) (F G : Nat → Nat) (T N k : Nat), DD a b f F → TD a b F → DD a2 b2 g G → Sml (VV F 160) → XX (VV F 160) T N → HH N → l1.toInt = (T : Int) - 1074 → T ≤ 3300 → l2.toInt = (k : Int) → (k + T / 33 + 4 ≤ 100 ∨ (k ≤ 98 ∧ Fin2 (VV F 160) T)) → 100 < k + fu →
    NOut N (f_X1_nearestToNumber_L40 fu l1 l2 a b f a2 b2 g) := by
  intro fu
  induction fu with
  | zero => intro l1 l2 a b f a2 b2 g F G T N k h1 h2 h3 h4 h5 h6 h7 h8 h9 h10 h11; omega
  | succ fu ih =>
    intro l1 l2 a b f a2 b2 g F G T N k h1 h2 h3 h4 h5 h6 h7 h8 h9 h10 h11
    unfold f_X1_nearestToNumber_L40
    have e100 : (100 : Int32).toInt = 100 := rfl
    rw [if_neg (by rw [i_le, e100, h9]; rcases h10 with h | h <;> omega)]
    obtain ⟨bb, r, b1, b2', b3, b4⟩ := bits_ok h1.1 h4 h7 h8
    rw [b3, Option.bind_some]
    clear b3
    obtain ⟨d1, d2⟩ := div_KK b2'
    by_cases c0 : r.toInt = 0
    · rw [if_pos (by rw [i_eq, lit_0]; exact c0)]
      refine b77_ok h1 h2 h3 h5 ⟨?_, ?_⟩ h7 h8
      · exact Nat.lt_of_lt_of_le d1 (Nat.mul_le_mul_right _ (pow_mono (b := 53) (by omega)))
      · by_cases cT : T = 0
        · exact Or.inr cT
        · left
          have hb : bb = 53 := by omega
          have := d2 (by omega)
          rw [hb] at this
          exact this
    · rw [if_neg (by rw [i_eq, lit_0]; exact c0)]
      have e2 : (l2 + 1).toInt = l2.toInt + 1 := i_1 (by rcases h10 with h | h <;> omega)
      -- not yet at the end
      have hleft : k + T / 33 + 4 ≤ 100 := by
        rcases h10 with h | ⟨h, hf1, hf2⟩
        · exact h
        · exfalso
          apply c0
          have hb53 : bb ≤ 53 := by
            rcases Nat.lt_or_ge bb 54 with q | q
            · omega
            · exfalso
              have q1 := d2 (by omega)
              have q2 : 2 ^ 53 * KK ≤ 2 ^ (bb - 1) * KK := Nat.mul_le_mul_right _ (pow_mono (by omega))
              exact absurd (Nat.lt_of_le_of_lt (Nat.le_trans q2 q1) hf1) (Nat.lt_irrefl _)
          rcases hf2 with q | q
          · have hb52 : 53 ≤ bb := by
              rcases Nat.lt_or_ge bb 53 with p | p
              · exfalso
                have q2 : 2 ^ bb * KK ≤ 2 ^ 52 * KK := Nat.mul_le_mul_right _ (pow_mono (by omega))
                exact absurd (Nat.lt_of_le_of_lt q (Nat.lt_of_lt_of_le d1 q2)) (Nat.lt_irrefl _)
              · exact p
            omega
          · omega
      by_cases cp : 0 < r.toInt
      · -- up
        obtain ⟨rr, hrr⟩ : ∃ rr : Nat, r.toInt = (rr : Int) := ⟨r.toInt.toNat, by omega⟩
        have hup : 2 ^ rr * VV F 160 < 2 ^ 53 * KK := by
          have q1 : 2 ^ rr * VV F 160 < 2 ^ rr * (2 ^ bb * KK) := Nat.mul_lt_mul_of_pos_left d1 (two_pos rr)
          rw [← Nat.mul_assoc, ← Nat.pow_add] at q1
          exact Nat.lt_of_lt_of_le q1 (Nat.mul_le_mul_right _ (pow_mono (by omega)))
        obtain ⟨a', b', f', G', s1, s2, s3, s4⟩ := sc_ok h1 h2 (l1 := r) (by omega) (by omega) (by rw [show r.toInt.toNat = rr by omega]; exact LtT_of hup (by decide))
        rw [show r.toInt.toNat = rr by omega, show (-r.toInt).toNat = 0 by omega, Nat.pow_zero, Nat.div_one] at s4
        rw [s1, Option.bind_some]
        simp only []
        refine ih (l1 - r) (l2 + 1) a' b' f' a2 b2 g G' G (T - rr) N (k + 1) s2 s3 h3 ?_ ?_ h6 ?_ (by omega) (by rw [e2, h9]; omega) ?_ (by omega)
        · unfold Sml
          rw [s4]
          exact Nat.lt_of_lt_of_le hup (Nat.mul_le_mul_right _ (by decide))
        · rw [s4]
          exact XX_up h5 (by omega)
        · rw [i_sub (by omega) (by omega), h7, hrr]; omega
        · by_cases c33 : rr = 33
          · left; omega
          · right
            refine ⟨by omega, ?_⟩
            rw [s4]
            refine ⟨hup, ?_⟩
            by_cases cT : T - rr = 0
            · exact Or.inr cT
            · left
              have hb : rr + bb = 53 := by omega
              have q1 := d2 (by omega)
              have q2 : 2 ^ rr * (2 ^ (bb - 1) * KK) ≤ 2 ^ rr * VV F 160 := Nat.mul_le_mul_left _ q1
              rw [← Nat.mul_assoc, ← Nat.pow_add, show rr + (bb - 1) = 52 by omega] at q2
              exact q2
      · -- down
        obtain ⟨j, hj⟩ : ∃ j : Nat, r.toInt = -(j : Int) := ⟨(-r.toInt).toNat, by omega⟩
        have hjb : j + 53 = bb := by omega
        have q1 := d2 (by omega)
        have hex := exact_down (j := j) h5 h6 (Nat.le_trans (Nat.mul_le_mul_right _ (pow_mono (by omega))) q1)
        obtain ⟨a', b', f', G', s1, s2, s3, s4⟩ := sc_ok h1 h2 (l1 := r) (by omega) (by omega) (by rw [show r.toInt.toNat = 0 by omega, Nat.pow_zero, Nat.one_mul]; exact LtT_of h4 (by decide))
        rw [show r.toInt.toNat = 0 by omega, show (-r.toInt).toNat = j by omega, Nat.pow_zero, Nat.one_mul] at s4
        have hd1 : VV F 160 / 2 ^ j < 2 ^ 53 * KK := by
          rw [Nat.div_lt_iff_lt_mul (two_pos j), Nat.mul_right_comm, ← Nat.pow_add, show 53 + j = bb by omega]
          exact d1
        have hd2 : 2 ^ 52 * KK ≤ VV F 160 / 2 ^ j := by
          rw [Nat.le_div_iff_mul_le (two_pos j), Nat.mul_right_comm, ← Nat.pow_add, show 52 + j = bb - 1 by omega]
          exact q1
        rw [s1, Option.bind_some]
        simp only []
        refine ih (l1 - r) (l2 + 1) a' b' f' a2 b2 g G' G (T + j) N (k + 1) s2 s3 h3 ?_ ?_ h6 ?_ (by omega) (by rw [e2, h9]; omega) ?_ (by omega)
        · unfold Sml
          rw [s4]
          exact Nat.lt_of_lt_of_le hd1 (Nat.mul_le_mul_right _ (by decide))
        · rw [s4]
          exact XX_dn h5 hex
        · rw [i_sub (by omega) (by omega), h7, hj]; omega
        · right
          refine ⟨by omega, ?_⟩
          rw [s4]
          exact ⟨hd1, Or.inl hd2⟩

theorem wide_big {a b : Int32} {f : Nat → Int64} {F : Nat → Nat} (h : DD a b f F) (ht : TD a b F) (hn : VV F 160 ≠ 0) (hw : a.toInt < 33) : BB * BB * KK ≤ VV F 160 := by
  obtain ⟨g1, g2, r1, r2, r3, r4⟩ := id h
  have hab : a.toInt ≤ b.toInt := by
    by_cases c : a.toInt ≤ b.toInt
    · exact c
    · exact absurd (VV_zero 160 (fun i hi => g2 i hi (by omega))) hn
  have hF : ∀ i, i < 160 → F i < BB := fun i hi => (g1 i hi).2
  have hx0 : F a.toInt.toNat ≠ 0 := (ht hab).1
  have e2 : VV F 160 / BB ^ 127 = VV F 33 := VV_pre hF (q := 127) (by decide)
  have hne : VV F 33 ≠ 0 := VV_ne 33 a.toInt.toNat (by omega) hx0
  rw [← e2] at hne
  rcases Nat.lt_or_ge (VV F 160) (BB * BB * KK) with g | g
  · exfalso
    apply hne
    refine Nat.div_eq_of_lt (Nat.lt_of_lt_of_le g ?_)
    rw [show (127 : Nat) = 2 + 125 from rfl, Nat.pow_add, show BB ^ 2 = BB * BB from Nat.pow_two BB]
    exact Nat.le_refl _
  · exact g
theorem not_wide {a b : Int32} {f : Nat → Int64} {F : Nat → Nat} (h : DD a b f F) (hw : ¬ a.toInt < 33) : Sml (VV F 160) := by
  obtain ⟨g1, g2, r1, r2, r3, r4⟩ := id h
  have hF : ∀ i, i < 160 → F i < BB := fun i hi => (g1 i hi).2
  have e2 : VV F 160 / BB ^ 127 = VV F 33 := VV_pre hF (q := 127) (by decide)
  rw [VV_zero 33 (fun i hi => g2 i (by omega) (by omega))] at e2
  have := (Nat.div_eq_zero_iff.mp e2).resolve_left (by have := Nat.pow_pos (n := 127) (show 0 < BB by decide); omega)
  unfold Sml
  rw [show (127 : Nat) = 2 + 125 from rfl, Nat.pow_add, show BB ^ 2 = BB * BB from Nat.pow_two BB] at this
  exact this
theorem XX_few {V N k : Nat} (h : XX V (1074 + 33 * k) N) (hV : BB * BB * KK ≤ V) (hN : LtT N) : k ≤ 29 := by
  unfold XX at h
  have h1 : V * 2 ^ (33 * k) = N := by
    have : V * 2 ^ (33 * k) * 2 ^ 1074 = N * 2 ^ 1074 := by rw [Nat.mul_assoc, ← Nat.pow_add, Nat.add_comm]; exact h
    exact Nat.eq_of_mul_eq_mul_right (two_pos 1074) this
  rcases Nat.lt_or_ge k 30 with g | g
  · omega
  · exfalso
    have h2 : BB * BB * KK * 2 ^ 990 ≤ N := by
      rw [← h1]
      exact Nat.mul_le_mul hV (pow_mono (by omega))
    have h3 : TOP ≤ BB * BB * KK * 2 ^ 990 := by
      have e : TOP = BB * BB * KK * BB ^ 33 := by
        unfold TOP
        rw [show (160 : Nat) = 2 + 125 + 33 from rfl, Nat.pow_add, Nat.pow_add, Nat.pow_two]
      rw [e]
      exact Nat.mul_le_mul_left _ (by decide +kernel)
    unfold LtT at hN
    exact absurd (Nat.lt_of_lt_of_le hN (Nat.le_trans h3 h2)) (Nat.lt_irrefl _)
theorem VV_LtT {a b : Int32} {f : Nat → Int64} {F : Nat → Nat} (h : DD a b f F) : LtT (VV F 160) := VV_lt 160 (fun i hi => (h.1 i hi).2)
theorem nn_L4 : ∀ (fu : Nat) (l1 l2 a b : Int32) (f : Nat → Int64) (a2 b2 : Int32) (g : Nat → Int64) (F G : Nat → Nat) (N k : Nat), DD a b f F → TD a b F → DD a2 b2 g G → XX (VV F 160) (1074 + 33 * k) N → N ≠ 0 → LtT N → HH N → l1.toInt = 33 * (k : Int) → l2.toInt = (k : Int) → k ≤ 31 → 31 < k + fu →
    NOut N (f_X1_nearestToNumber_L4 fu l1 l2 a b f a2 b2 g) := by
  intro fu
  induction fu with
  | zero => intro l1 l2 a b f a2 b2 g F G N k h1 h2 h3 h4 h5 h6 h7 h8 h9 h10 h11; omega
  | succ fu ih =>
    intro l1 l2 a b f a2 b2 g F G N k h1 h2 h3 h4 h5 h6 h7 h8 h9 h10 h11
    unfold f_X1_nearestToNumber_L4
    have e100 : (100 : Int32).toInt = 100 := rfl
    have e33 : (33 : Int32).toInt = 33 := rfl
    have em33 : (-33 : Int32).toInt = -33 := rfl
    rw [if_neg (by rw [i_le, e100, h9]; omega)]
    unfold f_X0_isWide
    by_cases c : a.toInt < 33
    · rw [if_neg (by rw [i_le, e33]; omega), Option.bind_some, if_neg (by decide)]
      have hn : VV F 160 ≠ 0 := by
        intro q
        unfold XX at h4
        rw [q, Nat.zero_mul] at h4
        rcases Nat.mul_eq_zero.mp h4.symm with q1 | q1
        · exact h5 q1
        · have := two_pos 1074; omega
      have hbig := wide_big h1 h2 hn c
      have hk := XX_few h4 hbig h6
      have hex := exact_down (j := 33) h4 h7 (Nat.le_trans (Nat.mul_le_mul_right _ (by decide)) hbig)
      obtain ⟨a', b', f', G', s1, s2, s3, s4⟩ := sc_ok h1 h2 (l1 := -33) (by rw [em33]; omega) (by rw [em33]; omega) (by rw [em33]; show LtT (2 ^ 0 * VV F 160); rw [Nat.pow_zero, Nat.one_mul]; exact VV_LtT h1)
      rw [em33, show (-33 : Int).toNat = 0 from rfl, show (-(-33) : Int).toNat = 33 from rfl, Nat.pow_zero, Nat.one_mul] at s4
      rw [s1, Option.bind_some]
      simp only []
      refine ih (l1 + 33) (l2 + 1) a' b' f' a2 b2 g G' G N (k + 1) s2 s3 h3 ?_ h5 h6 h7 ?_ ?_ (by clear hbig hex; omega) (by clear hbig hex; omega)
      · rw [s4]
        have := XX_dn h4 hex
        rwa [show 1074 + 33 * k + 33 = 1074 + 33 * (k + 1) by clear hbig hex; omega] at this
      · rw [i_add (by rw [e33, h8]; clear hbig hex; omega) (by rw [e33, h8]; clear hbig hex; omega), e33, h8]; clear hbig hex; omega
      · rw [i_1 (by rw [h9]; clear hbig hex; omega), h9]; clear hbig hex; omega
    · rw [if_pos (by rw [i_le, e33]; omega), Option.bind_some, if_pos rfl]
      exact nn_L40 FU l1 0 a b f a2 b2 g F G (1074 + 33 * k) N 0 h1 h2 h3 (not_wide h1 c) h4 h7 (by rw [h8]; omega) (by omega) rfl (Or.inl (by omega)) (by unfold FU; omega)
theorem nearestNumber_ok {a b a2 b2 : Int32} {f g : Nat → Int64} {F G : Nat → Nat} (h1 : DD a b f F) (h2 : TD a b F) (h3 : DD a2 b2 g G) (hn : VV F 160 ≠ 0) (hh : HH (VV F 160)) :
    NOut (VV F 160) (f_X1_nearestToNumber a b f a2 b2 g) := by
  unfold f_X1_nearestToNumber
  exact nn_L4 FU 0 0 a b f a2 b2 g F G (VV F 160) 0 h1 h2 h3 rfl hn (VV_LtT h1) hh rfl rfl (by decide) (by unfold FU; decide)
