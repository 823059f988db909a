/-! print: the same bytes -/
theorem num_lt {s : Nat} (h : s < BE) : 4 * gg s * WW < 10 ^ 1434 := by
  have h1 : 4 * gg s * WW ≤ 4 * gg BE * WW := Nat.mul_le_mul_right _ (Nat.mul_le_mul_left _ (gg_mono (Nat.le_of_lt h)))
  refine Nat.lt_of_le_of_lt h1 ?_
  have e : gg BE = 4503599627370496 * 2 ^ 2046 := by
    obtain ⟨q1, q2⟩ := gg_norm (T := 2046) (y := 0) (by decide)
    rw [show 2046 * 4503599627370496 + (4503599627370496 + 0) = BE from rfl, Nat.add_zero] at q1
    exact q1
  rw [e]
  unfold WW
  decide +kernel
theorem LtT_add {N e : Nat} (h : N < 10 ^ 1434) (he : e ≤ 1434) : LtT (N + 10 ^ e) := by
  unfold LtT
  have h1 : 10 ^ e ≤ 10 ^ 1434 := ten_le he
  have h2 : N + 10 ^ e < 10 ^ 1434 + 10 ^ 1434 := Nat.add_lt_add_of_lt_of_le h h1
  refine Nat.lt_trans h2 ?_
  unfold TOP
  decide +kernel
theorem SS_le {s : Nat} (h : s < BE) : SS s ≤ 2045 := by
  unfold SS
  unfold BE at h
  split <;> omega
theorem LtT_num {c : Nat} {Q : Int} (hc : c < 2 ^ 55) (hQ : Q ≤ 971) : LtT (2 ^ Q.toNat * (c * KK)) := by
  refine LtT_of (c := 2 ^ 971 * 2 ^ 55) ?_ (by decide +kernel)
  rw [← Nat.mul_assoc]
  refine Nat.mul_lt_mul_of_pos_right ?_ KK_pos
  have h1 : 2 ^ Q.toNat ≤ 2 ^ 971 := pow_mono (by omega)
  exact Nat.lt_of_le_of_lt (Nat.mul_le_mul_right _ h1) (Nat.mul_lt_mul_of_pos_left hc (two_pos _))
/-- a number's value in the class -/
theorem scaled_ok {l1 : Int64} {l3 a b : Int32} {f : Nat → Int64} {F : Nat → Nat} {c : Nat} (h0 : DD a b f F) (h1 : l1 = lN c) (hc : c < 2 ^ 55) (g1 : -1080 ≤ l3.toInt) (g2 : l3.toInt ≤ 971) :
    ∃ a' b' f' G', f_X0_takeScaled l1 l3 a b f = some (a', b', f') ∧ DD a' b' f' G' ∧ TD a' b' G' ∧ VV G' 160 = VAL c l3.toInt :=
  takeScaled_ok h0 h1 (Nat.lt_of_lt_of_le hc (by decide)) (by omega) (by omega) (LtT_num hc g2)
theorem put_ok {L : Nat} {c : Int32} {X : Nat → Int32} (h : L < 400) : f_X1_put c (nI L) X = some (nI (L + 1), upd X L c) ∧ f_X2_put c (nI L) X = some (nI (L + 1), upd X L c) := by
  have hin : ¬ (nI L < 0 ∨ 400 ≤ (nI L).toNatClampNeg) := nI_in (by omega) (by decide)
  have le : ¬ (400 : Int32) ≤ nI L := fun g => by
    have := (nI_leI (a := 400) (b := L) (by decide) (by omega)).mp g
    omega
  unfold f_X1_put f_X2_put
  rw [if_neg le]
  simp only [if_neg hin]
  rw [nI_clamp (by omega), nI_1]
  exact ⟨rfl, rfl⟩
/-- k digits of R put, the first of them at the place of 10^top -/
def PD (R : Nat) : Nat → (Nat → Int32) → Nat → Nat → (Nat → Int32)
  | _, X, _, 0 => X
  | top, X, L, k + 1 => PD R (top - 1) (upd X L (48 + nI (R / 10 ^ top % 10))) (L + 1) k
theorem pd_L2 : ∀ (k fu : Nat) (l2 l3 : Int32) (X : Nat → Int32) (g : Nat → Int64) (G : Nat → Nat) (R top L : Nat), LR g G → VV G 160 = R → l3.toInt = (top : Int) - 1125 → l2.toInt = l3.toInt - k + 1 → k ≤ top → top < 1440 → L + k ≤ 400 → k < fu →
    f_X1_putDigits_L2 fu l2 l3 (nI L) X g = some (nI (L + k), PD R top X L k) := by
  intro k
  induction k with
  | zero =>
    intro fu l2 l3 X g G R top L h1 h2 h3 h4 h5 h6 h7 h8
    obtain ⟨fu, rfl⟩ : ∃ f, fu = f + 1 := ⟨fu - 1, by omega⟩
    unfold f_X1_putDigits_L2
    rw [if_pos (by rw [i_lt]; omega)]
    rfl
  | succ k ih =>
    intro fu l2 l3 X g G R top L h1 h2 h3 h4 h5 h6 h7 h8
    obtain ⟨fu, rfl⟩ : ∃ f, fu = f + 1 := ⟨fu - 1, by omega⟩
    unfold f_X1_putDigits_L2
    rw [if_neg (by rw [i_lt]; omega), digit_ok h1 h3 h6, Option.bind_some, (put_ok (by omega)).1, Option.bind_some, h2]
    have e1 : (l3 + (-1)).toInt = l3.toInt - 1 := i_m1 (by omega)
    have := ih fu l2 (l3 + (-1)) (upd X L (48 + nI (R / 10 ^ top % 10))) g G R (top - 1) (L + 1) h1 h2 (by omega) (by omega) (by omega) (by omega) (by omega) (by omega)
    rw [show L + 1 + k = L + (k + 1) by omega] at this
    exact this
theorem p2_L81 : ∀ (k fu i : Nat) (l3 th us : Int32) (X d n pw : Nat → Int32) (fl : Nat → Int64) (R E m L : Nat) (P : Int32), RW 2800 d n pw R E m P → P.toInt = (E : Int) - 1125 → 0 < P.toInt → P.toInt = (i : Int) + k → E < 2000 → L + k ≤ 400 → k < fu →
    f_X2_print_L81 fu l3 (nI i) th (nI L) us X d n pw fl = f_X2_print_b133 l3 th (nI (L + k)) us (PD R (1124 + k) X L k) d n pw fl := by
  intro k
  induction k with
  | zero =>
    intro fu i l3 th us X d n pw fl R E m L P h1 h2 h3 h4 h5 h6 h7
    obtain ⟨fu, rfl⟩ : ∃ f, fu = f + 1 := ⟨fu - 1, by omega⟩
    have a2 := h1.2.1
    unfold f_X2_print_L81
    rw [c2800, a2, if_pos (by rw [i_le, nI_toInt (by omega)]; omega), if_pos (by rw [i_lt, lit_0]; omega)]
    rfl
  | succ k ih =>
    intro fu i l3 th us X d n pw fl R E m L P h1 h2 h3 h4 h5 h6 h7
    obtain ⟨fu, rfl⟩ : ∃ f, fu = f + 1 := ⟨fu - 1, by omega⟩
    have a2 := h1.2.1
    have t : (nI i).toInt = (i : Int) := nI_toInt (by omega)
    unfold f_X2_print_L81
    rw [c2800, a2, if_neg (by rw [i_le, t]; omega), dg_ok (e := 1124 + (k + 1)) h1 (show (2800 : Int32) = nI 2800 from rfl) (by decide) (by omega) (by omega) (by rw [t]; omega), Option.bind_some, (put_ok (by omega)).2, Option.bind_some, nI_1]
    have := ih fu (i + 1) l3 th us (upd X L (48 + nI (R / 10 ^ (1124 + (k + 1)) % 10))) d n pw fl R E m (L + 1) P h1 h2 h3 (by omega) h5 (by omega) (by omega)
    rw [show L + 1 + k = L + (k + 1) by omega] at this
    exact this
theorem p2_L146 : ∀ (k fu i pl : Nat) (th us : Int32) (X d n pw : Nat → Int32) (fl : Nat → Int64) (R E m L : Nat) (P : Int32), RW 2800 d n pw R E m P → P.toInt = (E : Int) - 1125 → pl = i + k → pl ≤ 30 → E < 2000 → L + k ≤ 400 → k < fu →
    f_X2_print_L146 fu (nI pl) (nI i) th (nI L) us X d n pw fl = some (nI (L + k), th, nI (L + k), us, PD R (1124 - i) X L k, d, n, pw, fl) := by
  intro k
  induction k with
  | zero =>
    intro fu i pl th us X d n pw fl R E m L P h1 h2 h3 h4 h5 h6 h7
    obtain ⟨fu, rfl⟩ : ∃ f, fu = f + 1 := ⟨fu - 1, by omega⟩
    unfold f_X2_print_L146
    rw [if_pos ((nI_leI (by omega) (by omega)).mpr (by omega))]
    rfl
  | succ k ih =>
    intro fu i pl th us X d n pw fl R E m L P h1 h2 h3 h4 h5 h6 h7
    obtain ⟨fu, rfl⟩ : ∃ f, fu = f + 1 := ⟨fu - 1, by omega⟩
    have a2 := h1.2.1
    have t : (nI i).toInt = (i : Int) := nI_toInt (by omega)
    have t2 : (P + nI i).toInt = P.toInt + i := by rw [i_add (by rw [t]; omega) (by rw [t]; omega), t]
    unfold f_X2_print_L146
    rw [if_neg (fun g => by have := (nI_leI (by omega) (by omega)).mp g; omega), c2800, a2, dg_ok (e := 1124 - i) h1 (show (2800 : Int32) = nI 2800 from rfl) (by decide) (by omega) (by omega) (by rw [t2]; omega), Option.bind_some, (put_ok (by omega)).2, Option.bind_some, nI_1]
    have := ih fu (i + 1) pl th us (upd X L (48 + nI (R / 10 ^ (1124 - i) % 10))) d n pw fl R E m (L + 1) P h1 h2 (by omega) h4 h5 (by omega) (by omega)
    rw [show L + 1 + k = L + (k + 1) by omega, show 1124 - (i + 1) = 1124 - i - 1 by omega] at this
    exact this
/-- the reference's number, rounded to so many places -/
theorem cut2_ok {d n pw : Nat → Int32} {N E m pl : Nat} {P : Int32} (h1 : RW 1400 d n pw N E m P) (hZ : NZ N E m) (hP : P.toInt = (E : Int) - 1125) (hE : E ≤ 1434) (h0 : N = 0 → E ≤ 1125) (hp : pl ≤ 30) :
    ∃ d' n' pw' E' m' P', f_X2_round (P + nI pl) d n pw = some (d', n', pw') ∧ RW 2800 d' n' pw' (rnd N (10 ^ (1125 - pl)) * 10 ^ (1125 - pl)) E' m' P' ∧ P'.toInt = (E' : Int) - 1125 ∧ E' ≤ 1435 ∧ (1125 < E' → 10 ^ (E' - 1) ≤ rnd N (10 ^ (1125 - pl)) * 10 ^ (1125 - pl)) := by
  have t : (nI pl).toInt = (pl : Int) := nI_toInt (by omega)
  have t2 : (P + nI pl).toInt = P.toInt + pl := by rw [i_add (by rw [t]; clear h0; omega) (by rw [t]; clear h0; omega), t]
  obtain ⟨e, he⟩ : ∃ e, e = 1125 - pl := ⟨_, rfl⟩
  rw [← he]
  have hN := h1.2.2.2.2.1
  by_cases c : P.toInt + pl < 0
  · obtain ⟨n', pw', g1, g2, g3⟩ := round_neg h1 (l1 := P + nI pl) (by rw [t2]; exact c)
    have hr : rnd N (10 ^ e) = 0 := by
      have h3 : 10 ^ E ≤ 10 ^ (e - 1) := ten_le (by clear h0 hN; omega)
      have h4 : 10 ^ e = 10 ^ (e - 1) * 10 := by rw [← Nat.pow_succ, show (e - 1).succ = e by clear h0 hN h3; omega]
      have h5 : N < 10 ^ (e - 1) := Nat.lt_of_lt_of_le hN h3
      have h6 := ten_pos (e - 1)
      rw [h4]
      generalize 10 ^ (e - 1) = z at h5 h6
      have hm : N % (z * 10) = N := Nat.mod_eq_of_lt (by omega)
      have hd : N / (z * 10) = 0 := Nat.div_eq_of_lt (by omega)
      unfold rnd
      rw [hm, hd, if_neg (by omega)]
    rw [hr, Nat.zero_mul]
    exact ⟨d, n', pw', E, 0, P, g1, g2, hP, by clear h0 hN; omega, fun g => by clear h0 hN; omega⟩
  · obtain ⟨q, hq⟩ : ∃ q : Nat, P.toInt + pl = (q : Int) := ⟨(P.toInt + pl).toNat, by clear h0 hN; omega⟩
    obtain ⟨d', n', pw', E', q', P', g1, g2, g3, g4⟩ := round_ok h1 (l1 := P + nI pl) (q := q) (nI_of_toInt (by rw [t2, hq]) (by clear h0 hN; omega)) (by clear h0 hN; omega) (by clear h0 hN; omega) (by clear h0 hN; omega)
    have hEq : E - q = e := by clear h0 hN g2 g4; omega
    rw [hEq] at g2 g4
    refine ⟨d', n', pw', E', q', P', g1, g2, ?_⟩
    rcases g4 with ⟨k1, k2, k3⟩ | ⟨k1, k2, k3, k4⟩
    · subst k1 k3
      refine ⟨hP, by clear h0 hN g2; omega, fun g => ?_⟩
      have hm : m ≠ 0 := fun c0 => by
        have := h0 (rw_zero h1 c0)
        clear hN g2; omega
      have hz := (hZ hm).2
      have e1 : 10 ^ (E' - 1) = 10 ^ (E' - 1 - e) * 10 ^ e := by rw [← Nat.pow_add, show E' - 1 - e + e = E' - 1 by clear h0 hN g2 hz; omega]
      rw [e1] at hz ⊢
      exact Nat.mul_le_mul_right _ (rnd_ge (ten_pos e) hz)
    · subst k1 k3
      have tp : (P + 1).toInt = P.toInt + 1 := i_1 (by clear h0 hN g2 k4; omega)
      refine ⟨by rw [tp]; clear h0 hN g2 k4; omega, by clear h0 hN g2 k4; omega, fun g => ?_⟩
      rw [k4, ← Nat.pow_add]
      exact ten_le (by clear h0 hN g2 k4; omega)
/-- the digits before the point -/
theorem int_ok {a b l3 th us P : Int32} {g fl : Nat → Int64} {G : Nat → Nat} {X d n pw : Nat → Int32} {R E m s0 : Nat} (h1 : DD a b g G) (h2 : TD a b G) (h3 : VV G 160 = R) (h4 : RW 2800 d n pw R E m P) (h5 : P.toInt = (E : Int) - 1125) (h6 : E ≤ 1435) (h7 : 1125 < E → 10 ^ (E - 1) ≤ R) (h8 : s0 ≤ 1) :
    ∃ r k X', f_X0_topPlace a g = some r ∧ f_X1_putDigits (if 0 < r then r else 0) 0 (nI s0) X g = some (nI (s0 + k), X') ∧ k ≤ 310 ∧ f_X2_print_L81 FU l3 0 th (nI s0) us X d n pw fl = f_X2_print_b133 l3 th (nI (s0 + k)) us X' d n pw fl := by
  have hR := h4.2.2.2.2.1
  by_cases c : 1125 < E
  · have h9 := h7 c
    have hn : VV G 160 ≠ 0 := by rw [h3]; have := ten_pos (E - 1); clear h7 hR; omega
    obtain ⟨r, e, p1, p2, p3, p4, p5⟩ := topPlace_ok h1 h2 hn
    rw [h3] at p3 p4
    have he : e + 1 = E := ten_uniq (A := R) (by rw [show e + 1 - 1 = e from rfl]; exact p3) p4 h9 hR (by omega) (by clear h7 hR h9 p3 p4; omega)
    have hr : (if 0 < r then r else 0).toInt = (e : Int) - 1125 := by
      by_cases c2 : 0 < r
      · rw [if_pos c2]; exact p2
      · rw [if_neg c2]
        rw [i_lt, lit_0] at c2
        rw [lit_0]; clear h7 hR h9 p3 p4; omega
    refine ⟨r, e - 1124, PD R e X s0 (e - 1124), p1, ?_, by clear h7 hR h9 p3 p4; omega, ?_⟩
    · unfold f_X1_putDigits
      exact pd_L2 (e - 1124) FU 0 _ X g G R e s0 h1.1 h3 hr (by rw [lit_0, hr]; clear h7 hR h9 p3 p4; omega) (by clear h7 hR h9 p3 p4; omega) p5 (by clear h7 hR h9 p3 p4; omega) (by unfold FU; clear h7 hR h9 p3 p4; omega)
    · have := p2_L81 (e - 1124) FU 0 l3 th us X d n pw fl R E m s0 P h4 h5 (by clear h7 hR h9 p3 p4; omega) (by clear h7 hR h9 p3 p4; omega) (by clear h7 hR h9 p3 p4; omega) (by clear h7 hR h9 p3 p4; omega) (by unfold FU; clear h7 hR h9 p3 p4; omega)
      rw [show 1124 + (e - 1124) = e by clear h7 hR h9 p3 p4 this; omega] at this
      exact this
  · have hz : R / 10 ^ 1125 = 0 := dv_zero hR (by clear h7 hR; omega)
    have hr : ∃ r, f_X0_topPlace a g = some r ∧ (if 0 < r then r else 0) = 0 := by
      by_cases c0 : VV G 160 = 0
      · exact ⟨0, topPlace_zero h1 c0, rfl⟩
      · obtain ⟨r, e, p1, p2, p3, p4, p5⟩ := topPlace_ok h1 h2 c0
        refine ⟨r, p1, if_neg ?_⟩
        rw [i_lt, lit_0, p2]
        have : e < E := by
          rcases Nat.lt_or_ge e E with g | g
          · exact g
          · exfalso
            rw [h3] at p3
            exact absurd (Nat.lt_of_lt_of_le hR (Nat.le_trans (ten_le g) p3)) (Nat.lt_irrefl _)
        clear h7 hR hz p3 p4; omega
    obtain ⟨r, r1, r2⟩ := hr
    refine ⟨r, 1, PD R 1125 X s0 1, r1, ?_, by decide, ?_⟩
    · rw [r2]
      unfold f_X1_putDigits
      exact pd_L2 1 FU 0 0 X g G R 1125 s0 h1.1 h3 (by rw [lit_0]; rfl) (by rw [lit_0]; rfl) (by decide) (by decide) (by omega) (by decide)
    · obtain ⟨fu, hfu⟩ : ∃ fu, FU = fu + 1 := ⟨FU - 1, by unfold FU; rfl⟩
      rw [hfu]
      unfold f_X2_print_L81
      rw [c2800, h4.2.1, if_pos (by rw [i_le, lit_0]; clear h7 hR hz; omega), if_neg (by rw [i_lt, lit_0]; clear h7 hR hz; omega), (put_ok (by omega)).2, Option.bind_some]
      have : PD R 1125 X s0 1 = upd X s0 48 := by
        show upd X s0 (48 + nI (R / 10 ^ 1125 % 10)) = _
        rw [hz]
        rfl
      rw [this]
theorem start_ok {w : Int64} {l : Int32} {X : Nat → Int32} (h : ¬ lg_cmp (w &&& 9218868437227405312) 9218868437227405312 = 0) : ∃ s0 X0, s0 ≤ 1 ∧ f_X1_startText w l X = some (nI s0, X0) ∧ f_X2_begins w l X = some (1, nI s0, X0) := by
  unfold f_X1_startText f_X2_begins
  rw [if_neg h]
  by_cases c : 0 ≤ lg_cmp w 0
  · rw [if_pos c, if_pos c]
    exact ⟨0, X, by decide, rfl, rfl⟩
  · rw [if_neg c, if_neg c]
    have := put_ok (L := 0) (c := 45) (X := X) (by decide)
    have z : (0 : Int32) = nI 0 := rfl
    rw [z, this.1, this.2]
    exact ⟨1, upd X 0 45, by decide, rfl, rfl⟩
theorem none_BE {n : Nat} (h : n < 2 ^ 64) (hc : ¬ lg_cmp (lN n &&& 9218868437227405312) 9218868437227405312 = 0) : n % 9223372036854775808 < BE := by
  have h1 := isNone_ok h
  unfold f_X1_isNone at h1
  rw [if_neg hc] at h1
  unfold BE
  by_cases c : n / 4503599627370496 % 2048 = 2047
  · rw [if_pos c] at h1
    exact absurd (Option.some.inj h1) (by decide)
  · clear h1 hc
    omega
/-- print: both throw the same, or both answer the same and leave the same text -/
theorem print_eq {w : Int64} {l3 a b a2 b2 th us : Int32} {X d n pw : Nat → Int32} {L : Nat} {g g2 fl : Nat → Int64} {F F2 : Nat → Nat} (h6 : DD a b g F) (h7 : DD a2 b2 g2 F2) :
    (∃ k : Nat, (k = 1 ∨ k = 2) ∧ f_X1_print w l3 (nI L) X a b g a2 b2 g2 = some (.inr (k, (nI L, X, a, b, g, a2, b2, g2))) ∧ f_X2_print w l3 th (nI L) us X d n pw fl = some (0, nI k, nI L, us, X, d, n, pw, fl)) ∨
    (∃ L' X' a' b' g' F' a3 b3 g3 F3 us' d' n' pw' fl', L' ≤ 400 ∧ f_X1_print w l3 (nI L) X a b g a2 b2 g2 = some (.inl (nI L', (nI L', X', a', b', g', a3, b3, g3))) ∧ DD a' b' g' F' ∧ DD a3 b3 g3 F3 ∧ f_X2_print w l3 th (nI L) us X d n pw fl = some (nI L', 0, nI L', us', X', d', n', pw', fl')) := by
  unfold f_X1_print f_X2_print f_X2_print_b11 f_X2_print_b32
  by_cases c1 : l3 < 0
  · left
    rw [if_pos c1, if_pos c1]
    exact ⟨1, Or.inl rfl, rfl, rfl⟩
  rw [if_neg c1, if_neg c1]
  by_cases c2 : l3 ≤ 30
  case neg =>
    left
    rw [if_neg c2, if_neg c2]
    exact ⟨1, Or.inl rfl, rfl, rfl⟩
  rw [if_pos c2, if_pos c2]
  unfold f_X1_isNone
  by_cases c3 : lg_cmp (w &&& 9218868437227405312) 9218868437227405312 = 0
  · left
    rw [if_pos c3, if_pos c3, Option.bind_some]
    exact ⟨2, Or.inr rfl, rfl, rfl⟩
  right
  obtain ⟨s0, X0, s1, s2, s3⟩ := start_ok (l := nI L) (X := X) c3
  rw [if_neg c3, if_neg c3, Option.bind_some, s2, s3, Option.bind_some, if_pos rfl, if_pos rfl]
  obtain ⟨nn, n1, n2⟩ := wb_of w
  subst n2
  have hBE := none_BE n1 c3
  obtain ⟨s, hs⟩ : ∃ s, s = nn % 9223372036854775808 := ⟨_, rfl⟩
  obtain ⟨q, q1, q2⟩ := power_ok n1
  rw [mantissa_ok n1, Option.bind_some, q1, Option.bind_some, and_63 n1]
  rw [← hs] at hBE q2 ⊢
  have hSS := SS_le hBE
  have hPQ : PQ s = (SS s : Int) - 1074 := rfl
  have hMA := MA_lt s
  have e30 : (30 : Int32).toInt = 30 := rfl
  rw [i_lt, lit_0] at c1
  rw [i_le, e30] at c2
  obtain ⟨pl, hpl⟩ : ∃ pl : Nat, l3.toInt = (pl : Int) := ⟨l3.toInt.toNat, by omega⟩
  have hl3 : l3 = nI pl := nI_of_toInt hpl (by omega)
  subst hl3
  have ng : (-nI pl).toInt = ((1125 - pl : Nat) : Int) - 1125 := by rw [i_neg (by omega)]; omega
  obtain ⟨a', b', g', F', u1, u2, u3, u4⟩ := scaled_ok (l1 := lN (MA s)) (l3 := q) h6 rfl (by omega) (by omega) (by omega)
  rw [u1, Option.bind_some]
  rw [q2] at u4
  have hV : VAL (MA s) (PQ s) = 4 * gg s * WW := VAL_num s
  have hN := num_lt hBE
  rw [← hV, ← u4] at hN
  obtain ⟨a3, b3, g3, F3, v1, v2, v3, v4⟩ := takeRounded_ok h7 u2 u3 ng (by clear hN hV u4; omega) (LtT_add hN (by clear hN hV u4; omega))
  simp only []
  rw [v1, Option.bind_some]
  simp only []
  obtain ⟨us', d', n', pw', f', E, m, P, g1, g2', g3', g4, g5, g6⟩ := rowOf_ok (l1 := lN s) (l3 := 1400) (us := us) (d := d) (n := n) (pw := pw) (f := fl) (r := 1400) (a := s) rfl (by unfold BE at hBE; clear hN hV u4 v4; omega) rfl (by decide) hBE
  rw [← u4] at g2' g3' g5
  have hE : E ≤ 1434 := by
    by_cases cm : m = 0
    · have := g5.2 (rw_zero g2' cm)
      clear hN hV u4 v4; omega
    · have hz := (g3' cm).2
      rcases Nat.lt_or_ge E 1435 with gg | gg
      · clear hN hV u4 v4 hz; omega
      · exfalso
        have := ten_le (show 1434 ≤ E - 1 by clear hN hV u4 v4 hz; omega)
        exact absurd (Nat.lt_of_lt_of_le hN (Nat.le_trans this hz)) (Nat.lt_irrefl _)
  obtain ⟨d2, n2, pw2, E2, m2, P2, k1, k2, k3, k4, k5⟩ := cut2_ok (pl := pl) g2' g3' g4 hE g5.2 (by clear hN hV u4 v4; omega)
  rw [g1, Option.bind_some, Option.bind_some]
  simp only []
  rw [c1400, g2'.2.1, k1, Option.bind_some]
  simp only []
  rw [if_neg (show ¬ (1 : Int32) = 0 by decide)]
  obtain ⟨r, kk, X1, r1, r2, r3, r4⟩ := int_ok (l3 := nI pl) (th := 0) (us := us') (fl := f') (X := X0) v2 v3 v4 k2 k3 k4 k5 s1
  rw [r1, Option.bind_some, r2, Option.bind_some, r4]
  simp only []
  unfold f_X2_print_b133
  have le0 : nI pl ≤ 0 ↔ pl ≤ 0 := nI_leI (b := 0) (by clear hN hV u4 v4 k2 k5; omega) (by decide)
  by_cases c4 : pl ≤ 0
  · rw [if_pos (le0.mpr c4), if_pos (le0.mpr c4)]
    have hp0 : pl = 0 := by clear hN hV u4 v4 k2 k5; omega
    subst hp0
    have := p2_L146 0 FU 0 0 0 us' X1 d2 n2 pw2 f' _ E2 m2 (s0 + kk) P2 k2 k3 rfl (by decide) (by clear hN hV u4 v4 k2 k5; omega) (by clear hN hV u4 v4 k2 k5; omega) (by decide)
    exact ⟨s0 + kk, X1, a', b', g', F', a3, b3, g3, F3, us', d2, n2, pw2, f', by clear hN hV u4 v4 k2 k5; omega, rfl, u2, v2, this⟩
  · rw [if_neg (fun g => c4 (le0.mp g)), if_neg (fun g => c4 (le0.mp g))]
    have hput := put_ok (L := s0 + kk) (c := 46) (X := X1) (by clear hN hV u4 v4 k2 k5; omega)
    have := p2_L146 pl FU 0 pl 0 us' (upd X1 (s0 + kk) 46) d2 n2 pw2 f' _ E2 m2 (s0 + kk + 1) P2 k2 k3 (by omega) (by clear hN hV u4 v4 k2 k5; omega) (by clear hN hV u4 v4 k2 k5; omega) (by clear hN hV u4 v4 k2 k5; omega) (by unfold FU; clear hN hV u4 v4 k2 k5; omega)
    have t2 := pd_L2 pl FU (-nI pl) (-1) (upd X1 (s0 + kk) 46) g3 F3 _ 1124 (s0 + kk + 1) v2.1 v4 (by rw [lit_m1]; rfl) (by rw [lit_m1, ng]; clear hN hV u4 v4 k2 k5; omega) (by clear hN hV u4 v4 k2 k5; omega) (by decide) (by clear hN hV u4 v4 k2 k5; omega) (by unfold FU; clear hN hV u4 v4 k2 k5; omega)
    rw [hput.1, hput.2, Option.bind_some, Option.bind_some]
    simp only []
    unfold f_X1_putDigits
    rw [t2, Option.bind_some]
    exact ⟨s0 + kk + 1 + pl, _, a', b', g', F', a3, b3, g3, F3, us', d2, n2, pw2, f', by clear hN hV u4 v4 k2 k5 t2 this; omega, rfl, u2, v2, this⟩
