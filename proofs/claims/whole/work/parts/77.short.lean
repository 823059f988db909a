/-! shortest: the same bytes -/
theorem lN_dif {a b : Nat} (h : b ≤ a) (ha : a < 2 ^ 62) : lN a - lN b = lN (a - b) :=
  l_lN (by omega) (by rw [l_sub (by rw [l_N (by omega), l_N (by omega)]; omega) (by rw [l_N (by omega), l_N (by omega)]; omega), l_N (by omega), l_N (by omega)]; omega)
/-- what is between the edges -/
abbrev BT (ev R Lo Hi : Nat) : Prop := (Lo < R ∨ (ev ≠ 0 ∧ Lo = R)) ∧ (R < Hi ∨ (ev ≠ 0 ∧ R = Hi))
theorem sgn_pos {x y : Nat} : 0 < sgn3 x y ↔ y < x := by
  rcases Nat.lt_trichotomy x y with g | g | g
  · rw [sgn_lt g]
    exact ⟨fun h => absurd h (by decide), fun h => by omega⟩
  · rw [sgn_eq g]
    exact ⟨fun h => absurd h (by decide), fun h => by omega⟩
  · rw [sgn_gt g]
    exact ⟨fun _ => g, fun _ => by decide⟩
theorem sgn_le {x y : Nat} : sgn3 x y ≤ 0 ↔ x ≤ y := by
  rcases Nat.lt_trichotomy x y with g | g | g
  · rw [sgn_lt g]
    exact ⟨fun _ => by omega, fun _ => by decide⟩
  · rw [sgn_eq g]
    exact ⟨fun _ => by omega, fun _ => by decide⟩
  · rw [sgn_gt g]
    exact ⟨fun h => absurd h (by decide), fun h => by omega⟩
theorem between_ok {l1 a b a2 b2 a3 b3 : Int32} {f f2 f3 : Nat → Int64} {F F2 F3 : Nat → Nat} {ev : Nat} (h1 : DD a b f F) (h2 : DD a2 b2 f2 F2) (h3 : DD a3 b3 f3 F3) (h4 : l1 = nI ev) (h5 : ev ≤ 1) :
    f_X1_isBetweenEdges l1 a b f a2 b2 f2 a3 b3 f3 = some (if BT ev (VV F 160) (VV F2 160) (VV F3 160) then 1 else 0) := by
  unfold f_X1_isBetweenEdges
  rw [compared_ok h1 h2, Option.bind_some, compared_ok h3 h1, Option.bind_some, h4]
  generalize VV F 160 = R
  generalize VV F2 160 = Lo
  generalize VV F3 160 = Hi
  have e0 : nI ev = 0 ↔ ev = 0 := nI_eq (b := 0) (by omega) (by decide)
  by_cases c : ev = 0
  · rw [if_pos (e0.mpr c)]
    by_cases c1 : R ≤ Lo
    · rw [if_pos (sgn_le.mpr c1), if_neg (by omega)]
    · rw [if_neg (fun g => c1 (sgn_le.mp g))]
      by_cases c2 : Hi ≤ R
      · rw [if_pos (sgn_le.mpr c2), if_neg (by omega)]
      · rw [if_neg (fun g => c2 (sgn_le.mp g)), if_pos (by omega)]
  · rw [if_neg (fun g => c (e0.mp g))]
    by_cases c1 : R < Lo
    · rw [if_pos (sgn_neg.mpr c1), if_neg (by omega)]
    · rw [if_neg (fun g => c1 (sgn_neg.mp g))]
      by_cases c2 : Hi < R
      · rw [if_pos (sgn_neg.mpr c2), if_neg (by omega)]
      · rw [if_neg (fun g => c2 (sgn_neg.mp g)), if_pos (by omega)]
theorem b40_ok {l2 : Int32} {d n pw : Nat → Int32} {R Lo Hi ev : Nat} (h4 : l2 = nI ev) (h5 : ev ≤ 1) (hL : Lo < R ∨ (ev ≠ 0 ∧ Lo = R)) :
    f_X2_readsAsIt_b40 l2 (sgn3 R Hi) d n pw = some (if BT ev R Lo Hi then 1 else 0, d, n, pw) := by
  have e0 : nI ev = 0 ↔ ev = 0 := nI_eq (b := 0) (by omega) (by decide)
  unfold f_X2_readsAsIt_b40
  rw [h4]
  by_cases c1 : R < Hi
  · rw [if_pos (sgn_neg.mpr c1), if_pos ⟨hL, Or.inl c1⟩]
  · rw [if_neg (fun g => c1 (sgn_neg.mp g))]
    by_cases c2 : R = Hi
    · rw [if_pos (sgn_zero.mpr c2)]
      by_cases c : ev = 0
      · rw [if_pos (e0.mpr c), if_neg (by omega)]
      · rw [if_neg (fun g => c (e0.mp g)), if_pos ⟨hL, Or.inr ⟨c, c2⟩⟩]
    · rw [if_neg (fun g => c2 (sgn_zero.mp g)), if_neg (by omega)]
/-- the reference's rows of the number and of its edges -/
def R3 (d n pw : Nat → Int32) (N E Lo Hi : Nat) (P : Int32) : Prop := ∃ m E2 m2 P2 E3 m3 P3, RW 1400 d n pw N E m P ∧ P.toInt = (E : Int) - 1125 ∧ (RW 4200 d n pw Lo E2 m2 P2 ∧ NZ Lo E2 m2 ∧ P2.toInt = (E2 : Int) - 1125) ∧ (RW 5600 d n pw Hi E3 m3 P3 ∧ NZ Hi E3 m3 ∧ P3.toInt = (E3 : Int) - 1125)
def RK (N E k : Nat) : Nat := rnd N (10 ^ (E - k)) * 10 ^ (E - k)
theorem reads_ok {l1 l2 P : Int32} {d n pw : Nat → Int32} {N E Lo Hi k ev : Nat} (h : R3 d n pw N E Lo Hi P) (hN : 10 ^ (E - 1) ≤ N) (hE : E ≤ 1434) (hE2 : 800 ≤ E) (h1 : l1 = nI k) (hk : 1 ≤ k) (hk2 : k ≤ 30) (h4 : l2 = nI ev) (h5 : ev ≤ 1) :
    ∃ d' n' pw' E' m' P', f_X2_readsAsIt l1 l2 d n pw = some (if BT ev (RK N E k) Lo Hi then 1 else 0, d', n', pw') ∧ R3 d' n' pw' N E Lo Hi P ∧ RW 2800 d' n' pw' (RK N E k) E' m' P' ∧ P'.toInt = (E' : Int) - 1125 ∧ E' ≤ 1435 ∧ 800 ≤ E' ∧ 10 ^ (E' - 1) ≤ RK N E k := by
  obtain ⟨m, E2, m2, P2, E3, m3, P3, a1, a2, ⟨b1, b2, b3⟩, ⟨c1, c2, c3⟩⟩ := h
  obtain ⟨d', n', pw', E', q', P', g1, g2, g3, g4⟩ := round_ok a1 h1 (by clear hN; omega) (by clear hN; omega) (by clear hN; omega)
  have g5 : P'.toInt = (E' : Int) - 1125 ∧ (E' ≤ 1435 ∧ 800 ≤ E') ∧ 10 ^ (E' - 1) ≤ RK N E k := by
    unfold RK
    rcases g4 with ⟨k1, k2, k3⟩ | ⟨k1, k2, k3, k4⟩
    · subst k1 k3
      refine ⟨a2, by clear hN g2; omega, ?_⟩
      have e1 : 10 ^ (E' - 1) = 10 ^ (k - 1) * 10 ^ (E' - k) := by rw [← Nat.pow_add, show k - 1 + (E' - k) = E' - 1 by clear hN g2; omega]
      rw [e1] at hN ⊢
      exact Nat.mul_le_mul_right _ (rnd_ge (ten_pos _) hN)
    · subst k1 k3
      have tp : (P + 1).toInt = P.toInt + 1 := i_1 (by clear hN g2 k4; omega)
      refine ⟨by rw [tp]; clear hN g2 k4; omega, by clear hN g2 k4; omega, ?_⟩
      rw [k4, ← Nat.pow_add]
      exact ten_le (by clear hN g2 k4; omega)
  obtain ⟨w1, w2, w3⟩ := g5
  have x1 := only_rw g3 (o := 1400) (Or.inl (by decide)) a1
  have x2 := only_rw g3 (o := 4200) (Or.inr (by decide)) b1
  have x3 := only_rw g3 (o := 5600) (Or.inr (by decide)) c1
  have z : NZ (RK N E k) E' q' := fun _ => ⟨by clear hN g2 w3; omega, w3⟩
  have s1 := ag_ok (l1 := 2800) (l2 := 4200) (r := 2800) (o := 4200) (Z := 1125) rfl (by decide) rfl (by decide) g2 x2 (by clear hN g2 w3; omega) z b2 w1 b3
  have s2 := ag_ok (l1 := 2800) (l2 := 5600) (r := 2800) (o := 5600) (Z := 1125) rfl (by decide) rfl (by decide) g2 x3 (by clear hN g2 w3; omega) z c2 w1 c3
  have hR3 : R3 d' n' pw' N E Lo Hi P := ⟨m, E2, m2, P2, E3, m3, P3, x1, a2, ⟨x2, b2, b3⟩, ⟨x3, c2, c3⟩⟩
  refine ⟨d', n', pw', E', q', P', ?_, hR3, g2, w1, w2.1, w2.2, w3⟩
  unfold f_X2_readsAsIt
  rw [g1, Option.bind_some]
  simp only []
  rw [s1, Option.bind_some, s2, Option.bind_some]
  have e : rnd N (10 ^ (E - k)) * 10 ^ (E - k) = RK N E k := rfl
  rw [e]
  have e0 : nI ev = 0 ↔ ev = 0 := nI_eq (b := 0) (by clear hN g2 w3; omega) (by decide)
  generalize RK N E k = R
  by_cases q1 : Lo < R
  · rw [if_pos (sgn_pos.mpr q1)]
    exact b40_ok h4 h5 (Or.inl q1)
  · rw [if_neg (fun g => q1 (sgn_pos.mp g))]
    by_cases q2 : R = Lo
    · rw [if_pos (sgn_zero.mpr q2), h4]
      by_cases c : ev = 0
      · rw [if_pos (e0.mpr c), if_neg (fun g => by clear hN g2 w3; omega)]
      · rw [if_neg (fun g => c (e0.mp g))]
        exact b40_ok rfl h5 (Or.inr ⟨c, q2.symm⟩)
    · rw [if_neg (fun g => q2 (sgn_zero.mp g)), if_neg (fun g => by clear hN g2 w3; omega)]
/-- what the reference puts once the digits are found -/
def mout (l6 th sz us : Int32) (X d n pw : Nat → Int32) (fl : Nat → Int64) : Option ((Int32) × (Int32) × (Int32) × (Int32) × (Nat → Int32) × (Nat → Int32) × (Nat → Int32) × (Nat → Int32) × (Nat → Int64)) :=
  ((f_X2_digit 2800 0 d n).bind fun r209 =>
((f_X2_put (48 + r209) sz X).bind fun (v_size_213, v_text_213) =>
(if l6 ≤ 1 then
f_X2_shortest_L231 FU l6 1 th v_size_213 us v_text_213 d n pw fl
        else
((f_X2_put 46 v_size_213 v_text_213).bind fun (v_size_225, v_text_225) =>
f_X2_shortest_L231 FU l6 1 th v_size_225 us v_text_225 d n pw fl))))
theorem L171_ok {fu ev s : Nat} {l6 th sz us : Int32} {X d n pw : Nat → Int32} {fl : Nat → Int64} (hs : s < 2 ^ 63) (hev : ev = 1 - s % 2) :
    f_X2_shortest_L171 (fu + 1) (lN s) l6 th sz us X d n pw fl = (f_X2_readsAsIt l6 (nI ev) d n pw).bind fun (r189, d', n', pw') => if r189 = 0 then f_X2_shortest_L171 fu (lN s) (l6 + 1) th sz us X d' n' pw' fl else mout l6 th sz us X d' n' pw' fl := by
  have two : (2 : Int64) = lN 2 := rfl
  have hz := cmp0 (n := s % 2) (by omega)
  rw [f_X2_shortest_L171]
  unfold mout
  rw [two, pk_lRem hs (by decide) (by decide)]
  by_cases c : s % 2 = 0
  · rw [if_pos (hz.mpr c), hev, c]
    rfl
  · rw [if_neg (fun g => c (hz.mp g)), hev, show s % 2 = 1 by omega]
    rfl
/-- both loops, one count of digits after the other -/
theorem few_ok : ∀ (j k fu1 fu2 : Nat) (l1 l2 th sz us P : Int32) (X d n pw : Nat → Int32) (fl : Nat → Int64) (a b : Int32) (f : Nat → Int64) (a2 b2 : Int32) (f2 : Nat → Int64) (a3 b3 : Int32) (f3 : Nat → Int64) (a4 b4 : Int32) (f4 : Nat → Int64) (F F2 F3 F4 : Nat → Nat) (N E Lo Hi s ev : Nat),
    DD a b f F → TD a b F → VV F 160 = N → DD a2 b2 f2 F2 → DD a3 b3 f3 F3 → VV F3 160 = Lo → DD a4 b4 f4 F4 → VV F4 160 = Hi → R3 d n pw N E Lo Hi P → 10 ^ (E - 1) ≤ N → N < 10 ^ 1434 → E ≤ 1434 → 800 ≤ E → l1 = nI ev → ev = 1 - s % 2 → s < 2 ^ 63 → l2.toInt = (E : Int) - 1126 → BT ev (RK N E 17) Lo Hi → k + j = 17 → 1 ≤ k → j < fu1 → j < fu2 →
    ∃ K a' b' f' F' d' n' pw' E' m' P', 1 ≤ K ∧ K ≤ 17 ∧ f_X1_roundToFewest_L10 fu1 l1 l2 (nI k) a b f a2 b2 f2 a3 b3 f3 a4 b4 f4 = some (nI K, a', b', f') ∧ DD a' b' f' F' ∧ TD a' b' F' ∧ VV F' 160 = RK N E K ∧ f_X2_shortest_L171 fu2 (lN s) (nI k) th sz us X d n pw fl = mout (nI K) th sz us X d' n' pw' fl ∧ RW 2800 d' n' pw' (RK N E K) E' m' P' ∧ P'.toInt = (E' : Int) - 1125 ∧ E' ≤ 1435 ∧ 800 ≤ E' ∧ 10 ^ (E' - 1) ≤ RK N E K := by
  intro j
  induction j with
  | zero =>
    intro k fu1 fu2 l1 l2 th sz us P X d n pw fl a b f a2 b2 f2 a3 b3 f3 a4 b4 f4 F F2 F3 F4 N E Lo Hi s ev h1 h2 h3 h4 h5 h6 h7 h8 h9 h10 h11 h12 h13 h14 h15 h16 h17 h18 h19 h20 h21 h22
    obtain ⟨fu1, rfl⟩ : ∃ f, fu1 = f + 1 := ⟨fu1 - 1, by clear h10 h11; omega⟩
    obtain ⟨fu2, rfl⟩ : ∃ f, fu2 = f + 1 := ⟨fu2 - 1, by clear h10 h11; omega⟩
    have hk : k = 17 := by clear h10 h11; omega
    subst hk
    have e17 : (17 : Int32).toInt = 17 := rfl
    have t1 : (l2 - 17).toInt = l2.toInt - 17 := by rw [i_sub (by rw [e17]; clear h10 h11; omega) (by rw [e17]; clear h10 h11; omega), e17]
    have t2 : (l2 - 17 + 1).toInt = ((E - 17 : Nat) : Int) - 1125 := by rw [i_1 (by clear h10 h11; omega), t1]; clear h10 h11; omega
    obtain ⟨a', b', f', F', u1, u2, u3, u4⟩ := takeRounded_ok h4 h1 h2 t2 (by clear h10 h11; omega) (LtT_add (by rw [h3]; exact h11) (by clear h10 h11; omega))
    obtain ⟨d', n', pw', E', m', P', v1, v2, v3, v4⟩ := reads_ok (k := 17) h9 h10 h12 h13 (show (17 : Int32) = nI 17 from rfl) (by decide) (by decide) (show nI ev = nI ev from rfl) (by clear h10 h11; omega)
    refine ⟨17, a', b', f', F', d', n', pw', E', m', P', by decide, by decide, ?_, u2, u3, by rw [u4, h3]; rfl, ?_, v3, v4⟩
    · unfold f_X1_roundToFewest_L10
      rw [if_pos (by decide), u1, Option.bind_some]
      rfl
    · rw [L171_ok h16 h15, show nI 17 = (17 : Int32) from rfl, v1, Option.bind_some, if_pos h18]
      rfl
  | succ j ih =>
    intro k fu1 fu2 l1 l2 th sz us P X d n pw fl a b f a2 b2 f2 a3 b3 f3 a4 b4 f4 F F2 F3 F4 N E Lo Hi s ev h1 h2 h3 h4 h5 h6 h7 h8 h9 h10 h11 h12 h13 h14 h15 h16 h17 h18 h19 h20 h21 h22
    obtain ⟨fu1, rfl⟩ : ∃ f, fu1 = f + 1 := ⟨fu1 - 1, by clear h10 h11; omega⟩
    obtain ⟨fu2, rfl⟩ : ∃ f, fu2 = f + 1 := ⟨fu2 - 1, by clear h10 h11; omega⟩
    have ek : (nI k).toInt = (k : Int) := nI_toInt (by clear h10 h11; omega)
    have t1 : (l2 - nI k).toInt = l2.toInt - k := by rw [i_sub (by rw [ek]; clear h10 h11; omega) (by rw [ek]; clear h10 h11; omega), ek]
    have t2 : (l2 - nI k + 1).toInt = ((E - k : Nat) : Int) - 1125 := by rw [i_1 (by clear h10 h11; omega), t1]; clear h10 h11; omega
    obtain ⟨a', b', f', F', u1, u2, u3, u4⟩ := takeRounded_ok h4 h1 h2 t2 (by clear h10 h11; omega) (LtT_add (by rw [h3]; exact h11) (by clear h10 h11; omega))
    have u5 : VV F' 160 = RK N E k := by rw [u4, h3]; rfl
    obtain ⟨d', n', pw', E', m', P', v1, v2, v3, v4⟩ := reads_ok (k := k) h9 h10 h12 h13 (show nI k = nI k from rfl) h20 (by clear h10 h11; omega) (show nI ev = nI ev from rfl) (by clear h10 h11; omega)
    have w := between_ok (l1 := l1) u2 h5 h7 h14 (by clear h10 h11; omega)
    rw [u5, h6, h8] at w
    have le : ¬ (17 : Int32) ≤ nI k := fun g => by
      have := (nI_leI (a := 17) (b := k) (by decide) (by clear h10 h11; omega)).mp g
      clear h10 h11; omega
    rw [L171_ok h16 h15, v1, Option.bind_some]
    unfold f_X1_roundToFewest_L10
    rw [if_neg le, u1, Option.bind_some]
    simp only []
    rw [w, Option.bind_some]
    by_cases c : BT ev (RK N E k) Lo Hi
    · simp only [if_pos c]
      rw [if_neg (by decide), if_neg (by decide)]
      exact ⟨k, a', b', f', F', d', n', pw', E', m', P', h20, by clear h10 h11 v4; omega, rfl, u2, u3, u5, rfl, v3, v4⟩
    · simp only [if_neg c]
      rw [if_pos trivial, if_pos trivial, nI_1]
      exact ih (k + 1) fu1 fu2 l1 l2 th sz us P X d' n' pw' fl a b f a' b' f' a3 b3 f3 a4 b4 f4 F F' F3 F4 N E Lo Hi s ev h1 h2 h3 u2 h5 h6 h7 h8 v2 h10 h11 h12 h13 h14 h15 h16 h17 h18 (by clear h10 h11 v4; omega) (by clear h10 h11 v4; omega) (by clear h10 h11 v4; omega) (by clear h10 h11 v4; omega)
