theorem dA : ∀ a, a < 400 → nI a / 100 - nI a / 100 / 10 * 10 = nI a / 100 := by decide +kernel
theorem dC : ∀ a, a < 400 → nI a / 1 = nI a := by decide +kernel
theorem L308_ok {a L fu : Nat} {th us : Int32} {X d n pw : Nat → Int32} {fl : Nat → Int64} (ha : a < 400) (hL : L + 3 ≤ 400) :
    ∃ L' X', L' ≤ L + 3 ∧ (if nI a < 100 then f_X1_putPower_b38 (nI a) (nI L) X else ((f_X1_put (48 + (nI a / 100)) (nI L) X).bind fun (v_length_35, v_text_35) => f_X1_putPower_b38 (nI a) v_length_35 v_text_35)) = some (nI L', X') ∧ f_X2_shortest_L308 (fu + 1 + 1 + 1 + 1) (nI a) 100 th (nI L) us X d n pw fl = some (nI L', th, nI L', us, X', d, n, pw, fl) := by
  have q100 : nI a < 100 ↔ a < 100 := nI_ltI (b := 100) (by omega) (by decide)
  have q10 : nI a < 10 ↔ a < 10 := nI_ltI (b := 10) (by omega) (by decide)
  have p100 : 100 ≤ nI a ↔ 100 ≤ a := nI_leI (a := 100) (by decide) (by omega)
  have p10 : 10 ≤ nI a ↔ 10 ≤ a := nI_leI (a := 10) (by decide) (by omega)
  have last : ∀ (L : Nat) (X : Nat → Int32), L < 400 → f_X1_putPower_b58 (nI a) (nI L) X = some (nI (L + 1), upd X L (48 + (nI a - nI a / 10 * 10))) ∧ f_X2_shortest_L308 (fu + 1 + 1) (nI a) 1 th (nI L) us X d n pw fl = some (nI (L + 1), th, nI (L + 1), us, upd X L (48 + (nI a - nI a / 10 * 10)), d, n, pw, fl) := by
    intro L X h
    refine ⟨?_, ?_⟩
    · unfold f_X1_putPower_b58
      rw [(put_ok h).1, Option.bind_some]
    · have ex : ∀ (L : Nat) (X : Nat → Int32), f_X2_shortest_L308 (fu + 1) (nI a) (1 / 10) th (nI L) us X d n pw fl = some (nI L, th, nI L, us, X, d, n, pw, fl) := by
        intro L X
        rw [f_X2_shortest_L308, if_pos (by decide)]
      rw [f_X2_shortest_L308, if_neg (by decide), dC a ha]
      have e0 : ¬ (1 : Int32) = 0 := by decide
      simp only [if_neg e0, if_pos]
      by_cases c : (1 : Int32) ≤ nI a
      · rw [if_pos c, (put_ok h).2, Option.bind_some]
        exact ex _ _
      · rw [if_neg c, (put_ok h).2, Option.bind_some]
        exact ex _ _
  have e10 : (10 : Int32) / 10 = 1 := by decide
  have e100 : (100 : Int32) / 10 = 10 := by decide
  have t1 : ¬ (10 : Int32) ≤ 0 := by decide
  have t2 : ¬ (10 : Int32) = 1 := by decide
  have t3 : ¬ (10 : Int32) = 0 := by decide
  have h1 : ¬ (100 : Int32) ≤ 0 := by decide
  have h2 : ¬ (100 : Int32) = 1 := by decide
  have h3 : ¬ (100 : Int32) = 0 := by decide
  have mid1 : ∀ (L : Nat) (X : Nat → Int32), L + 2 ≤ 400 → ∃ L' X', L' ≤ L + 2 ∧ f_X1_putPower_b38 (nI a) (nI L) X = some (nI L', X') ∧ f_X2_shortest_L308 (fu + 1 + 1 + 1) (nI a) 10 th (nI L) us X d n pw fl = some (nI L', th, nI L', us, X', d, n, pw, fl) := by
    intro L X h
    unfold f_X1_putPower_b38
    rw [f_X2_shortest_L308, if_neg t1]
    by_cases c : a < 10
    · rw [if_pos (q10.mpr c), if_neg (fun g => by have := p10.mp g; omega), if_neg t2, e10]
      have := last L X (by omega)
      exact ⟨L + 1, _, by omega, this.1, this.2⟩
    · rw [if_neg (fun g => c (q10.mp g)), if_pos (p10.mpr (by omega)), if_neg t3, (put_ok (by omega)).1, (put_ok (by omega)).2, Option.bind_some, Option.bind_some, e10]
      have := last (L + 1) (upd X L (48 + (nI a / 10 - nI a / 10 / 10 * 10))) (by omega)
      exact ⟨L + 1 + 1, _, by omega, this.1, this.2⟩
  rw [f_X2_shortest_L308, if_neg h1]
  by_cases c : a < 100
  · rw [if_pos (q100.mpr c), if_neg (fun g => by have := p100.mp g; omega), if_neg h2, e100]
    obtain ⟨L', X', k1, k2, k3⟩ := mid1 L X (by omega)
    exact ⟨L', X', by omega, k2, k3⟩
  · rw [if_neg (fun g => c (q100.mp g)), if_pos (p100.mpr (by omega)), if_neg h3, dA a ha, (put_ok (by omega)).1, (put_ok (by omega)).2, Option.bind_some, Option.bind_some, e100]
    obtain ⟨L', X', k1, k2, k3⟩ := mid1 (L + 1) (upd X L (48 + nI a / 100)) (by omega)
    exact ⟨L', X', by omega, k2, k3⟩
/-- the power of ten, as the reference puts it -/
def pout (r th sz us : Int32) (X d n pw : Nat → Int32) (fl : Nat → Int64) : Option ((Int32) × (Int32) × (Int32) × (Int32) × (Nat → Int32) × (Nat → Int32) × (Nat → Int32) × (Nat → Int32) × (Nat → Int64)) :=
  ((f_X2_put 101 sz X).bind fun (v_size_263, v_text_263) =>
(if 0 ≤ r then
f_X2_shortest_b289 r th v_size_263 us v_text_263 d n pw fl
      else
((f_X2_put 45 v_size_263 v_text_263).bind fun (v_size_286, v_text_286) =>
f_X2_shortest_b289 r th v_size_286 us v_text_286 d n pw fl)))
theorem pow_eq {r th us : Int32} {L : Nat} {X d n pw : Nat → Int32} {fl : Nat → Int64} (h1 : -400 < r.toInt) (h2 : r.toInt < 400) (hL : L + 5 ≤ 400) :
    ∃ L' X', L' ≤ L + 5 ∧ f_X1_putPower r (nI L) X = some (nI L', X') ∧ pout r th (nI L) us X d n pw fl = some (nI L', th, nI L', us, X', d, n, pw, fl) := by
  obtain ⟨fu, hfu⟩ : ∃ fu, FU = fu + 1 + 1 + 1 + 1 := ⟨FU - 4, by unfold FU; rfl⟩
  unfold f_X1_putPower pout
  rw [(put_ok (by omega)).1, (put_ok (by omega)).2, Option.bind_some, Option.bind_some]
  simp only []
  unfold f_X2_shortest_b289 f_X1_putPower_b16
  by_cases c : 0 ≤ r
  · simp only [if_pos c]
    rw [i_le, lit_0] at c
    have hr : r = nI r.toInt.toNat := nI_of_toInt (by omega) (by omega)
    rw [hr, hfu]
    obtain ⟨L', X', k1, k2, k3⟩ := L308_ok (a := r.toInt.toNat) (L := L + 1) (fu := fu) (th := th) (us := us) (X := upd X L 101) (d := d) (n := n) (pw := pw) (fl := fl) (by omega) (by omega)
    exact ⟨L', X', by omega, k2, k3⟩
  · simp only [if_neg c]
    rw [i_le, lit_0] at c
    have e0 : 0 - r = -r := Int32.zero_sub r
    have hr : -r = nI (-r.toInt).toNat := nI_of_toInt (by rw [i_neg (by omega)]; omega) (by omega)
    rw [(put_ok (by omega)).1, (put_ok (by omega)).2, Option.bind_some, Option.bind_some, e0, hr, hfu]
    obtain ⟨L', X', k1, k2, k3⟩ := L308_ok (a := (-r.toInt).toNat) (L := L + 1 + 1) (fu := fu) (th := th) (us := us) (X := upd (upd X L 101) (L + 1) 45) (d := d) (n := n) (pw := pw) (fl := fl) (by omega) (by omega)
    exact ⟨L', X', by omega, k2, k3⟩
theorem L231_ok : ∀ (k fu i K : Nat) (th us r : Int32) (X d n pw : Nat → Int32) (fl : Nat → Int64) (R E m L : Nat) (P : Int32), RW 2800 d n pw R E m P → r = P - 1 → K = i + k → K ≤ 17 → E < 2000 → 17 < E → L + k ≤ 400 → k < fu →
    f_X2_shortest_L231 fu (nI K) (nI i) th (nI L) us X d n pw fl = pout r th (nI (L + k)) us (PD R (E - 1 - i) X L k) d n pw fl := by
  intro k
  induction k with
  | zero =>
    intro fu i K th us r X d n pw fl R E m L P h1 h2 h3 h4 h5 h6 h7 h8
    obtain ⟨fu, rfl⟩ : ∃ f, fu = f + 1 := ⟨fu - 1, by omega⟩
    unfold f_X2_shortest_L231 pout
    rw [if_pos ((nI_leI (by omega) (by omega)).mpr (by omega)), c2800, h1.2.1, h2]
    rfl
  | succ k ih =>
    intro fu i K th us r X d n pw fl R E m L P h1 h2 h3 h4 h5 h6 h7 h8
    obtain ⟨fu, rfl⟩ : ∃ f, fu = f + 1 := ⟨fu - 1, by omega⟩
    have t : (nI i).toInt = (i : Int) := nI_toInt (by omega)
    unfold f_X2_shortest_L231
    rw [if_neg (fun g => by have := (nI_leI (by omega) (by omega)).mp g; omega), dg_ok (e := E - 1 - i) h1 (show (2800 : Int32) = nI 2800 from rfl) (by decide) (by omega) (by omega) (by rw [t]; omega), Option.bind_some, (put_ok (by omega)).2, Option.bind_some, nI_1]
    have := ih fu (i + 1) K th us r (upd X L (48 + nI (R / 10 ^ (E - 1 - i) % 10))) d n pw fl R E m (L + 1) P h1 h2 (by omega) h4 h5 h6 (by omega) (by omega)
    rw [show L + 1 + k = L + (k + 1) by omega, show E - 1 - (i + 1) = E - 1 - i - 1 by omega] at this
    exact this
/-- the digits found, both put the same -/
theorem out_ok {a b th us P : Int32} {g fl : Nat → Int64} {G : Nat → Nat} {X d n pw : Nat → Int32} {R E m s0 K : Nat} (h1 : DD a b g G) (h2 : TD a b G) (h3 : VV G 160 = R) (h4 : RW 2800 d n pw R E m P) (h5 : P.toInt = (E : Int) - 1125) (h6 : E ≤ 1435) (h7 : 800 ≤ E) (h8 : 10 ^ (E - 1) ≤ R) (h9 : s0 ≤ 1) (k1 : 1 ≤ K) (k2 : K ≤ 17) :
    ∃ r L' X', L' ≤ 400 ∧ f_X0_topPlace a g = some r ∧ ((f_X1_putDigits r r (nI s0) X g).bind fun (v_length_50, v_text_50) =>
(if nI K ≤ 1 then
((f_X1_putPower r v_length_50 v_text_50).bind fun (v_length_83, v_text_83) =>
some (v_length_83, v_text_83))
  else
((f_X1_put 46 v_length_50 v_text_50).bind fun (v_length_62, v_text_62) =>
((f_X1_putDigits (r - 1) ((r - nI K) + 1) v_length_62 v_text_62 g).bind fun (v_length_77, v_text_77) =>
((f_X1_putPower r v_length_77 v_text_77).bind fun (v_length_83, v_text_83) =>
some (v_length_83, v_text_83)))))) = some (nI L', X') ∧ mout (nI K) th (nI s0) us X d n pw fl = some (nI L', th, nI L', us, X', d, n, pw, fl) := by
  have hR := h4.2.2.2.2.1
  have hn : VV G 160 ≠ 0 := by rw [h3]; have := ten_pos (E - 1); clear hR; omega
  obtain ⟨r, e, p1, p2, p3, p4, p5⟩ := topPlace_ok h1 h2 hn
  rw [h3] at p3 p4
  have he : e + 1 = E := ten_uniq (A := R) (by rw [show e + 1 - 1 = e from rfl]; exact p3) p4 h8 hR (by omega) (by clear hR h8 p3 p4; omega)
  clear p3 p4
  have hr : r = P - 1 := i_eq.mpr (by rw [i_s1 (by clear hR h8; omega)]; clear hR h8; omega)
  have d1 := pd_L2 1 FU r r X g G R e s0 h1.1 h3 p2 (by clear hR h8; omega) (by clear hR h8; omega) p5 (by clear hR h8; omega) (by decide)
  have m1 := dg_ok (e := e) (l2 := 0) h4 (show (2800 : Int32) = nI 2800 from rfl) (by decide) (by clear hR h8; omega) (by clear hR h8; omega) (by rw [lit_0]; clear hR h8; omega)
  have hX : PD R e X s0 1 = upd X s0 (48 + nI (R / 10 ^ e % 10)) := rfl
  refine ⟨r, ?_⟩
  unfold mout f_X1_putDigits
  rw [d1, m1, hX, Option.bind_some, Option.bind_some, (put_ok (by clear hR h8; omega)).2, Option.bind_some]
  simp only []
  have le1 : nI K ≤ 1 ↔ K ≤ 1 := nI_leI (b := 1) (by clear hR h8; omega) (by decide)
  by_cases c : K ≤ 1
  · simp only [if_pos (le1.mpr c)]
    have hl := L231_ok 0 FU 1 K th us r (upd X s0 (48 + nI (R / 10 ^ e % 10))) d n pw fl R E m (s0 + 1) P h4 hr (by clear hR h8; omega) k2 (by clear hR h8; omega) (by clear hR h8; omega) (by clear hR h8; omega) (by decide)
    obtain ⟨L', X', w1, w2, w3⟩ := pow_eq (r := r) (th := th) (us := us) (L := s0 + 1) (X := upd X s0 (48 + nI (R / 10 ^ e % 10))) (d := d) (n := n) (pw := pw) (fl := fl) (by clear hR h8 hl; omega) (by clear hR h8 hl; omega) (by clear hR h8 hl; omega)
    refine ⟨L', X', by clear hR h8 hl; omega, p1, ?_, ?_⟩
    · rw [w2, Option.bind_some]
    · exact hl.trans w3
  · simp only [if_neg (fun g => c (le1.mp g))]
    have hput := put_ok (L := s0 + 1) (c := 46) (X := upd X s0 (48 + nI (R / 10 ^ e % 10))) (by clear hR h8; omega)
    have tK : (nI K).toInt = (K : Int) := nI_toInt (by clear hR h8; omega)
    have r1 : (r - 1).toInt = r.toInt - 1 := i_s1 (by clear hR h8; omega)
    have r2 : (r - nI K).toInt = r.toInt - K := by rw [i_sub (by rw [tK]; clear hR h8; omega) (by rw [tK]; clear hR h8; omega), tK]
    have r3 : (r - nI K + 1).toInt = r.toInt - K + 1 := by rw [i_1 (by clear hR h8; omega), r2]
    have d2 := pd_L2 (K - 1) FU (r - nI K + 1) (r - 1) (upd (upd X s0 (48 + nI (R / 10 ^ e % 10))) (s0 + 1) 46) g G R (e - 1) (s0 + 1 + 1) h1.1 h3 (by clear hR h8; omega) (by clear hR h8; omega) (by clear hR h8; omega) (by clear hR h8; omega) (by clear hR h8; omega) (by unfold FU; clear hR h8; omega)
    have hl := L231_ok (K - 1) FU 1 K th us r (upd (upd X s0 (48 + nI (R / 10 ^ e % 10))) (s0 + 1) 46) d n pw fl R E m (s0 + 1 + 1) P h4 hr (by clear hR h8; omega) k2 (by clear hR h8; omega) (by clear hR h8; omega) (by clear hR h8; omega) (by unfold FU; clear hR h8; omega)
    rw [show E - 1 - 1 = e - 1 by clear hR h8 hl; omega] at hl
    obtain ⟨L', X', w1, w2, w3⟩ := pow_eq (r := r) (th := th) (us := us) (L := s0 + 1 + 1 + (K - 1)) (X := PD R (e - 1) (upd (upd X s0 (48 + nI (R / 10 ^ e % 10))) (s0 + 1) 46) (s0 + 1 + 1) (K - 1)) (d := d) (n := n) (pw := pw) (fl := fl) (by clear hR h8 hl; omega) (by clear hR h8 hl; omega) (by clear hR h8 hl; omega)
    refine ⟨L', X', by clear hR h8 hl; omega, p1, ?_, ?_⟩
    · rw [hput.1, Option.bind_some, d2, Option.bind_some, w2, Option.bind_some]
    · rw [hput.2, Option.bind_some]
      exact hl.trans w3
