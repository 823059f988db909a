/-! the edges, and shortest as a whole -/
def TT (s : Nat) : Nat := if s % 4503599627370496 = 0 ∧ 2 ≤ s / 4503599627370496 then 1 else 2
def DZ (s : Nat) : Nat := 2 ^ SS s * WW
def LO (s : Nat) : Nat := (4 * MA s - TT s) * DZ s
def HI (s : Nat) : Nat := (4 * MA s + 2) * DZ s
theorem TT_cases (s : Nat) : (TT s = 1 ∧ s % 4503599627370496 = 0 ∧ 2 ≤ s / 4503599627370496 ∧ MA s = 4503599627370496 ∧ 1 ≤ SS s) ∨ (TT s = 2 ∧ ¬ (s % 4503599627370496 = 0 ∧ 2 ≤ s / 4503599627370496) ∧ ¬ (MA s = 4503599627370496 ∧ 1 ≤ SS s)) := by
  unfold TT MA SS
  by_cases c : s % 4503599627370496 = 0 ∧ 2 ≤ s / 4503599627370496
  · left
    rw [if_pos c, if_neg (by omega), if_neg (by omega)]
    omega
  · right
    rw [if_neg c]
    refine ⟨rfl, c, ?_⟩
    by_cases c2 : s / 4503599627370496 = 0
    · rw [if_pos c2, if_pos c2]; omega
    · rw [if_neg c2, if_neg c2]; omega
theorem MA_pos {s : Nat} (h : s ≠ 0) : 1 ≤ MA s := by
  unfold MA
  split <;> omega
theorem MA_par (s : Nat) : MA s % 2 = s % 2 := by
  unfold MA
  split <;> omega
theorem VAL_2 {c s : Nat} : VAL c (PQ s - 2) = c * DZ s := by
  unfold DZ
  rw [VAL_W (by unfold PQ; omega), show (PQ s - 2 + 1076).toNat = SS s by unfold PQ; omega, Nat.mul_assoc]
theorem VAL_1 {c s : Nat} : VAL c (PQ s - 1) = 2 * c * DZ s := by
  unfold DZ
  rw [VAL_W (by unfold PQ; omega), show (PQ s - 1 + 1076).toNat = SS s + 1 by unfold PQ; omega, Nat.pow_succ, Nat.mul_assoc, Nat.mul_assoc, Nat.mul_left_comm (2 ^ SS s) 2 WW, Nat.mul_left_comm c 2, Nat.mul_assoc 2 c]
theorem VAL_0 {s : Nat} : VAL (MA s) (PQ s) = 4 * MA s * DZ s := by
  unfold DZ
  rw [VAL_num]
  unfold gg
  rw [← Nat.mul_assoc 4, Nat.mul_assoc]
theorem DZ_pos (s : Nat) : 0 < DZ s := Nat.mul_pos (two_pos _) WW_pos
/-- seventeen digits read back -/
theorem edge17 {N U r s : Nat} (hs : s ≠ 0) (hN : N = 4 * MA s * DZ s) (hU : 0 < U) (h1 : U * 10000000000000000 ≤ N) (h2 : r = rnd N U) : LO s < r * U ∧ r * U < HI s := by
  have hr : 10000000000000000 ≤ r := by rw [h2]; exact rnd_ge hU (by rw [Nat.mul_comm]; exact h1)
  have a1 : 2 * N ≤ 2 * (r * U) + U := by
    have := rnd_hi (N := N) hU
    rw [← h2, Nat.add_mul, Nat.one_mul, Nat.mul_assoc] at this
    rcases this with g | g
    · omega
    · omega
  have a2 : 2 * (r * U) ≤ 2 * N + U := by
    have := rnd_lo (N := N) hU (by rw [← h2]; omega)
    rw [← h2, Nat.sub_mul, Nat.one_mul, Nat.mul_assoc] at this
    rcases this with g | g
    · omega
    · omega
  have hD := DZ_pos s
  have hm := MA_lt s
  have hp := MA_pos hs
  have hMD : MA s * DZ s ≤ 9007199254740991 * DZ s := Nat.mul_le_mul_right _ (by omega)
  have hlo : LO s = 4 * (MA s * DZ s) - TT s * DZ s := by unfold LO; rw [Nat.sub_mul, Nat.mul_assoc]
  have hhi : HI s = 4 * (MA s * DZ s) + 2 * DZ s := by unfold HI; rw [Nat.add_mul, Nat.mul_assoc]
  have hPD : 1 * DZ s ≤ MA s * DZ s := Nat.mul_le_mul_right _ hp
  rw [Nat.mul_assoc] at hN
  rw [hlo, hhi]
  generalize r * U = RU at *
  rcases TT_cases s with ⟨t1, _, _, t2, _⟩ | ⟨t1, _, _⟩
  · rw [t1]
    rw [t2] at hN hMD hPD ⊢
    clear hlo hhi
    generalize DZ s = D at *
    omega
  · rw [t1]
    clear hlo hhi
    generalize MA s * DZ s = MD at *
    generalize DZ s = D at *
    omega
theorem edges_ok {q a b a2 b2 : Int32} {f f2 : Nat → Int64} {F F2 : Nat → Nat} {s : Nat} (h1 : DD a b f F) (h2 : DD a2 b2 f2 F2) (hq : q.toInt = PQ s) (hs : s ≠ 0) (hB : s < BE) :
    ∃ a' b' f' F' a3 b3 f3 F3, f_X1_takeEdges (lN (MA s)) q a b f a2 b2 f2 = some (a', b', f', a3, b3, f3) ∧ DD a' b' f' F' ∧ VV F' 160 = LO s ∧ DD a3 b3 f3 F3 ∧ VV F3 160 = HI s := by
  have hm := MA_lt s
  have hp := MA_pos hs
  have hSS := SS_le hB
  have hPQ : PQ s = (SS s : Int) - 1074 := rfl
  have e2 : (2 : Int32).toInt = 2 := rfl
  have t2 : (q - 2).toInt = PQ s - 2 := by rw [i_sub (by rw [e2]; omega) (by rw [e2]; omega), e2, hq]
  have four : (4 : Int64) = lN 4 := rfl
  have l4 : (4 : Int64) * lN (MA s) = lN (4 * MA s) := by rw [four, lN_mul]
  have lh : lN (4 * MA s) + 2 = lN (4 * MA s + 2) := by
    have two : (2 : Int64) = lN 2 := rfl
    rw [two, lN_add]
  have b45 : ∀ (t : Nat) (st : Int32), t = TT s → Int32.toInt64 st = lN t → ∃ a' b' f' F' a3 b3 f3 F3, f_X1_takeEdges_b45 q (4 * lN (MA s)) (4 * lN (MA s)) st a b f a2 b2 f2 = some (a', b', f', a3, b3, f3) ∧ DD a' b' f' F' ∧ VV F' 160 = LO s ∧ DD a3 b3 f3 F3 ∧ VV F3 160 = HI s := by
    intro t st ht hst
    have ht2 : t ≤ 2 := by rw [ht]; unfold TT; split <;> omega
    unfold f_X1_takeEdges_b45
    rw [hst, l4, lN_dif (by omega) (by omega), lh]
    obtain ⟨a', b', f', F', u1, u2, u3, u4⟩ := scaled_ok (l1 := lN (4 * MA s - t)) (l3 := q - 2) h1 rfl (by omega) (by omega) (by omega)
    obtain ⟨a3, b3, f3, F3, v1, v2, v3, v4⟩ := scaled_ok (l1 := lN (4 * MA s + 2)) (l3 := q - 2) h2 rfl (by omega) (by omega) (by omega)
    rw [u1, Option.bind_some]
    simp only []
    rw [v1, Option.bind_some]
    refine ⟨a', b', f', F', a3, b3, f3, F3, rfl, u2, ?_, v2, ?_⟩
    · rw [u4, t2, VAL_2, ht]; rfl
    · rw [v4, t2, VAL_2]; rfl
  have c52 : lg_cmp (lN (MA s)) 4503599627370496 = 0 ↔ MA s = 4503599627370496 := by
    rw [cmp_eq]
    exact pk_lEQ (a := MA s) (b := 4503599627370496) (by omega) (by decide)
  have em : (-1074 : Int32).toInt = -1074 := rfl
  have cq : q ≤ (-1074) ↔ SS s = 0 := by rw [i_le, em]; omega
  have y0 : f_X1_takeEdges_b20 (lN (MA s)) q 0 a b f a2 b2 f2 = f_X1_takeEdges_b45 q (4 * lN (MA s)) (4 * lN (MA s)) 2 a b f a2 b2 f2 := by
    unfold f_X1_takeEdges_b20
    rw [if_pos rfl]
  have y1 : f_X1_takeEdges_b20 (lN (MA s)) q 1 a b f a2 b2 f2 = f_X1_takeEdges_b45 q (4 * lN (MA s)) (4 * lN (MA s)) 1 a b f a2 b2 f2 := by
    unfold f_X1_takeEdges_b20
    rw [if_neg (by decide)]
  unfold f_X1_takeEdges f_X1_takeEdges_b19
  rw [y0, y1]
  rcases TT_cases s with ⟨t1, _, _, t3, t4⟩ | ⟨t1, _, t3⟩
  · rw [if_pos (c52.mpr t3), if_neg (fun g => by have := cq.mp g; omega)]
    exact b45 1 1 t1.symm rfl
  · by_cases c : MA s = 4503599627370496
    · rw [if_pos (c52.mpr c), if_pos (cq.mpr (by omega))]
      exact b45 2 2 t1.symm rfl
    · rw [if_neg (fun g => c (c52.mp g))]
      exact b45 2 2 t1.symm rfl
/-- the reference's rows before its loop -/
theorem b14_ok {w : Int64} {th sz us : Int32} {X d n pw : Nat → Int32} {fl : Nat → Int64} {s : Nat} (hw : w &&& 9223372036854775807 = lN s) (hs : s ≠ 0) (hB : s < BE) :
    ∃ us' d' n' pw' fl' E P, f_X2_shortest_b14 w 0 th sz us X d n pw fl = f_X2_shortest_L171 FU (lN s) 1 0 sz us' X d' n' pw' fl' ∧ R3 d' n' pw' (VAL (MA s) (PQ s)) E (LO s) (HI s) P ∧ 10 ^ (E - 1) ≤ VAL (MA s) (PQ s) ∧ VAL (MA s) (PQ s) < 10 ^ E ∧ 1 ≤ E := by
  have hs63 : s < 2 ^ 63 := Nat.lt_trans hB BE_63
  have hm := MA_lt s
  have hp := MA_pos hs
  have hSS := SS_le hB
  have hPQ : PQ s = (SS s : Int) - 1074 := rfl
  have hD := DZ_pos s
  obtain ⟨us1, d1, n1, pw1, f1, E, m, P, g1, g2, g3, g4, g5, g6⟩ := rowOf_ok (l1 := lN s) (l3 := 1400) (us := us) (d := d) (n := n) (pw := pw) (f := fl) (r := 1400) (a := s) rfl hs63 rfl (by decide) hB
  have hV : VAL (MA s) (PQ s) ≠ 0 := by
    rw [VAL_0]
    exact Nat.mul_ne_zero (by omega) (by omega)
  have hm0 : m ≠ 0 := fun c => hV (rw_zero g2 c)
  have hz := g3 hm0
  obtain ⟨q, q1, q2⟩ := two_ok hs63
  have two : (2 : Int64) = lN 2 := rfl
  have four : (4 : Int64) = lN 4 := rfl
  have one : (1 : Int64) = lN 1 := rfl
  have e1 : (1 : Int32).toInt = 1 := rfl
  have e2 : (2 : Int32).toInt = 2 := rfl
  have s1 : (q - 1).toInt = PQ s - 1 := by rw [i_s1 (by rw [q2]; omega), q2]
  have s2 : (q - 2).toInt = PQ s - 2 := by rw [i_sub (by rw [e2]; omega) (by rw [e2]; omega), e2, q2]
  -- the rest, once the low edge's row stands
  have rest : ∀ (c : Nat) (l s3 : Int32) (lc : Int64), lc = lN c → c < 2 ^ 63 → s3 = l → -1080 ≤ l.toInt → l.toInt ≤ 1080 → VAL c l.toInt = LO s → ∃ us' d' n' pw' fl' E P, (f_X2_row lc s3 4200 us1 d1 n1 pw1 f1).bind (fun (v_used_142, v_d_142, v_n_142, v_power_142, v_limbs_142) =>
((f_X2_whole (lN s)).bind fun r150 =>
((f_X2_two (lN s)).bind fun r157 =>
((f_X2_row ((2 * r150) + 1) (r157 - 1) 5600 v_used_142 v_d_142 v_n_142 v_power_142 v_limbs_142).bind fun (v_used_165, v_d_165, v_n_165, v_power_165, v_limbs_165) =>
f_X2_shortest_L171 FU (lN s) 1 0 sz v_used_165 X v_d_165 v_n_165 v_power_165 v_limbs_165)))) = f_X2_shortest_L171 FU (lN s) 1 0 sz us' X d' n' pw' fl' ∧ R3 d' n' pw' (VAL (MA s) (PQ s)) E (LO s) (HI s) P ∧ 10 ^ (E - 1) ≤ VAL (MA s) (PQ s) ∧ VAL (MA s) (PQ s) < 10 ^ E ∧ 1 ≤ E := by
    intro c l s3 lc hlc hc hs3 hl1 hl2 hv
    rw [hlc, hs3]
    obtain ⟨us2, d2, n2, pw2, f2, E2, m2, P2, i1, i2, i3, i4, i5, i6⟩ := row_ok (l1 := lN c) (l3 := l) (l4 := 4200) (us := us1) (d := d1) (n := n1) (pw := pw1) (f := f1) (r := 4200) (c := c) rfl hc rfl (by decide) hl1 hl2
    rw [hv] at i2 i3
    have eh : (2 : Int64) * lN (MA s) + 1 = lN (2 * MA s + 1) := by rw [two, lN_mul, lN_1]
    obtain ⟨us3, d3, n3, pw3, f3, E3, m3, P3, j1, j2, j3, j4, j5, j6⟩ := row_ok (l1 := lN (2 * MA s + 1)) (l3 := q - 1) (l4 := 5600) (us := us2) (d := d2) (n := n2) (pw := pw2) (f := f2) (r := 5600) (c := 2 * MA s + 1) rfl (by omega) rfl (by decide) (by omega) (by omega)
    have hh : VAL (2 * MA s + 1) (PQ s - 1) = HI s := by
      rw [VAL_1]
      unfold HI
      rw [show 2 * (2 * MA s + 1) = 4 * MA s + 2 by omega]
    rw [s1, hh] at j2 j3
    rw [i1, Option.bind_some]
    simp only []
    rw [whole2_ok hs63, Option.bind_some, q1, Option.bind_some, eh, j1, Option.bind_some]
    refine ⟨us3, d3, n3, pw3, f3, E, P, rfl, ⟨m, E2, m2, P2, E3, m3, P3, ?_, g4, ⟨?_, i3, i4⟩, ⟨j2, j3, j4⟩⟩, hz.2, g2.2.2.2.2.1, hz.1⟩
    · exact only_rw j6 (Or.inl (by decide)) (only_rw i6 (Or.inl (by decide)) g2)
    · exact only_rw j6 (Or.inl (by decide)) i2
  have nz : ¬ lg_cmp (lN s) 0 = 0 := fun g => hs ((cmp0 hs63).mp g)
  unfold f_X2_shortest_b14
  rw [if_pos rfl, hw, if_neg nz, g1, Option.bind_some]
  simp only []
  rw [and_52 (Nat.lt_trans hs63 (by decide)), shr52 (Nat.lt_trans hs63 (by decide))]
  have z1 : lg_cmp (lN (s % 4503599627370496)) 0 = 0 ↔ s % 4503599627370496 = 0 := cmp0 (by omega)
  have z2 : lg_cmp (lN (s / 4503599627370496)) 1 ≤ 0 ↔ s / 4503599627370496 ≤ 1 := by
    rw [cmp_le, one, l_N (by omega), l_N (by omega)]
    omega
  have u0 : f_X2_shortest_b93 (lN s) 0 0 sz us1 X d1 n1 pw1 f1 = (f_X2_row (2 * lN (MA s) - 1) (q - 1) 4200 us1 d1 n1 pw1 f1).bind (fun (v_used_142, v_d_142, v_n_142, v_power_142, v_limbs_142) =>
((f_X2_whole (lN s)).bind fun r150 =>
((f_X2_two (lN s)).bind fun r157 =>
((f_X2_row ((2 * r150) + 1) (r157 - 1) 5600 v_used_142 v_d_142 v_n_142 v_power_142 v_limbs_142).bind fun (v_used_165, v_d_165, v_n_165, v_power_165, v_limbs_165) =>
f_X2_shortest_L171 FU (lN s) 1 0 sz v_used_165 X v_d_165 v_n_165 v_power_165 v_limbs_165)))) := by
    unfold f_X2_shortest_b93 f_X2_shortest_b124 f_X2_shortest_b138
    rw [if_pos rfl, whole2_ok hs63, Option.bind_some, q1, Option.bind_some, if_pos rfl]
  have u1 : f_X2_shortest_b93 (lN s) 1 0 sz us1 X d1 n1 pw1 f1 = (f_X2_row (4 * lN (MA s) - 1) (q - 2) 4200 us1 d1 n1 pw1 f1).bind (fun (v_used_142, v_d_142, v_n_142, v_power_142, v_limbs_142) =>
((f_X2_whole (lN s)).bind fun r150 =>
((f_X2_two (lN s)).bind fun r157 =>
((f_X2_row ((2 * r150) + 1) (r157 - 1) 5600 v_used_142 v_d_142 v_n_142 v_power_142 v_limbs_142).bind fun (v_used_165, v_d_165, v_n_165, v_power_165, v_limbs_165) =>
f_X2_shortest_L171 FU (lN s) 1 0 sz v_used_165 X v_d_165 v_n_165 v_power_165 v_limbs_165)))) := by
    unfold f_X2_shortest_b93 f_X2_shortest_b124 f_X2_shortest_b138
    rw [if_neg (by decide), whole2_ok hs63, Option.bind_some, q1, Option.bind_some, if_neg (by decide)]
  have w2 : (2 : Int64) * lN (MA s) - 1 = lN (2 * MA s - 1) := by rw [two, lN_mul, one, lN_dif (by omega) (by omega)]
  have w4 : (4 : Int64) * lN (MA s) - 1 = lN (4 * MA s - 1) := by rw [four, lN_mul, one, lN_dif (by omega) (by omega)]
  unfold f_X2_shortest_b92
  rcases TT_cases s with ⟨t1, t2, t3, t4, t5⟩ | ⟨t1, t2, t3⟩
  · rw [if_pos (z1.mpr t2), if_neg (fun g => by have := z2.mp g; omega), u1]
    refine rest (4 * MA s - 1) (q - 2) (q - 2) _ w4 (by omega) rfl (by omega) (by omega) ?_
    rw [s2, VAL_2]
    unfold LO
    rw [t1]
  · have lo2 : ∃ us' d' n' pw' fl' E P, f_X2_shortest_b93 (lN s) 0 0 sz us1 X d1 n1 pw1 f1 = f_X2_shortest_L171 FU (lN s) 1 0 sz us' X d' n' pw' fl' ∧ R3 d' n' pw' (VAL (MA s) (PQ s)) E (LO s) (HI s) P ∧ 10 ^ (E - 1) ≤ VAL (MA s) (PQ s) ∧ VAL (MA s) (PQ s) < 10 ^ E ∧ 1 ≤ E := by
      rw [u0]
      refine rest (2 * MA s - 1) (q - 1) (q - 1) _ w2 (by omega) rfl (by omega) (by omega) ?_
      rw [s1, VAL_1]
      unfold LO
      rw [t1, show 2 * (2 * MA s - 1) = 4 * MA s - 2 by omega]
    by_cases c1 : s % 4503599627370496 = 0
    · rw [if_pos (z1.mpr c1), if_pos (z2.mpr (by omega))]
      exact lo2
    · rw [if_neg (fun g => c1 (z1.mp g))]
      exact lo2
theorem num_ge {s : Nat} (h : s ≠ 0) : 10 ^ 801 ≤ VAL (MA s) (PQ s) := by
  rw [VAL_num]
  have h1 : 1 ≤ gg s := by
    have := gg_lt (s - 1)
    rw [show s - 1 + 1 = s by omega] at this
    omega
  have h2 : 4 * 1 * WW ≤ 4 * gg s * WW := Nat.mul_le_mul_right _ (Nat.mul_le_mul_left _ h1)
  refine Nat.le_trans ?_ h2
  unfold WW
  decide +kernel
/-- the class's tail keeps its Decimals -/
theorem tail_eq {r K sz : Int32} {X : Nat → Int32} {f : Nat → Int64} {L' : Int32} {X' : Nat → Int32} {a1 b1 a2 b2 a3 b3 a4 b4 : Int32} {g1 g2 g3 g4 : Nat → Int64} (h : ((f_X1_putDigits r r sz X f).bind fun (v_length_50, v_text_50) =>
(if K ≤ 1 then
((f_X1_putPower r v_length_50 v_text_50).bind fun (v_length_83, v_text_83) =>
some (v_length_83, v_text_83))
  else
((f_X1_put 46 v_length_50 v_text_50).bind fun (v_length_62, v_text_62) =>
((f_X1_putDigits (r - 1) ((r - K) + 1) v_length_62 v_text_62 f).bind fun (v_length_77, v_text_77) =>
((f_X1_putPower r v_length_77 v_text_77).bind fun (v_length_83, v_text_83) =>
some (v_length_83, v_text_83)))))) = some (L', X')) : ((f_X1_putDigits r r sz X f).bind fun (v_length_50, v_text_50) =>
(if K ≤ 1 then
((f_X1_putPower r v_length_50 v_text_50).bind fun (v_length_83, v_text_83) =>
some (v_length_83, v_text_83, a1, b1, g1, a2, b2, g2, a3, b3, g3, a4, b4, g4))
  else
((f_X1_put 46 v_length_50 v_text_50).bind fun (v_length_62, v_text_62) =>
((f_X1_putDigits (r - 1) ((r - K) + 1) v_length_62 v_text_62 f).bind fun (v_length_77, v_text_77) =>
((f_X1_putPower r v_length_77 v_text_77).bind fun (v_length_83, v_text_83) =>
some (v_length_83, v_text_83, a1, b1, g1, a2, b2, g2, a3, b3, g3, a4, b4, g4)))))) = some (L', X', a1, b1, g1, a2, b2, g2, a3, b3, g3, a4, b4, g4) := by
  cases h1 : f_X1_putDigits r r sz X f with
  | none => rw [h1] at h; exact absurd h (by simp)
  | some o1 =>
    obtain ⟨l1, x1⟩ := o1
    rw [h1, Option.bind_some] at h
    rw [Option.bind_some]
    by_cases c : K ≤ 1
    · simp only [if_pos c] at h ⊢
      cases h2 : f_X1_putPower r l1 x1 with
      | none => rw [h2] at h; exact absurd h (by simp)
      | some o2 =>
        obtain ⟨l2, x2⟩ := o2
        rw [h2, Option.bind_some] at h
        rw [Option.bind_some]
        have := Option.some.inj h
        rw [(Prod.mk.inj this).1, (Prod.mk.inj this).2]
    · simp only [if_neg c] at h ⊢
      cases h2 : f_X1_put 46 l1 x1 with
      | none => rw [h2] at h; exact absurd h (by simp)
      | some o2 =>
        obtain ⟨l2, x2⟩ := o2
        rw [h2, Option.bind_some] at h
        rw [Option.bind_some]
        simp only [] at h ⊢
        cases h3 : f_X1_putDigits (r - 1) ((r - K) + 1) l2 x2 f with
        | none => rw [h3] at h; exact absurd h (by simp)
        | some o3 =>
          obtain ⟨l3, x3⟩ := o3
          rw [h3, Option.bind_some] at h
          rw [Option.bind_some]
          simp only [] at h ⊢
          cases h4 : f_X1_putPower r l3 x3 with
          | none => rw [h4] at h; exact absurd h (by simp)
          | some o4 =>
            obtain ⟨l4, x4⟩ := o4
            rw [h4, Option.bind_some] at h
            rw [Option.bind_some]
            have := Option.some.inj h
            rw [(Prod.mk.inj this).1, (Prod.mk.inj this).2]
/-- shortest: both throw, or both answer the same and leave the same text -/
theorem shortest_eq {w : Int64} {a b a2 b2 a3 b3 a4 b4 th us : Int32} {X d n pw : Nat → Int32} {L : Nat} {g g2 g3 g4 fl : Nat → Int64} {F F2 F3 F4 : Nat → Nat} (h1 : DD a b g F) (h2 : DD a2 b2 g2 F2) (h3 : DD a3 b3 g3 F3) (h4 : DD a4 b4 g4 F4) :
    (f_X1_shortest w (nI L) X a b g a2 b2 g2 a3 b3 g3 a4 b4 g4 = some (.inr (2, (nI L, X, a, b, g, a2, b2, g2, a3, b3, g3, a4, b4, g4))) ∧ f_X2_shortest w th (nI L) us X d n pw fl = some (0, 1, nI L, us, X, d, n, pw, fl)) ∨
    (∃ L' X' a' b' g' F' a2' b2' g2' F2' a3' b3' g3' F3' a4' b4' g4' F4' us' d' n' pw' fl', L' ≤ 400 ∧ f_X1_shortest w (nI L) X a b g a2 b2 g2 a3 b3 g3 a4 b4 g4 = some (.inl (nI L', (nI L', X', a', b', g', a2', b2', g2', a3', b3', g3', a4', b4', g4'))) ∧ DD a' b' g' F' ∧ DD a2' b2' g2' F2' ∧ DD a3' b3' g3' F3' ∧ DD a4' b4' g4' F4' ∧ f_X2_shortest w th (nI L) us X d n pw fl = some (nI L', 0, nI L', us', X', d', n', pw', fl')) := by
  unfold f_X1_shortest f_X2_shortest f_X1_isNone
  by_cases c3 : lg_cmp (w &&& 9218868437227405312) 9218868437227405312 = 0
  · left
    unfold f_X2_begins f_X2_shortest_b14
    rw [if_pos c3, if_pos c3, Option.bind_some]
    exact ⟨rfl, rfl⟩
  right
  obtain ⟨s0, X0, s1, s2, s3⟩ := start_ok (l := nI L) (X := X) c3
  rw [if_neg c3, Option.bind_some, if_pos rfl, s2, s3, Option.bind_some, Option.bind_some]
  simp only []
  rw [if_neg (show ¬ (1 : Int32) = 0 by decide)]
  obtain ⟨nn, n1, n2⟩ := wb_of w
  subst n2
  have hBE := none_BE n1 c3
  obtain ⟨s, hs⟩ : ∃ s, s = nn % 9223372036854775808 := ⟨_, rfl⟩
  obtain ⟨q, q1, q2⟩ := power_ok n1
  have hand := and_63 n1
  have hman := mantissa_ok n1
  rw [← hs] at hBE q2 hand hman
  have hs63 : s < 2 ^ 63 := Nat.lt_trans hBE BE_63
  have hMA := MA_lt s
  rw [hman, Option.bind_some, Option.bind_some]
  have zM : lg_cmp (lN (MA s)) 0 = 0 ↔ MA s = 0 := cmp0 (by omega)
  by_cases c0 : s = 0
  · have hM0 : MA s = 0 := by rw [c0]; rfl
    rw [if_pos (zM.mpr hM0)]
    unfold f_X2_shortest_b14
    rw [if_pos rfl, hand, if_pos ((cmp0 hs63).mpr c0)]
    have p1 := put_ok (L := s0) (c := 48) (X := X0) (by omega)
    have p2 := put_ok (L := s0 + 1) (c := 101) (X := upd X0 s0 48) (by omega)
    have p3 := put_ok (L := s0 + 1 + 1) (c := 48) (X := upd (upd X0 s0 48) (s0 + 1) 101) (by omega)
    have e48 : (48 : Int32) + (0 - 0 / 10 * 10) = 48 := by decide
    have z00 : (0 : Int32) ≤ 0 := by decide
    have z100 : (0 : Int32) < 100 := by decide
    have z10 : (0 : Int32) < 10 := by decide
    have pp : f_X1_putPower 0 (nI (s0 + 1)) (upd X0 s0 48) = some (nI (s0 + 1 + 1 + 1), upd (upd (upd X0 s0 48) (s0 + 1) 101) (s0 + 1 + 1) 48) := by
      unfold f_X1_putPower f_X1_putPower_b16 f_X1_putPower_b38 f_X1_putPower_b58
      rw [p2.1, Option.bind_some]
      simp only [if_pos z00, if_pos z100, if_pos z10]
      rw [e48, p3.1, Option.bind_some]
    rw [p1.1, p1.2, Option.bind_some, Option.bind_some]
    simp only []
    rw [p2.2, Option.bind_some]
    simp only []
    rw [p3.2, pp, Option.bind_some, Option.bind_some]
    exact ⟨s0 + 1 + 1 + 1, _, a, b, g, F, a2, b2, g2, F2, a3, b3, g3, F3, a4, b4, g4, F4, us, d, n, pw, fl, by omega, rfl, h1, h2, h3, h4, rfl⟩
  · have hp := MA_pos c0
    have hSS := SS_le hBE
    have hPQ : PQ s = (SS s : Int) - 1074 := rfl
    rw [if_neg (fun gg => by have := zM.mp gg; omega), q1, Option.bind_some]
    obtain ⟨us', d', n', pw', fl', E, P, k1, k2, k3, k4, k5⟩ := b14_ok (w := lN nn) (th := th) (sz := nI s0) (us := us) (X := X0) (d := d) (n := n) (pw := pw) (fl := fl) hand c0 hBE
    rw [k1]
    unfold f_X1_putShortest f_X1_putShortest_b31
    obtain ⟨a', b', g', F', u1, u2, u3, u4⟩ := scaled_ok (l1 := lN (MA s)) (l3 := q) h1 rfl (by omega) (by omega) (by omega)
    rw [q2] at u4
    obtain ⟨a3', b3', g3', F3', a4', b4', g4', F4', e1, e2, e3, e4, e5⟩ := edges_ok h3 h4 q2 c0 hBE
    rw [u1, Option.bind_some]
    simp only []
    rw [e1, Option.bind_some]
    simp only []
    have hN : VAL (MA s) (PQ s) < 10 ^ 1434 := by rw [VAL_num]; exact num_lt hBE
    have hN2 := num_ge c0
    have hE1 : E ≤ 1434 := by
      rcases Nat.lt_or_ge E 1435 with gg | gg
      · clear hN hN2 k3 k4; omega
      · exfalso
        have := ten_le (show 1434 ≤ E - 1 by clear hN hN2 k3 k4; omega)
        exact absurd (Nat.lt_of_lt_of_le hN (Nat.le_trans this k3)) (Nat.lt_irrefl _)
    have hE2 : 800 ≤ E := by
      rcases Nat.lt_or_ge E 800 with gg | gg
      · exfalso
        have := ten_le (show E ≤ 801 by clear hN hN2 k3 k4; omega)
        exact absurd (Nat.lt_of_lt_of_le k4 (Nat.le_trans this hN2)) (Nat.lt_irrefl _)
      · exact gg
    have hV0 : VAL (MA s) (PQ s) = 4 * MA s * DZ s := VAL_0
    have h17 : BT (1 - s % 2) (RK (VAL (MA s) (PQ s)) E 17) (LO s) (HI s) := by
      have := edge17 (N := VAL (MA s) (PQ s)) (U := 10 ^ (E - 17)) c0 hV0 (ten_pos _) (by
        have : 10 ^ (E - 17) * 10000000000000000 = 10 ^ (E - 1) := by
          rw [show (10000000000000000 : Nat) = 10 ^ 16 from rfl, ← Nat.pow_add, show E - 17 + 16 = E - 1 by clear hN hN2 k3 k4 hV0; omega]
        rw [this]; exact k3) rfl
      exact ⟨Or.inl this.1, Or.inl this.2⟩
    have hn : VV F' 160 ≠ 0 := by
      rw [u4]
      have := ten_pos (E - 1)
      clear hN hN2 k4 hV0 h17; omega
    obtain ⟨r, e, p1, p2, p3, p4, p5⟩ := topPlace_ok u2 u3 hn
    rw [u4] at p3 p4
    have he : e + 1 = E := ten_uniq (A := VAL (MA s) (PQ s)) (by rw [show e + 1 - 1 = e from rfl]; exact p3) p4 k3 k4 (by omega) k5
    have ev1 : lg_cmp (lN (MA s) - lN (MA s) / 2 * 2) 0 = 0 ↔ s % 2 = 0 := by
      have two : (2 : Int64) = lN 2 := rfl
      rw [two, pk_lRem (by clear hN hN2 k4 k3 hV0 h17 p3 p4; omega) (by decide) (by decide), cmp0 (by clear hN hN2 k4 k3 hV0 h17 p3 p4; omega), MA_par]
    obtain ⟨l1, hl1, hif⟩ : ∃ l1 : Int32, l1 = nI (1 - s % 2) ∧ ∀ (A : Int32 → Option ((Int32) × (Nat → Int32) × (Int32) × (Int32) × (Nat → Int64) × (Int32) × (Int32) × (Nat → Int64) × (Int32) × (Int32) × (Nat → Int64) × (Int32) × (Int32) × (Nat → Int64))), (if lg_cmp (lN (MA s) - lN (MA s) / 2 * 2) 0 = 0 then A 1 else A 0) = A l1 := by
      by_cases c : s % 2 = 0
      · exact ⟨1, by rw [c]; rfl, fun A => if_pos (ev1.mpr c)⟩
      · exact ⟨0, by rw [show s % 2 = 1 by clear hN hN2 k4 k3 hV0 h17 p3 p4; omega]; rfl, fun A => if_neg (fun gg => c (ev1.mp gg))⟩
    obtain ⟨K, ar, br, gr, Fr, d2, n2, pw2, E', m', P', y1, y2, y3, y4, y5, y6, y7, y8, y9, y10, y11, y12⟩ := few_ok 16 1 FU FU l1 r 0 (nI s0) us' P X0 d' n' pw' fl' a' b' g' a2 b2 g2 a3' b3' g3' a4' b4' g4' F' F2 F3' F4' (VAL (MA s) (PQ s)) E (LO s) (HI s) s (1 - s % 2) u2 u3 u4 h2 e2 e3 e4 e5 k2 k3 hN hE1 hE2 hl1 rfl hs63 (by rw [p2]; clear hN hN2 k4 k3 hV0 h17 p3 p4; omega) h17 rfl (by decide) (by decide) (by decide)
    obtain ⟨ro, L', X', o1, o2, o3, o4⟩ := out_ok (th := 0) (us := us') (fl := fl') (X := X0) y4 y5 y6 y8 y9 y10 y11 y12 s1 y1 y2
    have hone : nI 1 = (1 : Int32) := rfl
    rw [hone] at y3 y7
    refine ⟨L', X', a', b', g', F', ar, br, gr, Fr, a3', b3', g3', F3', a4', b4', g4', F4', us', d2, n2, pw2, fl', o1, ?_, u2, y4, e2, e4, ?_⟩
    · have key : ∀ l, l = l1 → ((f_X1_roundToFewest l a' b' g' a2 b2 g2 a3' b3' g3' a4' b4' g4').bind fun (r31, v_rounded_first_31, v_rounded_last_31, v_rounded_limbs_31) =>
((f_X0_topPlace v_rounded_first_31 v_rounded_limbs_31).bind fun r40 =>
((f_X1_putDigits r40 r40 (nI s0) X0 v_rounded_limbs_31).bind fun (v_length_50, v_text_50) =>
(if r31 ≤ 1 then
((f_X1_putPower r40 v_length_50 v_text_50).bind fun (v_length_83, v_text_83) =>
some (v_length_83, v_text_83, a', b', g', v_rounded_first_31, v_rounded_last_31, v_rounded_limbs_31, a3', b3', g3', a4', b4', g4'))
  else
((f_X1_put 46 v_length_50 v_text_50).bind fun (v_length_62, v_text_62) =>
((f_X1_putDigits (r40 - 1) ((r40 - r31) + 1) v_length_62 v_text_62 v_rounded_limbs_31).bind fun (v_length_77, v_text_77) =>
((f_X1_putPower r40 v_length_77 v_text_77).bind fun (v_length_83, v_text_83) =>
some (v_length_83, v_text_83, a', b', g', v_rounded_first_31, v_rounded_last_31, v_rounded_limbs_31, a3', b3', g3', a4', b4', g4')))))))) = some (nI L', X', a', b', g', ar, br, gr, a3', b3', g3', a4', b4', g4') := by
        intro l hl
        rw [hl]
        unfold f_X1_roundToFewest
        rw [p1, Option.bind_some, y3, Option.bind_some]
        simp only []
        rw [o2, Option.bind_some]
        exact tail_eq o3
      have kk := hif (fun l => ((f_X1_roundToFewest l a' b' g' a2 b2 g2 a3' b3' g3' a4' b4' g4').bind fun (r31, v_rounded_first_31, v_rounded_last_31, v_rounded_limbs_31) =>
((f_X0_topPlace v_rounded_first_31 v_rounded_limbs_31).bind fun r40 =>
((f_X1_putDigits r40 r40 (nI s0) X0 v_rounded_limbs_31).bind fun (v_length_50, v_text_50) =>
(if r31 ≤ 1 then
((f_X1_putPower r40 v_length_50 v_text_50).bind fun (v_length_83, v_text_83) =>
some (v_length_83, v_text_83, a', b', g', v_rounded_first_31, v_rounded_last_31, v_rounded_limbs_31, a3', b3', g3', a4', b4', g4'))
  else
((f_X1_put 46 v_length_50 v_text_50).bind fun (v_length_62, v_text_62) =>
((f_X1_putDigits (r40 - 1) ((r40 - r31) + 1) v_length_62 v_text_62 v_rounded_limbs_31).bind fun (v_length_77, v_text_77) =>
((f_X1_putPower r40 v_length_77 v_text_77).bind fun (v_length_83, v_text_83) =>
some (v_length_83, v_text_83, a', b', g', v_rounded_first_31, v_rounded_last_31, v_rounded_limbs_31, a3', b3', g3', a4', b4', g4')))))))))
      rw [kk.trans (key l1 rfl), Option.bind_some]
    · exact y7.trans o4
