def RC (N U : Nat) : Prop := U < 2 * (N % U) ∨ (2 * (N % U) = U ∧ N / U % 2 = 1)
theorem rnd_yes {N U : Nat} (h : RC N U) : rnd N U = N / U + 1 := if_pos h
theorem rnd_no {N U : Nat} (h : ¬ RC N U) : rnd N U = N / U := if_neg h
theorem rd_b154 {l2 l3 s0 : Int32} {d n pw : Nat → Int32} {N q E : Nat} (hq : q + 1 ≤ E) (h2 : l2 = nI (N / 10 ^ (E - 1 - q) % 10)) (h3 : l3 = 0 ↔ N % 10 ^ (E - 1 - q) = 0) (h4 : s0 = 0 ↔ N / 10 ^ (E - q) % 2 = 0) :
    (RC N (10 ^ (E - q)) → f_X2_round_b154 l2 l3 s0 d n pw = f_X2_round_b176 d n pw) ∧ (¬ RC N (10 ^ (E - q)) → f_X2_round_b154 l2 l3 s0 d n pw = some (d, n, pw)) := by
  have hU : 10 ^ (E - q) = 10 ^ (E - 1 - q) * 10 := by rw [← Nat.pow_succ]; congr 1; omega
  have key := rnd_cond (N := N) (T := 10 ^ (E - 1 - q)) (x := N / 10 ^ (E - 1 - q) % 10) (ten_pos _) rfl
  have hx := dg_lt N (E - 1 - q)
  have hRC : RC N (10 ^ (E - q)) ↔ ¬ (N / 10 ^ (E - 1 - q) % 10 < 5 ∨ (N / 10 ^ (E - 1 - q) % 10 = 5 ∧ N % 10 ^ (E - 1 - q) = 0 ∧ N / 10 ^ (E - q) % 2 = 0)) := by
    unfold RC
    rw [Nat.mul_comm 10] at key
    rw [hU]
    exact key
  rw [hRC, h2]
  generalize N / 10 ^ (E - 1 - q) % 10 = x at *
  have l5 : nI x < 5 ↔ x < 5 := nI_ltI (b := 5) (by omega) (by decide)
  have e5 : nI x = 5 ↔ x = 5 := nI_eq (b := 5) (by omega) (by decide)
  rw [← h3, ← h4]
  unfold f_X2_round_b154
  by_cases c1 : x < 5
  · rw [if_pos (l5.mpr c1)]
    exact ⟨fun h => absurd (Or.inl c1) h, fun _ => rfl⟩
  · rw [if_neg (fun h => c1 (l5.mp h))]
    by_cases c2 : x = 5
    · rw [if_pos (e5.mpr c2)]
      by_cases c3 : l3 = 0
      · rw [if_pos c3]
        by_cases c4 : s0 = 0
        · rw [if_pos c4]
          exact ⟨fun h => absurd (Or.inr ⟨c2, c3, c4⟩) h, fun _ => rfl⟩
        · rw [if_neg c4]
          exact ⟨fun _ => rfl, fun h => absurd (fun g => g.elim c1 (fun g => c4 g.2.2)) h⟩
      · rw [if_neg c3]
        exact ⟨fun _ => rfl, fun h => absurd (fun g => g.elim c1 (fun g => c3 g.2.1)) h⟩
    · rw [if_neg (fun h => c2 (e5.mp h))]
      exact ⟨fun _ => rfl, fun h => absurd (fun g => g.elim c1 (fun g => c2 g.1)) h⟩
theorem rd_L92 : ∀ (fu : Nat) (l1 l2 l3 l4 : Int32) (d n pw : Nat → Int32) (N E m q i : Nat) (P : Int32), RW 1400 d n pw N E m P → l1 = nI q → q + 1 ≤ E → q ≤ 1300 → l2 = nI (N / 10 ^ (E - 1 - q) % 10) → l4 = nI i → q + 1 ≤ i → i ≤ 1400 → (l3 = 0 ↔ ∀ t, q + 1 ≤ t → t < i → t < E → N / 10 ^ (E - 1 - t) % 10 = 0) → (∀ t, t < q → d (2800 + t) = nI (N / 10 ^ (E - 1 - t) % 10)) → 1400 < i + fu →
    (RC N (10 ^ (E - q)) → f_X2_round_L92 fu l1 l2 l3 l4 d n pw = f_X2_round_b176 d n pw) ∧ (¬ RC N (10 ^ (E - q)) → f_X2_round_L92 fu l1 l2 l3 l4 d n pw = some (d, n, pw)) := by
  intro fu
  induction fu with
  | zero => intro l1 l2 l3 l4 d n pw N E m q i P h1 h2 h3 h4 h5 h6 h7 h8 h9 h10 h11; omega
  | succ fu ih =>
    intro l1 l2 l3 l4 d n pw N E m q i P h1 h2 h3 h4 h5 h6 h7 h8 h9 h10 h11
    obtain ⟨a1, a2, a3, a4, a5, a6, a7⟩ := id h1
    have le : nI m ≤ nI i ↔ m ≤ i := nI_leI (by omega) (by omega)
    unfold f_X2_round_L92
    rw [c1400, a1, h6]
    by_cases c : m ≤ i
    · rw [if_pos (le.mpr c)]
      have hz : l3 = 0 ↔ N % 10 ^ (E - 1 - q) = 0 := by
        rw [h9, mod_dg]
        constructor
        · intro g e he
          by_cases ce : E - 1 - e < i
          · have := g (E - 1 - e) (by clear a5 a6; omega) ce (by clear a5 a6; omega)
            rwa [show E - 1 - (E - 1 - e) = e by clear a5 a6; omega] at this
          · exact dv_dvd a6 (by clear a5 a6; omega)
        · intro g t g1 g2 g3
          exact g _ (by clear a5 a6; omega)
      by_cases cq : q = 0
      · rw [h2, cq, if_pos (by decide)]
        unfold f_X2_round_b153
        rw [cq] at h3 h5 hz
        refine rd_b154 h3 h5 hz (iff_of_true rfl ?_)
        rw [Nat.sub_zero, Nat.div_eq_of_lt a5]
      · obtain ⟨p, rfl⟩ : ∃ p, q = p + 1 := ⟨q - 1, by omega⟩
        have hin : ¬ (nI (2800 + p) < 0 ∨ 7000 ≤ (nI (2800 + p)).toNatClampNeg) := nI_in (by clear a5 a6; omega) (by decide)
        rw [h2, if_neg (nI_nle (by omega) (by omega)), add2800, show 2800 + (p + 1) = (2800 + p) + 1 from rfl, nI_pred]
        simp only [if_neg hin]
        have hy := dg_lt N (E - 1 - p)
        have two : (2 : Int32) = nI 2 := rfl
        rw [nI_clamp (by omega), h10 p (by omega), two, pk_rem (by omega) (by decide) (by decide)]
        have hodd : N / 10 ^ (E - (p + 1)) % 2 = N / 10 ^ (E - 1 - p) % 10 % 2 := by
          rw [show E - (p + 1) = E - 1 - p by clear a5 a6; omega]
          generalize N / 10 ^ (E - 1 - p) = w
          omega
        have o1 : nI (N / 10 ^ (E - 1 - p) % 10 % 2) = 1 ↔ N / 10 ^ (E - 1 - p) % 10 % 2 = 1 := nI_eq (b := 1) (by omega) (by decide)
        by_cases c3 : N / 10 ^ (E - 1 - p) % 10 % 2 = 1
        · rw [if_pos (o1.mpr c3)]
          refine rd_b154 h3 h5 hz (iff_of_false (by decide) ?_)
          rw [hodd, c3]; decide
        · rw [if_neg (fun h => c3 (o1.mp h))]
          refine rd_b154 h3 h5 hz (iff_of_true rfl ?_)
          rw [hodd]; omega
    · rw [if_neg (fun h => c (le.mp h)), add1400]
      have hin : ¬ (nI (1400 + i) < 0 ∨ 7000 ≤ (nI (1400 + i)).toNatClampNeg) := nI_in (by clear a5 a6; omega) (by decide)
      simp only [if_neg hin]
      rw [nI_clamp (by omega), a7 i (by omega), nI_1]
      have hy := dg_lt N (E - 1 - i)
      have o1 : nI (N / 10 ^ (E - 1 - i) % 10) = 0 ↔ N / 10 ^ (E - 1 - i) % 10 = 0 := nI_eq (b := 0) (by omega) (by decide)
      by_cases c3 : N / 10 ^ (E - 1 - i) % 10 = 0
      · rw [if_pos (o1.mpr c3)]
        refine ih l1 l2 l3 _ d n pw N E m q (i + 1) P h1 h2 h3 h4 h5 rfl (by omega) (by omega) ?_ h10 (by omega)
        rw [h9]
        constructor
        · intro g t g1 g2 g3
          by_cases ct : t = i
          · rw [ct]; exact c3
          · exact g t g1 (by omega) g3
        · intro g t g1 g2 g3
          exact g t g1 (by omega) g3
      · rw [if_neg (fun h => c3 (o1.mp h))]
        refine ih l1 l2 1 _ d n pw N E m q (i + 1) P h1 h2 h3 h4 h5 rfl (by omega) (by omega) (iff_of_false (by decide) ?_) h10 (by omega)
        intro g
        exact c3 (g i h7 (by omega) (by clear a5 a6; omega))
theorem rd_L35 : ∀ (fu : Nat) (l1 l2 : Int32) (d n pw : Nat → Int32) (N E m q j : Nat) (P : Int32), RW 1400 d n pw N E m P → l1 = nI q → q + 1 ≤ E → E < 2 ^ 20 → q ≤ 1300 → l2 = nI j → j ≤ q → n 2800 = nI q → (∀ t, t < j → d (2800 + t) = nI (N / 10 ^ (E - 1 - t) % 10)) → q < j + fu →
    ∃ d', (∀ t, (t < 2800 ∨ 2800 + 1400 ≤ t) → d' t = d t) ∧ (∀ t, t < q → d' (2800 + t) = nI (N / 10 ^ (E - 1 - t) % 10)) ∧ (RC N (10 ^ (E - q)) → f_X2_round_L35 fu l1 l2 d n pw = f_X2_round_b176 d' n pw) ∧ (¬ RC N (10 ^ (E - q)) → f_X2_round_L35 fu l1 l2 d n pw = some (d', n, pw)) := by
  intro fu
  induction fu with
  | zero => intro l1 l2 d n pw N E m q j P h1 h2 h3 hE h4 h5 h6 h7 h8 h9; omega
  | succ fu ih =>
    intro l1 l2 d n pw N E m q j P h1 h2 h3 hE h4 h5 h6 h7 h8 h9
    unfold f_X2_round_L35
    rw [c2800, h7, h5]
    have le : nI q ≤ nI j ↔ q ≤ j := nI_leI (by omega) (by omega)
    by_cases c : q ≤ j
    · have hjq : j = q := by omega
      subst hjq
      rw [if_pos (le.mpr c), h2, if_pos (nI_pos' (by omega)), dg_ok (e := E - 1 - j) h1 (by rfl) (by decide) hE (by omega) (by rw [nI_toInt (by omega)]; omega), Option.bind_some, nI_1]
      have := rd_L92 FU (nI j) (nI (N / 10 ^ (E - 1 - j) % 10)) 0 (nI (j + 1)) d n pw N E m j (j + 1) P h1 rfl h3 h4 rfl rfl (Nat.le_refl _) (by omega) (iff_of_true rfl (fun t g1 g2 g3 => by omega)) h8 (by unfold FU; omega)
      exact ⟨d, fun _ _ => rfl, h8, this.1, this.2⟩
    · rw [if_neg (fun h => c (le.mp h)), dg_ok (e := E - 1 - j) h1 (by rfl) (by decide) hE (by omega) (by rw [nI_toInt (by omega)]; omega), Option.bind_some, add2800]
      have hin : ¬ (nI (2800 + j) < 0 ∨ 7000 ≤ (nI (2800 + j)).toNatClampNeg) := nI_in (by omega) (by decide)
      rw [if_neg hin, nI_clamp (by omega), nI_1]
      have ho : Only 2800 d n pw (upd d (2800 + j) (nI (N / 10 ^ (E - 1 - j) % 10))) n pw := ⟨fun t ht => pk_un (by omega), fun _ _ => ⟨rfl, rfl⟩⟩
      obtain ⟨d', e1, e2, e3, e4⟩ := ih l1 (nI (j + 1)) (upd d (2800 + j) (nI (N / 10 ^ (E - 1 - j) % 10))) n pw N E m q (j + 1) P (only_rw ho (Or.inl (by decide)) h1) h2 h3 hE h4 rfl (by omega) h7 (fun t ht => by
        by_cases ct : t = j
        · rw [ct, pk_us]
        · rw [pk_un (by omega)]; exact h8 t (by omega)) (by omega)
      exact ⟨d', fun t ht => (e1 t ht).trans (pk_un (by omega)), e2, e3, e4⟩
theorem div_lt_ten {N E q : Nat} (h : N < 10 ^ E) (hq : q ≤ E) : N / 10 ^ (E - q) < 10 ^ q := by
  rw [Nat.div_lt_iff_lt_mul (ten_pos _), ← Nat.pow_add, show q + (E - q) = E by omega]
  exact h
/-- round(many) of 0 or more -/
theorem round_ok {l1 : Int32} {d n pw : Nat → Int32} {N E m q : Nat} {P : Int32} (h1 : RW 1400 d n pw N E m P) (h2 : l1 = nI q) (h3 : q + 1 ≤ E) (hE : E < 2 ^ 20) (h4 : q ≤ 1300) :
    ∃ d' n' pw' E' q' P', f_X2_round l1 d n pw = some (d', n', pw') ∧ RW 2800 d' n' pw' (rnd N (10 ^ (E - q)) * 10 ^ (E - q)) E' q' P' ∧ Only 2800 d n pw d' n' pw' ∧ ((E' = E ∧ q' = q ∧ P' = P) ∨ (E' = E + 1 ∧ q' = q + 1 ∧ P' = P + 1 ∧ rnd N (10 ^ (E - q)) = 10 ^ q)) := by
  unfold f_X2_round
  rw [c2800, c1400, h1.2.1]
  have hl : (0 : Int32) ≤ l1 := by rw [h2]; exact nI_pos' (by omega)
  rw [if_pos hl]
  have ho : Only 2800 d n pw d (upd n 2800 l1) (upd pw 2800 P) := ⟨fun _ _ => rfl, fun j hj => ⟨pk_un hj, pk_un hj⟩⟩
  obtain ⟨d', e1, e2, e3, e4⟩ := rd_L35 FU l1 0 d (upd n 2800 l1) (upd pw 2800 P) N E m q 0 P (only_rw ho (Or.inl (by decide)) h1) h2 h3 hE h4 rfl (Nat.zero_le _) (by rw [pk_us, h2]) (fun t ht => by omega) (by unfold FU; omega)
  have hM : N / 10 ^ (E - q) < 10 ^ q := div_lt_ten h1.2.2.2.2.1 (by omega)
  have hdig : ∀ t, t < q → d' (2800 + t) = nI (N / 10 ^ (E - q) / 10 ^ (q - 1 - t) % 10) := fun t ht => by
    rw [e2 t ht, Nat.div_div_eq_div_mul, ← Nat.pow_add, show E - q + (q - 1 - t) = E - 1 - t by omega]
  by_cases c : RC N (10 ^ (E - q))
  · rw [e3 c, rnd_yes c]
    unfold f_X2_round_b176
    rw [c2800, pk_us]
    obtain ⟨d2, n2, pw2, q', k1, k2, k3, k4⟩ := rd_L188 FU (l1 - 1) d' (upd n 2800 l1) (upd pw 2800 P) (N / 10 ^ (E - q)) q q (by rw [i_s1 (by rw [h2, nI_toInt (by omega)]; omega), h2, nI_toInt (by omega)]) (Nat.le_refl _) h4 hdig (fun t g1 g2 => by omega) (by rw [Nat.sub_self, Nat.pow_zero, Nat.div_one, Nat.mul_one]) hM (by rw [pk_us, h2]) (by unfold FU; omega)
    rw [k1]
    rcases k3 with ⟨k5, k6, k7, k8⟩ | ⟨k5, k6, k7, k8⟩
    · subst k5 k6 k7
      refine ⟨d2, _, _, E, q', P, rfl, rw_of (by rw [pk_us, h2]) pk_us (by omega) (by omega) k8 k4, ⟨fun t ht => (k2 t ht).trans (e1 t ht), ho.2⟩, Or.inl ⟨rfl, rfl, rfl⟩⟩
    · subst k5
      refine ⟨d2, n2, pw2, E + 1, q + 1, P + 1, rfl, ?_, ⟨fun t ht => (k2 t ht).trans (e1 t ht), fun j hj => ?_⟩, Or.inr ⟨rfl, rfl, rfl, k8⟩⟩
      · have := rw_of (r := 2800) (d := d2) (n := n2) (pw := pw2) (M := N / 10 ^ (E - q) + 1) (q := q + 1) (E := E + 1) (P := P + 1) (by rw [k6, pk_us]) (by rw [k7, pk_us, pk_us]) (by omega) (by omega) (by rw [k8]; exact Nat.pow_lt_pow_right (by decide) (by omega)) k4
        rwa [show E + 1 - (q + 1) = E - q by omega] at this
      · rw [k6, k7, pk_un hj, pk_un hj, pk_un hj, pk_un hj]
        exact ⟨rfl, rfl⟩
  · rw [e4 c, rnd_no c]
    exact ⟨d', _, _, E, q, P, rfl, rw_of (by rw [pk_us, h2]) pk_us (by omega) (by omega) hM hdig, ⟨e1, ho.2⟩, Or.inl ⟨rfl, rfl, rfl⟩⟩
theorem round_neg {l1 : Int32} {d n pw : Nat → Int32} {N E m : Nat} {P : Int32} (h1 : RW 1400 d n pw N E m P) (h2 : l1.toInt < 0) :
    ∃ n' pw', f_X2_round l1 d n pw = some (d, n', pw') ∧ RW 2800 d n' pw' 0 E 0 P ∧ Only 2800 d n pw d n' pw' := by
  unfold f_X2_round
  rw [c2800, c1400, h1.2.1]
  have hl : ¬ (0 : Int32) ≤ l1 := by rw [i_le, lit_0]; omega
  rw [if_neg hl]
  obtain ⟨fu, hfu⟩ : ∃ fu, FU = fu + 1 := ⟨FU - 1, by unfold FU; rfl⟩
  rw [hfu]
  unfold f_X2_round_L35
  rw [c2800, pk_us, if_pos (by decide), if_neg hl]
  exact ⟨_, _, rfl, ⟨pk_us, pk_us, Nat.zero_le _, by decide, ten_pos _, Nat.zero_mod _, fun i hi => by omega⟩, fun _ _ => rfl, fun j hj => ⟨pk_un hj, pk_un hj⟩⟩
