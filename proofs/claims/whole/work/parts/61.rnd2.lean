/-! the reference's round -/
def Only (r : Nat) (d n pw d' n' pw' : Nat → Int32) : Prop := (∀ j, (j < r ∨ r + 1400 ≤ j) → d' j = d j) ∧ (∀ j, j ≠ r → n' j = n j ∧ pw' j = pw j)
theorem only_rw {r o : Nat} {d n pw d' n' pw' : Nat → Int32} {N E m : Nat} {P : Int32} (h : Only r d n pw d' n' pw') (ho : o + 1400 ≤ r ∨ r + 1400 ≤ o) (hw : RW o d n pw N E m P) : RW o d' n' pw' N E m P := by
  obtain ⟨h1, h2, h3, h4, h5, h6, h7⟩ := hw
  have e := h.2 o (by omega)
  refine ⟨e.1.trans h1, e.2.trans h2, h3, h4, h5, h6, fun i hi => ?_⟩
  rw [h.1 (o + i) (by clear h5 h6; omega)]
  exact h7 i hi
theorem only_refl (r : Nat) (d n pw : Nat → Int32) : Only r d n pw d n pw := ⟨fun _ _ => rfl, fun _ _ => ⟨rfl, rfl⟩⟩
theorem only_trans {r : Nat} {d n pw d' n' pw' d'' n'' pw'' : Nat → Int32} (h : Only r d n pw d' n' pw') (g : Only r d' n' pw' d'' n'' pw'') : Only r d n pw d'' n'' pw'' :=
  ⟨fun j hj => (g.1 j hj).trans (h.1 j hj), fun j hj => ⟨(g.2 j hj).1.trans (h.2 j hj).1, (g.2 j hj).2.trans (h.2 j hj).2⟩⟩
theorem rw_of {r : Nat} {d n pw : Nat → Int32} {M q E : Nat} {P : Int32} (h1 : n r = nI q) (h2 : pw r = P) (h3 : q ≤ E) (h4 : q ≤ 1390) (h5 : M < 10 ^ q) (h6 : ∀ t, t < q → d (r + t) = nI (M / 10 ^ (q - 1 - t) % 10)) : RW r d n pw (M * 10 ^ (E - q)) E q P := by
  refine ⟨h1, h2, h3, h4, ?_, Nat.mul_mod_left _ _, fun i hi => ?_⟩
  · have : 10 ^ E = 10 ^ q * 10 ^ (E - q) := by rw [← Nat.pow_add]; congr 1; omega
    rw [this]
    exact Nat.mul_lt_mul_of_pos_right h5 (ten_pos _)
  · rw [h6 i hi, show E - 1 - i = (E - q) + (q - 1 - i) by clear h5; omega, Nat.pow_add, ← Nat.div_div_eq_div_mul, Nat.mul_div_cancel _ (ten_pos _)]
theorem c2800 : Int32.toNatClampNeg 2800 = 2800 := rfl
theorem c1400 : Int32.toNatClampNeg 1400 = 1400 := rfl
theorem add2800 (k : Nat) : (2800 : Int32) + nI k = nI (2800 + k) := nI_add 2800 k
theorem add1400 (k : Nat) : (1400 : Int32) + nI k = nI (1400 + k) := nI_add 1400 k
theorem rd_L258 : ∀ (fu : Nat) (l6 : Int32) (d n pw : Nat → Int32) (q k : Nat), l6 = nI k → k ≤ q → q ≤ 1300 → (∀ t, t < q → d (2800 + t) = 0) → (∀ t, k < t → t ≤ q → d (2800 + t) = 0) → k < fu →
    ∃ d', f_X2_round_L258 fu l6 d n pw = some (d', upd n 2800 (n 2800 + 1), upd pw 2800 (pw 2800 + 1)) ∧ d' 2800 = 1 ∧ (∀ t, 1 ≤ t → t ≤ q → d' (2800 + t) = 0) ∧ (∀ j, (j < 2800 ∨ 2800 + 1400 ≤ j) → d' j = d j) := by
  intro fu
  induction fu with
  | zero => intro l6 d n pw q k h1 h2 h3 h4 h5 h6; omega
  | succ fu ih =>
    intro l6 d n pw q k h1 h2 h3 h4 h5 h6
    subst h1
    unfold f_X2_round_L258
    rw [c2800]
    by_cases c : k = 0
    · subst c
      rw [if_pos (by decide)]
      refine ⟨_, rfl, pk_us, fun t h7 h8 => ?_, fun j hj => pk_un (by omega)⟩
      rw [pk_un (by omega)]
      exact h5 t (by omega) h8
    · obtain ⟨k', rfl⟩ : ∃ k', k = k' + 1 := ⟨k - 1, by omega⟩
      rw [if_neg (nI_nle (by omega) (by omega)), add2800, show 2800 + (k' + 1) = (2800 + k') + 1 from rfl, nI_pred, if_neg (nI_in (by omega) (by decide)), if_neg (nI_in (by omega) (by decide)), nI_clamp (by omega), nI_clamp (by omega), pk_m1]
      obtain ⟨d', e1, e2, e3, e4⟩ := ih (nI k') (upd d (2800 + k' + 1) (d (2800 + k'))) n pw q k' rfl (by omega) h3 (fun t ht => by
        by_cases c2 : 2800 + t = 2800 + k' + 1
        · rw [c2, pk_us]; exact h4 k' (by omega)
        · rw [pk_un c2]; exact h4 t ht) (fun t h7 h8 => by
        by_cases c2 : 2800 + t = 2800 + k' + 1
        · rw [c2, pk_us]; exact h4 k' (by omega)
        · rw [pk_un c2]; exact h5 t (by omega) h8) (by omega)
      refine ⟨d', e1, e2, e3, fun j hj => ?_⟩
      rw [e4 j hj, pk_un (by omega)]
theorem nine_step {M p : Nat} (h : M + 1 = (M / 10 ^ p + 1) * 10 ^ p) (h9 : M / 10 ^ p % 10 = 9) : M + 1 = (M / 10 ^ (p + 1) + 1) * 10 ^ (p + 1) := by
  have e := dv_step M p
  rw [h9] at e
  have : M / 10 ^ p + 1 = (M / 10 ^ (p + 1) + 1) * 10 := by omega
  rw [h, this, Nat.mul_assoc, Nat.pow_succ, Nat.mul_comm 10]
theorem inc_digit {A : Nat} (h : A % 10 ≠ 9) (s : Nat) : (A + 1) / 10 ^ (s + 1) = A / 10 ^ (s + 1) := by
  have h1 : (A + 1) / 10 = A / 10 := by omega
  rw [Nat.pow_succ, Nat.mul_comm, ← Nat.div_div_eq_div_mul, ← Nat.div_div_eq_div_mul, h1]
theorem rd_L188 : ∀ (fu : Nat) (l5 : Int32) (d n pw : Nat → Int32) (M q j : Nat), l5.toInt = (j : Int) - 1 → j ≤ q → q ≤ 1300 → (∀ t, t < j → d (2800 + t) = nI (M / 10 ^ (q - 1 - t) % 10)) → (∀ t, j ≤ t → t < q → d (2800 + t) = 0) → M + 1 = (M / 10 ^ (q - j) + 1) * 10 ^ (q - j) → M < 10 ^ q → n 2800 = nI q → j < fu →
    ∃ d' n' pw' q', f_X2_round_L188 fu l5 d n pw = some (d', n', pw') ∧ (∀ j, (j < 2800 ∨ 2800 + 1400 ≤ j) → d' j = d j) ∧ ((q' = q ∧ n' = n ∧ pw' = pw ∧ M + 1 < 10 ^ q) ∨ (q' = q + 1 ∧ n' = upd n 2800 (nI (q + 1)) ∧ pw' = upd pw 2800 (pw 2800 + 1) ∧ M + 1 = 10 ^ q)) ∧ ∀ t, t < q' → d' (2800 + t) = nI ((M + 1) / 10 ^ (q' - 1 - t) % 10) := by
  intro fu
  induction fu with
  | zero => intro l5 d n pw M q j h1 h2 h3 h4 h5 h6 h7 h8 h9; omega
  | succ fu ih =>
    intro l5 d n pw M q j h1 h2 h3 h4 h5 h6 h7 h8 h9
    unfold f_X2_round_L188
    by_cases c : j = 0
    · subst c
      have hl : l5 < 0 := by rw [i_lt, lit_0]; clear h6 h7; omega
      rw [if_pos hl]
      unfold f_X2_round_b227
      rw [if_pos hl, c2800, h8]
      obtain ⟨d', e1, e2, e3, e4⟩ := rd_L258 FU (nI q) d n pw q q rfl (Nat.le_refl _) h3 (fun t ht => h5 t (Nat.zero_le _) ht) (fun t g1 g2 => by omega) (by unfold FU; omega)
      rw [Nat.sub_zero, Nat.div_eq_of_lt h7, Nat.zero_add, Nat.one_mul] at h6
      refine ⟨d', _, _, q + 1, e1, e4, Or.inr ⟨rfl, by rw [h8, nI_1], rfl, h6⟩, fun t ht => ?_⟩
      rw [h6, show q + 1 - 1 - t = q - t by omega]
      by_cases ct : t = 0
      · subst ct
        rw [Nat.add_zero, e2, Nat.sub_zero, Nat.div_self (ten_pos q)]
        rfl
      · rw [e3 t (by omega) (by omega), Nat.pow_div (by omega) (by decide), show q - (q - t) = (t - 1) + 1 by omega, Nat.pow_succ, Nat.mul_mod_left]
        rfl
    · obtain ⟨i, rfl⟩ : ∃ i, j = i + 1 := ⟨j - 1, by omega⟩
      have hl : l5 = nI i := nI_of_toInt (by rw [h1]; clear h6 h7; omega) (by clear h6 h7; omega)
      subst hl
      have hd := h4 i (by clear h6 h7; omega)
      have hx := dg_lt M (q - 1 - i)
      have nine : (nI (M / 10 ^ (q - 1 - i) % 10) = 9) ↔ M / 10 ^ (q - 1 - i) % 10 = 9 := nI_eq (b := 9) (by omega) (by decide)
      have hin : ¬ (nI (2800 + i) < 0 ∨ 7000 ≤ (nI (2800 + i)).toNatClampNeg) := nI_in (by clear h6 h7; omega) (by decide)
      rw [if_neg (nI_pos (by clear h6 h7; omega)), add2800]
      simp only [if_neg hin]
      rw [nI_clamp (by clear h6 h7; omega), hd]
      rw [show q - (i + 1) = q - 1 - i by clear h6 h7; omega] at h6
      by_cases c9 : M / 10 ^ (q - 1 - i) % 10 = 9
      · rw [if_pos (nine.mpr c9)]
        obtain ⟨d', n', pw', q', e1, e2, e3, e4⟩ := ih (nI i + (-1)) (upd d (2800 + i) 0) n pw M q i (by rw [i_m1 (by rw [nI_toInt (by clear h6 h7; omega)]; omega), nI_toInt (by clear h6 h7; omega)]) (by clear h6 h7; omega) h3 (fun t ht => by rw [pk_un (by omega)]; exact h4 t (by omega)) (fun t g1 g2 => by
          by_cases c2 : t = i
          · subst c2; exact pk_us
          · rw [pk_un (by omega)]; exact h5 t (by omega) g2) (by
          have := nine_step h6 c9
          rwa [show q - 1 - i + 1 = q - i by clear h6 h7; omega] at this) h7 h8 (by clear h6 h7; omega)
        refine ⟨d', n', pw', q', e1, fun j hj => ?_, e3, e4⟩
        rw [e2 j hj, pk_un (by clear h6 h7; omega)]
      · rw [if_neg (fun h => c9 (nine.mp h))]
        unfold f_X2_round_b227
        rw [if_neg (nI_pos (by clear h6 h7; omega)), add2800]
        simp only [if_neg hin]
        rw [nI_clamp (by clear h6 h7; omega), hd, nI_1]
        have hA : ∀ s, (M + 1) / 10 ^ (q - 1 - i + s) = (M / 10 ^ (q - 1 - i) + 1) / 10 ^ s := fun s => by
          rw [Nat.pow_add, ← Nat.div_div_eq_div_mul, h6, Nat.mul_div_cancel _ (ten_pos _)]
        have hA0 : (M + 1) / 10 ^ (q - 1 - i) = M / 10 ^ (q - 1 - i) + 1 := by rw [h6, Nat.mul_div_cancel _ (ten_pos _)]
        refine ⟨_, n, pw, q, rfl, fun j hj => pk_un (by clear h6 h7; omega), Or.inl ⟨rfl, rfl, rfl, ?_⟩, fun t ht => ?_⟩
        · rcases Nat.lt_or_ge (M + 1) (10 ^ q) with g | g
          · exact g
          · exfalso
            have g2 : M + 1 = 10 ^ q := by omega
            apply c9
            have e : M / 10 ^ (q - 1 - i) + 1 = 10 ^ i * 10 := by
              have := hA0
              rw [g2, Nat.pow_div (by omega) (by decide), show q - (q - 1 - i) = i + 1 by omega, Nat.pow_succ] at this
              omega
            clear h6 h7 g g2 hA hA0
            omega
        · by_cases c2 : t = i
          · subst c2
            rw [pk_us]
            rw [hA0]
            congr 1
            clear h6 h7 hA0 hA
            omega
          · rw [pk_un (by omega)]
            by_cases c3 : t < i
            · rw [h4 t (by omega), show q - 1 - t = q - 1 - i + ((i - t - 1) + 1) by clear h6 h7; omega, hA, inc_digit c9, Nat.pow_add 10 (q - 1 - i), ← Nat.div_div_eq_div_mul]
            · rw [h5 t (by omega) ht, h6, show q - 1 - i = (q - 1 - t) + ((t - i - 1) + 1) by clear h6 h7; omega, Nat.pow_add, Nat.pow_add 10 (t - i - 1)]
              rw [show ∀ A : Nat, A * (10 ^ (q - 1 - t) * (10 ^ (t - i - 1) * 10 ^ 1)) = A * (10 ^ (t - i - 1)) * 10 * 10 ^ (q - 1 - t) from fun A => by
                rw [Nat.pow_one, Nat.mul_comm (10 ^ (q - 1 - t)), ← Nat.mul_assoc, ← Nat.mul_assoc], Nat.mul_div_cancel _ (ten_pos _), Nat.mul_mod_left]
              rfl

/-- all low digits are 0: so is the rest -/
theorem mod_dg (N : Nat) : ∀ a, (N % 10 ^ a = 0 ↔ ∀ e, e < a → N / 10 ^ e % 10 = 0)
  | 0 => by simp [Nat.mod_one]
  | a + 1 => by
    have h := mod_dg N a
    have e1 : N % 10 ^ (a + 1) = N % 10 ^ a + 10 ^ a * (N / 10 ^ a % 10) := by rw [Nat.pow_succ, Nat.mod_mul]
    constructor
    · intro g e he
      rw [e1] at g
      have g1 : N % 10 ^ a = 0 := by omega
      have g2 : 10 ^ a * (N / 10 ^ a % 10) = 0 := by omega
      by_cases c : e = a
      · subst c
        rcases Nat.mul_eq_zero.mp g2 with g3 | g3
        · have := ten_pos e; omega
        · exact g3
      · exact h.mp g1 e (by omega)
    · intro g
      rw [e1, h.mpr (fun e he => g e (by omega)), g a (by omega), Nat.mul_zero]
/-- the cut's number, rounded or not -/
theorem rnd_cond {N T x : Nat} (hT : 0 < T) (hx : x = N / T % 10) : (10 * T < 2 * (N % (T * 10)) ∨ (2 * (N % (T * 10)) = 10 * T ∧ N / (T * 10) % 2 = 1)) ↔ ¬ (x < 5 ∨ (x = 5 ∧ N % T = 0 ∧ N / (T * 10) % 2 = 0)) := by
  have h1 : N % (T * 10) = N % T + T * x := by rw [hx, Nat.mod_mul]
  have h2 : N % T < T := Nat.mod_lt _ hT
  have h3 : x < 10 := by rw [hx]; exact Nat.mod_lt _ (by decide)
  rw [h1]
  generalize N / (T * 10) = w
  generalize N % T = y at *
  clear hx h1
  rcases Nat.lt_trichotomy x 5 with g | g | g
  · have : T * x + T ≤ T * 5 := by rw [← Nat.mul_succ]; exact Nat.mul_le_mul_left T g
    generalize T * x = z at *
    omega
  · subst g
    omega
  · have : T * 6 ≤ T * x := Nat.mul_le_mul_left T g
    generalize T * x = z at *
    omega
