/-! the reference's limbs, the lowest first -/
def WV (F : Nat → Nat) : Nat → Nat
  | 0 => 0
  | k + 1 => WV F k + F k * BB ^ k
theorem WV_s (F : Nat → Nat) (k : Nat) : WV F (k + 1) = WV F k + F k * BB ^ k := rfl
theorem WV_congr {F G : Nat → Nat} : ∀ k, (∀ i, i < k → F i = G i) → WV F k = WV G k
  | 0, _ => rfl
  | k + 1, h => by rw [WV_s, WV_s, WV_congr k (fun i hi => h i (by omega)), h k (by omega)]
theorem WV_lt {F : Nat → Nat} : ∀ k, (∀ i, i < k → F i < BB) → WV F k < BB ^ k
  | 0, _ => by simp [WV]
  | k + 1, h => by
    have h1 := WV_lt k (fun i hi => h i (by omega))
    have h2 := h k (by omega)
    rw [WV_s, Nat.pow_succ]
    have h3 : (F k + 1) * BB ^ k ≤ BB * BB ^ k := Nat.mul_le_mul_right _ h2
    rw [Nat.add_mul, Nat.one_mul, Nat.mul_comm BB] at h3
    generalize F k * BB ^ k = x at *
    generalize BB ^ k * BB = y at *
    generalize BB ^ k = z at *
    omega
def LW (f : Nat → Int64) (F : Nat → Nat) (u : Nat) : Prop := ∀ j, j < u → f j = lN (F j) ∧ F j < BB
theorem LW_up {f : Nat → Int64} {F : Nat → Nat} {u k x : Nat} (h : LW f F u) (hx : x < BB) : LW (vp_updL f k (lN x)) (upN F k x) u := by
  intro i hi
  by_cases e : i = k
  · subst e; rw [upL_self, upN_self]; exact ⟨rfl, hx⟩
  · rw [upL_ne e, upN_ne e]; exact h i hi
theorem LW_ext {f : Nat → Int64} {F : Nat → Nat} {u x : Nat} (h : LW f F u) (hx : x < BB) : LW (vp_updL f u (lN x)) (upN F u x) (u + 1) := by
  intro i hi
  by_cases e : i = u
  · subst e; rw [upL_self, upN_self]; exact ⟨rfl, hx⟩
  · rw [upL_ne e, upN_ne e]; exact h i (by omega)
/-- the carry and the limbs below i hold B times what stood there -/
def TI (F G : Nat → Nat) (B C i : Nat) : Prop := WV G i + C * BB ^ i = B * WV F i
theorem TI_step {F G : Nat → Nat} {B C i : Nat} (h : TI F G B C i) : TI F (upN G i ((C + F i * B) % BB)) B ((C + F i * B) / BB) (i + 1) := by
  unfold TI at *
  rw [WV_s, WV_s, upN_self, WV_congr (F := upN G i ((C + F i * B) % BB)) (G := G) i (fun j hj => upN_ne (by omega)), Nat.mul_add, ← h, Nat.pow_succ, Nat.add_assoc, mul_split, Nat.add_mul]
  rw [show B * (F i * BB ^ i) = F i * B * BB ^ i by rw [Nat.mul_comm (F i) B, Nat.mul_assoc], Nat.add_assoc]
theorem ti_L5 : ∀ (fu : Nat) (l1 l3 : Int64) (l5 us : Int32) (f : Nat → Int64) (F G : Nat → Nat) (B C i u : Nat), l1 = lN B → B ≤ 536870912 → 0 < B → l3 = lN C → C < B → l5 = nI i → us = nI u → i ≤ u → u < 160 → LW f G u → (∀ j, i ≤ j → G j = F j) → TI F G B C i → u < i + fu →
    ∃ u' f' G', f_X2_times_L5 fu l1 l3 l5 us f = some (nI u', f') ∧ LW f' G' u' ∧ WV G' u' = B * WV F u ∧ u' ≤ u + 1 := by
  intro fu
  induction fu with
  | zero => intro l1 l3 l5 us f F G B C i u h1 h2 h2' h3 h4 h5 h6 h7 h8 h9 h10 h11 h12; omega
  | succ fu ih =>
    intro l1 l3 l5 us f F G B C i u h1 h2 h2' h3 h4 h5 h6 h7 h8 h9 h10 h11 h12
    subst h1 h3 h5 h6
    unfold f_X2_times_L5
    have le : nI u ≤ nI i ↔ u ≤ i := nI_leI (by omega) (by omega)
    by_cases c : u ≤ i
    · have hiu : i = u := by omega
      subst hiu
      rw [if_pos (le.mpr c)]
      have hc : lg_cmp (lN C) 0 ≤ 0 ↔ C = 0 := by
        rw [cmp_le, l_N (by omega)]
        have : (0 : Int64).toInt = 0 := rfl
        omega
      by_cases c2 : C = 0
      · rw [if_pos (hc.mpr c2)]
        refine ⟨i, f, G, rfl, h9, ?_, by omega⟩
        unfold TI at h11
        rw [c2, Nat.zero_mul, Nat.add_zero] at h11
        exact h11
      · rw [if_neg (fun h => c2 (hc.mp h)), if_neg (nI_in h8 (by decide)), nI_clamp (by omega), nI_1]
        refine ⟨i + 1, _, upN G i C, rfl, LW_ext h9 (by simp only [BB]; omega), ?_, Nat.le_refl _⟩
        rw [WV_s, upN_self, WV_congr (F := upN G i C) (G := G) i (fun j hj => upN_ne (by omega))]
        exact h11
    · have hin : ¬ (nI i < 0 ∨ 160 ≤ (nI i).toNatClampNeg) := nI_in (by omega) (by decide)
      rw [if_neg (fun h => c (le.mp h))]
      simp only [if_neg hin]
      have g := h9 i (by omega)
      have hF : G i = F i := h10 i (Nat.le_refl _)
      rw [hF] at g
      have hb : C + F i * B < B * BB := by
        have : (F i + 1) * B ≤ BB * B := Nat.mul_le_mul_right _ g.2
        rw [Nat.add_mul, Nat.one_mul, Nat.mul_comm BB] at this
        omega
      have hb2 : C + F i * B < 2 ^ 63 := Nat.lt_of_lt_of_le hb (Nat.le_trans (Nat.mul_le_mul_right BB h2) (by decide))
      rw [nI_clamp (by omega), g.1, lN_mul, lN_add, B_lN, pk_lRem hb2 (by decide) (by decide), pk_lDiv hb2 (by decide) (by decide), nI_1]
      exact ih (lN B) _ (nI (i + 1)) (nI u) _ F (upN G i ((C + F i * B) % BB)) B ((C + F i * B) / BB) (i + 1) u rfl h2 h2' rfl ((Nat.div_lt_iff_lt_mul (by decide)).mpr hb) rfl rfl (by omega) h8 (LW_up h9 (Nat.mod_lt _ (by decide))) (fun j hj => by rw [upN_ne (by omega)]; exact h10 j (by omega)) (TI_step h11) (by omega)
theorem times_ok {l1 : Int64} {us : Int32} {f : Nat → Int64} {F : Nat → Nat} {B u : Nat} (h1 : l1 = lN B) (h2 : B ≤ 536870912) (h3 : 0 < B) (h4 : us = nI u) (h5 : u < 160) (h6 : LW f F u) :
    ∃ u' f' G', f_X2_times l1 us f = some (nI u', f') ∧ LW f' G' u' ∧ WV G' u' = B * WV F u ∧ u' ≤ u + 1 := by
  unfold f_X2_times
  exact ti_L5 FU l1 0 0 us f F F B 0 0 u h1 h2 h3 rfl h3 rfl h4 (Nat.zero_le _) h5 h6 (fun _ _ => rfl) (by unfold TI; simp [WV]) (by unfold FU; omega)
/-- one limb's nine digits -/
theorem row_L176 (k : (Int32) → (Int32) → (Int32) → (Int32) → (Nat → Int32) → (Nat → Int32) → (Nat → Int32) → (Nat → Int64) → Option ((Int32) × (Nat → Int32) × (Nat → Int32) × (Nat → Int32) × (Nat → Int64))) : ∀ (fu : Nat) (l3 l4 l5 : Int32) (l6 : Int64) (us : Int32) (d n pw : Nat → Int32) (f : Nat → Int64) (r i x A m s : Nat), l4 = nI r → r ≤ 5600 → l5 = nI i → i < 160 → f i = lN x → x < BB → s ≤ 9 → l6 = lN (if s = 0 then 0 else 10 ^ (s - 1)) → RB r d n (A * 10 ^ (9 - s) + x / 10 ^ s) m → m + s ≤ 1390 → s < fu →
    ∃ d' n', f_X2_row_L176 k fu l3 l4 l5 l6 us d n pw f = k l3 l4 (l5 + (-1)) us d' n' pw f ∧ RB r d' n' (A * 10 ^ 9 + x) (m + s) ∧ (∀ j, (j < r ∨ r + 1400 ≤ j) → d' j = d j) ∧ (∀ j, j ≠ r → n' j = n j) := by
  intro fu
  induction fu with
  | zero => intro l3 l4 l5 l6 us d n pw f r i x A m s h1 h2 h3 h4 h5 h6 h7 h8 h9 h10 h11; omega
  | succ fu ih =>
    intro l3 l4 l5 l6 us d n pw f r i x A m s h1 h2 h3 h4 h5 h6 h7 h8 h9 h10 h11
    unfold f_X2_row_L176
    by_cases c : s = 0
    · subst c
      rw [if_pos (by rw [h8]; decide)]
      rw [Nat.sub_zero, Nat.pow_zero, Nat.div_one] at h9
      exact ⟨d, n, rfl, h9, fun _ _ => rfl, fun _ _ => rfl⟩
    · obtain ⟨s', rfl⟩ : ∃ s', s = s' + 1 := ⟨s - 1, by omega⟩
      rw [if_neg (by omega), Nat.add_sub_cancel] at h8
      have hp : 10 ^ s' ≤ 10 ^ 8 := ten_le (by omega)
      have hp0 := ten_pos s'
      have hp1 : (10 : Nat) ^ 8 = 100000000 := by decide
      have hcm : ¬ lg_cmp l6 0 ≤ 0 := by
        rw [cmp_le, h8, l_N (by omega)]
        have : (0 : Int64).toInt = 0 := rfl
        omega
      have hne : ¬ l6 = 0 := by
        rw [h8]
        intro g
        have := (pk_lEQ (a := 10 ^ s') (b := 0) (by omega) (by decide)).mp g
        omega
      have hin : ¬ (nI i < 0 ∨ 160 ≤ (nI i).toNatClampNeg) := nI_in (by omega) (by decide)
      have hx63 : x < 2 ^ 63 := by simp only [BB] at h6; omega
      have hdv : x / 10 ^ s' < 2 ^ 63 := Nat.lt_of_le_of_lt (Nat.div_le_self _ _) hx63
      rw [if_neg hcm, h3, if_neg hin, if_neg hne, nI_clamp (by omega), h5, h8, pk_lDiv hx63 hp0 (by omega), ten_lN, pk_lRem hdv (by decide) (by decide), lN_i]
      obtain ⟨d1, n1, e1, e2, e3, e4⟩ := more_ok (x := x / 10 ^ s' % 10) h1 h2 h9 (by omega) rfl (Nat.mod_lt _ (by decide))
      rw [e1, Option.bind_some]
      have hA : (A * 10 ^ (9 - (s' + 1)) + x / 10 ^ (s' + 1)) * 10 + x / 10 ^ s' % 10 = A * 10 ^ (9 - s') + x / 10 ^ s' := by
        have := dv_step x s'
        rw [show 9 - s' = (9 - (s' + 1)) + 1 by omega, Nat.pow_succ 10 (9 - (s' + 1)), ← Nat.mul_assoc]
        generalize A * 10 ^ (9 - (s' + 1)) = w at *
        omega
      rw [hA] at e2
      obtain ⟨d2, n2, k1, k2, k3, k4⟩ := ih l3 l4 (nI i) (lN (10 ^ s') / lN 10) us d1 n1 pw f r i x A (m + 1) s' h1 h2 rfl h4 h5 h6 (by omega) (by
        rw [pk_lDiv (by omega) (by decide) (by decide)]
        congr 1
        by_cases cs : s' = 0
        · subst cs; rfl
        · rw [if_neg cs]
          obtain ⟨v, rfl⟩ : ∃ v, s' = v + 1 := ⟨s' - 1, by omega⟩
          rw [Nat.pow_succ, Nat.mul_div_cancel _ (by decide), Nat.add_sub_cancel]) e2 (by omega) (by omega)
      refine ⟨d2, n2, k1, ?_, fun j hj => (k3 j hj).trans (e3 j hj), fun j hj => (k4 j hj).trans (e4 j hj)⟩
      rwa [show m + (s' + 1) = m + 1 + s' by omega]
