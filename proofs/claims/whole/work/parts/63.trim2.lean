/-! more and trim -/
def RB (r : Nat) (d n : Nat → Int32) (A m : Nat) : Prop := n r = nI m ∧ ∀ t, t < m → d (r + t) = nI (A / 10 ^ (m - 1 - t) % 10)
theorem more_ok {l1 l2 : Int32} {d n : Nat → Int32} {r A m x : Nat} (h1 : l1 = nI r) (h2 : r ≤ 5600) (h3 : RB r d n A m) (h4 : m < 1390) (h5 : l2 = nI x) (h6 : x < 10) :
    ∃ d' n', f_X2_more l1 l2 d n = some (d', n') ∧ RB r d' n' (A * 10 + x) (m + 1) ∧ (∀ j, (j < r ∨ r + 1400 ≤ j) → d' j = d j) ∧ (∀ j, j ≠ r → n' j = n j) := by
  subst h1
  obtain ⟨a1, a2⟩ := h3
  have hin : ¬ (nI r < 0 ∨ 7000 ≤ (nI r).toNatClampNeg) := nI_in (by omega) (by decide)
  have hin2 : ¬ (nI (r + m) < 0 ∨ 7000 ≤ (nI (r + m)).toNatClampNeg) := nI_in (by omega) (by decide)
  unfold f_X2_more
  simp only [if_neg hin]
  rw [nI_clamp (show r < 2 ^ 31 by omega), a1, nI_add, if_neg hin2, nI_clamp (by omega), nI_1, h5]
  refine ⟨_, _, rfl, ⟨pk_us, fun t ht => ?_⟩, fun j hj => pk_un (by omega), fun j hj => pk_un hj⟩
  by_cases c : t = m
  · subst c
    rw [pk_us, show t + 1 - 1 - t = 0 by omega, Nat.pow_zero, Nat.div_one]
    congr 1
    omega
  · rw [pk_un (by omega), a2 t (by omega), show m + 1 - 1 - t = (m - 1 - t) + 1 by omega, Nat.pow_succ, Nat.mul_comm (10 ^ (m - 1 - t)) 10, ← Nat.div_div_eq_div_mul, show (A * 10 + x) / 10 = A by omega]
theorem RB_RW {r : Nat} {d n pw : Nat → Int32} {A m : Nat} (h : RB r d n A m) (hA : A < 10 ^ m) (hm : m ≤ 1390) : RW r d n pw A m m (pw r) :=
  ⟨h.1, rfl, Nat.le_refl _, hm, hA, by rw [Nat.sub_self]; exact Nat.mod_one _, h.2⟩
theorem rw_scale {r : Nat} {d n pw : Nat → Int32} {N E m : Nat} {P : Int32} (h : RW r d n pw N E m P) (z : Nat) : RW r d n pw (N * 10 ^ z) (E + z) m P := by
  obtain ⟨h1, h2, h3, h4, h5, h6, h7⟩ := h
  refine ⟨h1, h2, by omega, h4, ?_, ?_, fun i hi => ?_⟩
  · rw [Nat.pow_add]
    exact Nat.mul_lt_mul_of_pos_right h5 (ten_pos _)
  · obtain ⟨k, hk⟩ := Nat.dvd_of_mod_eq_zero h6
    rw [hk, show E + z - m = (E - m) + z by clear h5 h6 hk; omega, Nat.pow_add, Nat.mul_assoc, Nat.mul_comm k, ← Nat.mul_assoc]
    exact Nat.mul_mod_right _ _
  · rw [h7 i hi, show E + z - 1 - i = z + (E - 1 - i) by clear h5 h6; omega, Nat.pow_add, ← Nat.div_div_eq_div_mul, Nat.mul_div_cancel _ (ten_pos _)]
theorem tr_L85 : ∀ (fu : Nat) (l1 : Int32) (d n pw : Nat → Int32) (r N E m : Nat) (P : Int32), l1 = nI r → r ≤ 5600 → RW r d n pw N E m P → m < fu →
    ∃ n' m', f_X2_trim_L85 fu l1 d n pw = some (d, n', pw) ∧ RW r d n' pw N E m' P ∧ m' ≤ m ∧ (∀ j, j ≠ r → n' j = n j) := by
  intro fu
  induction fu with
  | zero => intro l1 d n pw r N E m P h1 h2 h3 h4; omega
  | succ fu ih =>
    intro l1 d n pw r N E m P h1 h2 h3 h4
    subst h1
    obtain ⟨a1, a2, a3, a4, a5, a6, a7⟩ := id h3
    have hin : ¬ (nI r < 0 ∨ 7000 ≤ (nI r).toNatClampNeg) := nI_in (by omega) (by decide)
    unfold f_X2_trim_L85
    simp only [if_neg hin]
    rw [nI_clamp (show r < 2 ^ 31 by omega), a1]
    by_cases c : m = 0
    · subst c
      rw [if_pos (by decide)]
      exact ⟨n, 0, rfl, h3, Nat.le_refl _, fun _ _ => rfl⟩
    · obtain ⟨k, rfl⟩ : ∃ k, m = k + 1 := ⟨m - 1, by omega⟩
      have hin2 : ¬ (nI (r + k) < 0 ∨ 7000 ≤ (nI (r + k)).toNatClampNeg) := nI_in (by clear a5 a6; omega) (by decide)
      rw [if_neg (nI_nle (by omega) (by omega)), nI_add, show r + (k + 1) = (r + k) + 1 from rfl, nI_pred, if_neg hin2, nI_clamp (by clear a5 a6; omega), a7 k (by omega), nI_pred]
      have hx := dg_lt N (E - 1 - k)
      have z0 : nI (N / 10 ^ (E - 1 - k) % 10) = 0 ↔ N / 10 ^ (E - 1 - k) % 10 = 0 := nI_eq (b := 0) (by omega) (by decide)
      by_cases c2 : N / 10 ^ (E - 1 - k) % 10 = 0
      · rw [if_pos (z0.mpr c2)]
        obtain ⟨n', m', e1, e2, e3, e4⟩ := ih (nI r) d (upd n r (nI k)) pw r N E k P rfl h2 ⟨pk_us, a2, by omega, by omega, a5, by
          rw [show E - k = (E - 1 - k) + 1 by clear a5 a6; omega, Nat.pow_succ, Nat.mod_mul, c2, Nat.mul_zero, Nat.add_zero]
          rwa [show E - (k + 1) = E - 1 - k by clear a5 a6; omega] at a6, fun i hi => a7 i (by omega)⟩ (by omega)
        exact ⟨n', m', e1, e2, by omega, fun j hj => (e4 j hj).trans (pk_un hj)⟩
      · rw [if_neg (fun h => c2 (z0.mp h))]
        exact ⟨n, k + 1, rfl, h3, Nat.le_refl _, fun _ _ => rfl⟩
theorem nz_first {N E : Nat} (h : N / 10 ^ (E - 1) % 10 ≠ 0) : 10 ^ (E - 1) ≤ N := by
  rcases Nat.lt_or_ge N (10 ^ (E - 1)) with g | g
  · rw [Nat.div_eq_of_lt g] at h
    exact absurd rfl h
  · exact g
theorem tr_L31 : ∀ (fu : Nat) (l1 l2 l3 : Int32) (d n pw : Nat → Int32) (r N E m b i : Nat) (P : Int32), l1 = nI r → r ≤ 5600 → l2 = nI b → l3 = nI i → b ≤ i → i ≤ m → n r = nI m → pw r = P → m ≤ E → m ≤ 1390 → N < 10 ^ (E - b) → N % 10 ^ (E - m) = 0 → (∀ t, t + b < i → d (r + t) = nI (N / 10 ^ (E - 1 - b - t) % 10)) → (∀ t, i ≤ t → t < m → d (r + t) = nI (N / 10 ^ (E - 1 - t) % 10)) → (b < m → N / 10 ^ (E - 1 - b) % 10 ≠ 0) → m < i + fu →
    ∃ d' n' pw' m', f_X2_trim_L31 fu l1 l2 l3 d n pw = some (d', n', pw') ∧ RW r d' n' pw' N (E - b) m' (P - nI b) ∧ NZ N (E - b) m' ∧ Only r d n pw d' n' pw' := by
  intro fu
  induction fu with
  | zero => intro l1 l2 l3 d n pw r N E m b i P h1 h2 h3 h4 h5 h6 h7 h8 h9 h10 h11 h12 h13 h14 h15 h16; omega
  | succ fu ih =>
    intro l1 l2 l3 d n pw r N E m b i P h1 h2 h3 h4 h5 h6 h7 h8 h9 h10 h11 h12 h13 h14 h15 h16
    subst h1 h3 h4
    have hin : ¬ (nI r < 0 ∨ 7000 ≤ (nI r).toNatClampNeg) := nI_in (by omega) (by decide)
    unfold f_X2_trim_L31
    simp only [if_neg hin]
    rw [nI_clamp (show r < 2 ^ 31 by omega), h7, h8]
    have le : nI m ≤ nI i ↔ m ≤ i := nI_leI (by omega) (by omega)
    by_cases c : m ≤ i
    · rw [if_pos (le.mpr c), pk_sub (by omega)]
      obtain ⟨n', m', e1, e2, e3, e4⟩ := tr_L85 FU (nI r) d (upd n r (nI (m - b))) (upd pw r (P - nI b)) r N (E - b) (m - b) (P - nI b) rfl h2 ⟨pk_us, pk_us, by clear h11 h12; omega, by omega, h11, by rw [show E - b - (m - b) = E - m by clear h11 h12; omega]; exact h12, fun t ht => by
        rw [h13 t (by clear h11 h12; omega), show E - b - 1 - t = E - 1 - b - t by clear h11 h12; omega]⟩ (by unfold FU; omega)
      refine ⟨d, n', upd pw r (P - nI b), m', e1, e2, fun hm => ?_, fun _ _ => rfl, fun j hj => ⟨(e4 j hj).trans (pk_un hj), pk_un hj⟩⟩
      refine ⟨by clear h11 h12; omega, ?_⟩
      have := h15 (by clear h11 h12; omega)
      rw [show E - 1 - b = E - b - 1 by clear h11 h12; omega] at this
      exact nz_first this
    · have hin2 : ¬ (nI (r + i) < 0 ∨ 7000 ≤ (nI (r + i)).toNatClampNeg) := nI_in (by clear h11 h12; omega) (by decide)
      have hin3 : ¬ (nI (r + i - b) < 0 ∨ 7000 ≤ (nI (r + i - b)).toNatClampNeg) := nI_in (by clear h11 h12; omega) (by decide)
      rw [if_neg (fun h => c (le.mp h)), nI_add, if_neg hin2, pk_sub (by clear h11 h12; omega), if_neg hin3, nI_clamp (by clear h11 h12; omega), nI_clamp (by clear h11 h12; omega), nI_1, h14 i (Nat.le_refl _) (by omega)]
      obtain ⟨d', n', pw', m', e1, e2, e3, e4⟩ := ih (nI r) (nI b) (nI (i + 1)) (upd d (r + i - b) (nI (N / 10 ^ (E - 1 - i) % 10))) n pw r N E m b (i + 1) P rfl h2 rfl rfl (by omega) (by omega) h7 h8 h9 h10 h11 h12 (fun t ht => by
        by_cases ct : t + b = i
        · rw [show r + t = r + i - b by clear h11 h12; omega, pk_us, show E - 1 - b - t = E - 1 - i by clear h11 h12; omega]
        · rw [pk_un (by clear h11 h12; omega)]; exact h13 t (by omega)) (fun t g1 g2 => by
        rw [pk_un (by clear h11 h12; omega)]; exact h14 t (by omega) g2) h15 (by omega)
      exact ⟨d', n', pw', m', e1, e2, e3, fun j hj => (e4.1 j hj).trans (pk_un (by clear h11 h12; omega)), e4.2⟩
theorem tr_L2 : ∀ (fu : Nat) (l1 l2 : Int32) (d n pw : Nat → Int32) (r N E m b : Nat) (P : Int32), l1 = nI r → r ≤ 5600 → l2 = nI b → b ≤ m → RW r d n pw N E m P → N < 10 ^ (E - b) → m < b + fu →
    ∃ d' n' pw' m' b', f_X2_trim_L2 fu l1 l2 d n pw = some (d', n', pw') ∧ RW r d' n' pw' N (E - b') m' (P - nI b') ∧ NZ N (E - b') m' ∧ Only r d n pw d' n' pw' ∧ (b' ≤ m ∧ (N = 0 → b' = m)) := by
  intro fu
  induction fu with
  | zero => intro l1 l2 d n pw r N E m b P h1 h2 h3 h4 h5 h6 h7; omega
  | succ fu ih =>
    intro l1 l2 d n pw r N E m b P h1 h2 h3 h4 h5 h6 h7
    subst h1 h3
    obtain ⟨a1, a2, a3, a4, a5, a6, a7⟩ := id h5
    have hin : ¬ (nI r < 0 ∨ 7000 ≤ (nI r).toNatClampNeg) := nI_in (by omega) (by decide)
    unfold f_X2_trim_L2
    simp only [if_neg hin]
    rw [nI_clamp (show r < 2 ^ 31 by omega), a1]
    have le : nI m ≤ nI b ↔ m ≤ b := nI_leI (by omega) (by omega)
    have go : (b < m → N / 10 ^ (E - 1 - b) % 10 ≠ 0) → ∃ d' n' pw' m' b', f_X2_trim_L31 FU (nI r) (nI b) (nI b) d n pw = some (d', n', pw') ∧ RW r d' n' pw' N (E - b') m' (P - nI b') ∧ NZ N (E - b') m' ∧ Only r d n pw d' n' pw' ∧ (b' ≤ m ∧ (N = 0 → b' = m)) := by
      intro hb
      obtain ⟨d', n', pw', m', e1, e2, e3, e4⟩ := tr_L31 FU (nI r) (nI b) (nI b) d n pw r N E m b b P rfl h2 rfl rfl (Nat.le_refl _) h4 a1 a2 a3 a4 h6 a6 (fun t ht => by omega) (fun t g1 g2 => a7 t g2) hb (by unfold FU; omega)
      exact ⟨d', n', pw', m', b, e1, e2, e3, e4, h4, fun hz => by
        rcases Nat.lt_or_ge b m with g | g
        · exact absurd (by rw [hz, Nat.zero_div]) (hb g)
        · omega⟩
    by_cases c : m ≤ b
    · rw [if_pos (le.mpr c)]
      exact go (fun g => by omega)
    · have hin2 : ¬ (nI (r + b) < 0 ∨ 7000 ≤ (nI (r + b)).toNatClampNeg) := nI_in (by clear a5 a6 h6; omega) (by decide)
      rw [if_neg (fun h => c (le.mp h)), nI_add, if_neg hin2, nI_clamp (by clear a5 a6 h6; omega), a7 b (by omega), nI_1]
      have hx := dg_lt N (E - 1 - b)
      have z0 : nI (N / 10 ^ (E - 1 - b) % 10) = 0 ↔ N / 10 ^ (E - 1 - b) % 10 = 0 := nI_eq (b := 0) (by omega) (by decide)
      by_cases c2 : N / 10 ^ (E - 1 - b) % 10 = 0
      · rw [if_pos (z0.mpr c2)]
        refine ih (nI r) (nI (b + 1)) d n pw r N E m (b + 1) P rfl h2 rfl (by omega) h5 ?_ (by omega)
        rw [show E - (b + 1) = E - 1 - b by clear a5 a6 h6; omega]
        have e := dv_step N (E - 1 - b)
        rw [show E - 1 - b + 1 = E - b by clear a5 a6 h6 e; omega, Nat.div_eq_of_lt h6, c2] at e
        exact (Nat.div_eq_zero_iff.mp e).resolve_left (by have := ten_pos (E - 1 - b); omega)
      · rw [if_neg (fun h => c2 (z0.mp h))]
        exact go (fun _ => c2)
theorem trim2_ok {l1 : Int32} {d n pw : Nat → Int32} {r N E m : Nat} {P : Int32} (h1 : l1 = nI r) (h2 : r ≤ 5600) (h5 : RW r d n pw N E m P) :
    ∃ d' n' pw' m' b', f_X2_trim l1 d n pw = some (d', n', pw') ∧ RW r d' n' pw' N (E - b') m' (P - nI b') ∧ NZ N (E - b') m' ∧ Only r d n pw d' n' pw' ∧ (b' ≤ m ∧ (N = 0 → b' = m)) := by
  unfold f_X2_trim
  exact tr_L2 FU l1 0 d n pw r N E m 0 P h1 h2 rfl (Nat.zero_le _) h5 h5.2.2.2.2.1 (by have := h5.2.2.2.1; unfold FU; omega)
