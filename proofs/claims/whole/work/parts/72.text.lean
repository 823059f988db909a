/-! the text, as both read it -/
abbrev isD (X : Nat → Int32) (L i : Nat) : Prop := i < L ∧ 48 ≤ (X i).toInt ∧ (X i).toInt ≤ 57
def dig (x : Int32) : Nat := (x.toInt - 48).toNat
theorem dig_ok {x : Int32} (h1 : 48 ≤ x.toInt) (h2 : x.toInt ≤ 57) : x - 48 = nI (dig x) ∧ dig x < 10 ∧ (x.toInt : Int) = dig x + 48 := by
  have e48 : (48 : Int32).toInt = 48 := rfl
  unfold dig
  refine ⟨nI_of_toInt ?_ (by omega), by omega, by omega⟩
  rw [i_sub (by rw [e48]; omega) (by rw [e48]; omega), e48]
  omega
theorem isAt_ok {X : Nat → Int32} {L i : Nat} {c : Int32} (hL : L ≤ 400) (hi : i < 2 ^ 30) : f_X1_isAt (nI i) c (nI L) X = some (if i < L ∧ X i = c then 1 else 0) := by
  unfold f_X1_isAt
  have le : nI L ≤ nI i ↔ L ≤ i := nI_leI (by omega) (by omega)
  by_cases c1 : L ≤ i
  · rw [if_pos (le.mpr c1), if_neg (by omega)]
  · rw [if_neg (fun h => c1 (le.mp h)), if_neg (nI_in (by omega) (by decide)), nI_clamp (by omega)]
    by_cases c2 : X i = c
    · rw [if_pos c2, if_pos ⟨by omega, c2⟩]
    · rw [if_neg c2, if_neg (fun h => c2 h.2)]
theorem is_ok {X : Nat → Int32} {L i : Nat} {c : Int32} (hL : L ≤ 400) (hi : i < 2 ^ 30) : f_X2_is c (nI L) (nI i) X = some (if i < L ∧ X i = c then 1 else 0) := by
  unfold f_X2_is
  have le : nI L ≤ nI i ↔ L ≤ i := nI_leI (by omega) (by omega)
  by_cases c1 : L ≤ i
  · rw [if_pos (le.mpr c1), if_neg (by omega)]
  · rw [if_neg (fun h => c1 (le.mp h)), if_neg (nI_in (by omega) (by decide)), nI_clamp (by omega)]
    by_cases c2 : X i = c
    · rw [if_pos c2, if_pos ⟨by omega, c2⟩]
    · rw [if_neg c2, if_neg (fun h => c2 h.2)]
theorem isDigit_ok {X : Nat → Int32} {L i : Nat} (hL : L ≤ 400) (hi : i < 2 ^ 30) : f_X2_isDigit (nI L) (nI i) X = some (if isD X L i then 1 else 0) := by
  unfold f_X2_isDigit
  have e48 : (48 : Int32).toInt = 48 := rfl
  have e57 : (57 : Int32).toInt = 57 := rfl
  have le : nI L ≤ nI i ↔ L ≤ i := nI_leI (by omega) (by omega)
  have hin : i < 400 → ¬ (nI i < 0 ∨ 400 ≤ (nI i).toNatClampNeg) := fun h => nI_in h (by decide)
  by_cases c1 : L ≤ i
  · rw [if_pos (le.mpr c1), if_neg (fun h => by have := h.1; omega)]
  · rw [if_neg (fun h => c1 (le.mp h))]
    simp only [if_neg (hin (by omega))]
    rw [nI_clamp (by omega)]
    by_cases c2 : X i < 48
    · rw [if_pos c2]
      rw [i_lt, e48] at c2
      rw [if_neg (fun h => by have := h.2.1; omega)]
    · rw [if_neg c2]
      rw [i_lt, e48] at c2
      by_cases c3 : 57 < X i
      · rw [if_pos c3]
        rw [i_lt, e57] at c3
        rw [if_neg (fun h => by have := h.2.2; omega)]
      · rw [if_neg c3]
        rw [i_lt, e57] at c3
        rw [if_pos ⟨by omega, by omega, by omega⟩]
/-- from i on the digits go to j -/
def ED (X : Nat → Int32) (L i j : Nat) : Prop := i ≤ j ∧ (∀ t, i ≤ t → t < j → isD X L t) ∧ ¬ isD X L j
theorem ED_le {X : Nat → Int32} {L i j : Nat} (h : ED X L i j) : j ≤ L ∨ j = i := by
  by_cases c : j = i
  · exact Or.inr c
  · left
    have := (h.2.1 (j - 1) (by have := h.1; omega) (by have := h.1; omega)).1
    omega
theorem eod_L2 : ∀ (fu : Nat) (X : Nat → Int32) (L i : Nat), L ≤ 400 → i < 500 → 400 < i + fu → 0 < fu → ∃ j, f_X1_endOfDigits_L2 fu (nI i) (nI L) X = some (nI j) ∧ ED X L i j := by
  intro fu
  induction fu with
  | zero => intro X L i h1 h2 h3 h4; omega
  | succ fu ih =>
    intro X L i h1 h2 h3 h4
    unfold f_X1_endOfDigits_L2
    have e48 : (48 : Int32).toInt = 48 := rfl
    have e57 : (57 : Int32).toInt = 57 := rfl
    have le : nI L ≤ nI i ↔ L ≤ i := nI_leI (by omega) (by omega)
    have hin : i < 400 → ¬ (nI i < 0 ∨ 400 ≤ (nI i).toNatClampNeg) := fun h => nI_in h (by decide)
    by_cases c1 : L ≤ i
    · rw [if_pos (le.mpr c1)]
      exact ⟨i, rfl, Nat.le_refl _, fun t g1 g2 => by omega, fun h => by have := h.1; omega⟩
    · rw [if_neg (fun h => c1 (le.mp h))]
      simp only [if_neg (hin (by omega))]
      rw [nI_clamp (by omega)]
      by_cases c2 : X i < 48
      · rw [if_pos c2]
        rw [i_lt, e48] at c2
        exact ⟨i, rfl, Nat.le_refl _, fun t g1 g2 => by omega, fun h => by have := h.2.1; omega⟩
      · rw [if_neg c2]
        rw [i_lt, e48] at c2
        by_cases c3 : 57 < X i
        · rw [if_pos c3]
          rw [i_lt, e57] at c3
          exact ⟨i, rfl, Nat.le_refl _, fun t g1 g2 => by omega, fun h => by have := h.2.2; omega⟩
        · rw [if_neg c3, nI_1]
          rw [i_lt, e57] at c3
          obtain ⟨j, e1, e2, e3, e4⟩ := ih X L (i + 1) h1 (by omega) (by omega) (by omega)
          refine ⟨j, e1, by omega, fun t g1 g2 => ?_, e4⟩
          by_cases ct : t = i
          · rw [ct]; exact ⟨by omega, by omega, by omega⟩
          · exact e3 t (by omega) g2
theorem eod_ok {X : Nat → Int32} {L i : Nat} (h1 : L ≤ 400) (h2 : i < 500) : ∃ j, f_X1_endOfDigits (nI i) (nI L) X = some (nI j) ∧ ED X L i j := by
  unfold f_X1_endOfDigits
  exact eod_L2 FU X L i h1 h2 (by unfold FU; omega) (by unfold FU; omega)
/-- the number that digits from i on make behind A -/
def DA (X : Nat → Int32) (A i : Nat) : Nat → Nat
  | 0 => A
  | k + 1 => DA X A i k * 10 + dig (X (i + k))
theorem DA_s (X : Nat → Int32) (A i k : Nat) : DA X A i (k + 1) = DA X A i k * 10 + dig (X (i + k)) := rfl
theorem DA_lt {X : Nat → Int32} {L A i m : Nat} (hA : A < 10 ^ m) : ∀ k, (∀ t, t < k → isD X L (i + t)) → DA X A i k < 10 ^ (m + k)
  | 0, _ => hA
  | k + 1, h => by
    have h1 := DA_lt hA k (fun t ht => h t (by omega))
    have h2 := h k (by omega)
    have h3 := (dig_ok h2.2.1 h2.2.2).2.1
    rw [DA_s, ← Nat.add_assoc, Nat.pow_succ]
    omega
/-! the power -/
theorem sp_L71 : ∀ (fu : Nat) (X : Nat → Int32) (L st en k : Nat) (l2 : Int32), L ≤ 400 → st + k ≤ en → en ≤ L → en ≤ st + 4 → (∀ t, st ≤ t → t < en → isD X L t) → en < st + k + fu →
    f_X1_scanPower_L71 fu l2 (nI en) (nI (st + k)) (nI L) (nI (DA X 0 st k)) X = some (1, if l2 = 0 then nI (DA X 0 st (en - st)) else -(nI (DA X 0 st (en - st)))) := by
  intro fu
  induction fu with
  | zero => intro X L st en k l2 h1 h2 h3 h4 h5 h6; omega
  | succ fu ih =>
    intro X L st en k l2 h1 h2 h3 h4 h5 h6
    unfold f_X1_scanPower_L71
    have le : nI en ≤ nI (st + k) ↔ en ≤ st + k := nI_leI (by omega) (by omega)
    by_cases c : en ≤ st + k
    · rw [if_pos (le.mpr c), show en - st = k by omega]
      by_cases c2 : l2 = 0
      · rw [if_pos c2, if_pos c2]
      · rw [if_neg c2, if_neg c2]
    · rw [if_neg (fun h => c (le.mp h)), if_neg (nI_in (by omega) (by decide)), nI_clamp (by omega), nI_1]
      have hd := h5 (st + k) (by omega) (by omega)
      have hg := dig_ok hd.2.1 hd.2.2
      have e : nI (DA X 0 st k) * 10 + X (st + k) - 48 = nI (DA X 0 st (k + 1)) := by
        have e10 : (10 : Int32) = nI 10 := rfl
        rw [e10, pk_mul, Int32.sub_eq_add_neg, Int32.add_assoc, ← Int32.sub_eq_add_neg, hg.1, nI_add, DA_s]
      rw [e]
      exact ih X L st en (k + 1) l2 h1 (by omega) h3 h4 h5 (by omega)
/-- what scanPower tells: whether 'e', a sign, one to four digits and the end follow -/
def PW (X : Nat → Int32) (L e : Nat) (t : Int32) : Prop := ∃ st, ((st = e + 1 ∧ ¬ (e + 1 < L ∧ X (e + 1) = 45) ∧ t = nI (DA X 0 st (L - st))) ∨ (st = e + 2 ∧ (e + 1 < L ∧ X (e + 1) = 45) ∧ t = -(nI (DA X 0 st (L - st))))) ∧ e < L ∧ X e = 101 ∧ ED X L st L ∧ st < L ∧ L ≤ st + 4
def NPW (X : Nat → Int32) (L e : Nat) : Prop := ¬ (e < L ∧ X e = 101) ∨ ∃ st en, ((st = e + 1 ∧ ¬ (e + 1 < L ∧ X (e + 1) = 45)) ∨ (st = e + 2 ∧ (e + 1 < L ∧ X (e + 1) = 45))) ∧ e < L ∧ X e = 101 ∧ ED X L st en ∧ (en = st ∨ st + 4 < en ∨ en ≠ L)
theorem sp_b35 {X : Nat → Int32} {L st : Nat} {l2 : Int32} (h1 : L ≤ 400) (h2 : st < 500) : ∃ en, ED X L st en ∧ ((en = st ∨ st + 4 < en ∨ en ≠ L) → f_X1_scanPower_b35 l2 (nI st) (nI L) 0 X = some (0, 0)) ∧ (¬ (en = st ∨ st + 4 < en ∨ en ≠ L) → f_X1_scanPower_b35 l2 (nI st) (nI L) 0 X = some (1, if l2 = 0 then nI (DA X 0 st (L - st)) else -(nI (DA X 0 st (L - st))))) := by
  obtain ⟨en, e1, e2⟩ := eod_ok (X := X) h1 h2
  refine ⟨en, e2, ?_⟩
  have hle := ED_le e2
  have hst := e2.1
  unfold f_X1_scanPower_b35
  rw [e1, Option.bind_some]
  have q1 : nI en = nI st ↔ en = st := nI_eq (by omega) (by omega)
  have q2 : nI en = nI L ↔ en = L := nI_eq (by omega) (by omega)
  rw [pk_sub hst]
  have q3 : (4 : Int32) < nI (en - st) ↔ 4 < en - st := nI_ltI (a := 4) (by decide) (by omega)
  by_cases c1 : en = st
  · rw [if_pos (q1.mpr c1)]
    exact ⟨fun _ => rfl, fun h => absurd (Or.inl c1) h⟩
  · rw [if_neg (fun h => c1 (q1.mp h))]
    by_cases c2 : 4 < en - st
    · rw [if_pos (q3.mpr c2)]
      exact ⟨fun _ => rfl, fun h => absurd (Or.inr (Or.inl (by omega))) h⟩
    · rw [if_neg (fun h => c2 (q3.mp h))]
      by_cases c3 : en = L
      · rw [if_pos (q2.mpr c3)]
        refine ⟨fun h => by omega, fun _ => ?_⟩
        subst c3
        exact sp_L71 FU X en st en 0 l2 h1 (by omega) (Nat.le_refl _) (by omega) e2.2.1 (by unfold FU; omega)
      · rw [if_neg (fun h => c3 (q2.mp h))]
        exact ⟨fun _ => rfl, fun h => absurd (Or.inr (Or.inr c3)) h⟩
theorem ite_eq0 {c : Prop} [Decidable c] : ((if c then (1 : Int32) else 0) = 0) ↔ ¬ c := by
  by_cases h : c
  · rw [if_pos h]; exact iff_of_false (by decide) (fun g => g h)
  · rw [if_neg h]; exact iff_of_true rfl h
theorem sp_ok {X : Nat → Int32} {L e : Nat} (h1 : L ≤ 400) (h2 : e < 450) : (∃ t, PW X L e t ∧ f_X1_scanPower (nI e) (nI L) 0 X = some (1, t)) ∨ (NPW X L e ∧ f_X1_scanPower (nI e) (nI L) 0 X = some (0, 0)) := by
  unfold f_X1_scanPower
  rw [isAt_ok h1 (by omega), Option.bind_some]
  by_cases c : e < L ∧ X e = 101
  · have n0 : ¬ ((if e < L ∧ X e = 101 then (1 : Int32) else 0) = 0) := fun h => ite_eq0.mp h c
    rw [if_neg n0, nI_1, isAt_ok h1 (by omega), Option.bind_some]
    have e2 : nI e + 2 = nI (e + 2) := nI_add e 2
    by_cases c2 : e + 1 < L ∧ X (e + 1) = 45
    · rw [if_pos c2, if_neg (by decide), e2]
      obtain ⟨en, k1, k2, k3⟩ := sp_b35 (X := X) (L := L) (st := e + 2) (l2 := 1) h1 (by omega)
      by_cases c3 : en = e + 2 ∨ e + 2 + 4 < en ∨ en ≠ L
      · right
        exact ⟨Or.inr ⟨e + 2, en, Or.inr ⟨rfl, c2⟩, c.1, c.2, k1, c3⟩, k2 c3⟩
      · left
        have hen : en = L := by omega
        have := k1.1
        refine ⟨_, ⟨e + 2, Or.inr ⟨rfl, c2, rfl⟩, c.1, c.2, hen ▸ k1, by omega, by omega⟩, ?_⟩
        rw [k3 c3, if_neg (by decide)]
    · rw [if_neg c2, if_pos rfl]
      obtain ⟨en, k1, k2, k3⟩ := sp_b35 (X := X) (L := L) (st := e + 1) (l2 := 0) h1 (by omega)
      by_cases c3 : en = e + 1 ∨ e + 1 + 4 < en ∨ en ≠ L
      · right
        exact ⟨Or.inr ⟨e + 1, en, Or.inl ⟨rfl, c2⟩, c.1, c.2, k1, c3⟩, k2 c3⟩
      · left
        have hen : en = L := by omega
        have := k1.1
        refine ⟨_, ⟨e + 1, Or.inl ⟨rfl, c2, rfl⟩, c.1, c.2, hen ▸ k1, by omega, by omega⟩, ?_⟩
        rw [k3 c3, if_pos rfl]
  · rw [if_pos (ite_eq0.mpr c)]
    exact Or.inr ⟨Or.inl c, rfl⟩
