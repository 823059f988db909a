theorem WV_split (F : Nat → Nat) (j : Nat) : ∀ k, WV F (j + k) = WV F j + BB ^ j * WV (fun i => F (j + i)) k
  | 0 => by simp [WV]
  | k + 1 => by
    rw [show j + (k + 1) = (j + k) + 1 from rfl, WV_s, WV_s, WV_split F j k, Nat.mul_add, Nat.pow_add, Nat.add_assoc]
    rw [show F (j + k) * (BB ^ j * BB ^ k) = BB ^ j * (F (j + k) * BB ^ k) by rw [← Nat.mul_assoc, ← Nat.mul_assoc, Nat.mul_comm (F (j + k))]]
theorem WV_div {F : Nat → Nat} {u j : Nat} (hF : ∀ i, i < u → F i < BB) (hj : j ≤ u) : WV F u / BB ^ j = WV (fun i => F (j + i)) (u - j) := by
  have h := WV_split F j (u - j)
  rw [show j + (u - j) = u by omega] at h
  have h2 := WV_lt (F := F) j (fun i hi => hF i (by omega))
  rw [h, Nat.add_comm, Nat.mul_add_div (Nat.pow_pos (by decide)), Nat.div_eq_of_lt h2, Nat.add_zero]
theorem WV_top {F : Nat → Nat} {u j : Nat} (hF : ∀ i, i < u → F i < BB) (hj : j < u) : WV F u / BB ^ (j + 1) * BB + F j = WV F u / BB ^ j := by
  have h1 := WV_div hF (Nat.le_of_lt hj)
  have h2 := WV_split (fun i => F (j + i)) 1 (u - j - 1)
  rw [show 1 + (u - j - 1) = u - j by omega] at h2
  have e1 : WV (fun i => F (j + i)) 1 = F j := by simp [WV]
  rw [e1, Nat.pow_one] at h2
  have h3 : WV F u / BB ^ j % BB = F j := by rw [h1, h2, Nat.add_comm, Nat.mul_add_mod, Nat.mod_eq_of_lt (hF j hj)]
  rw [Nat.pow_succ, ← Nat.div_div_eq_div_mul]
  have := Nat.div_add_mod (WV F u / BB ^ j) BB
  rw [h3, Nat.mul_comm] at this
  exact this
theorem BB_ten9 (k : Nat) : BB ^ k = 10 ^ (9 * k) := by rw [Nat.pow_mul]
theorem KK_ten : KK = 10 ^ 1125 := BB_ten9 125
/-- the value c * 2^Q, in units of 10^-1125 -/
def VAL (c : Nat) (Q : Int) : Nat := 2 ^ Q.toNat * (c * KK) / 2 ^ (-Q).toNat
def RO (r c : Nat) (Q : Int) (d n pw : Nat → Int32) (o : Option ((Int32) × (Nat → Int32) × (Nat → Int32) × (Nat → Int32) × (Nat → Int64))) : Prop :=
  ∃ us' d' n' pw' f' E m P, o = some (us', d', n', pw', f') ∧ RW r d' n' pw' (VAL c Q) E m P ∧ NZ (VAL c Q) E m ∧ P.toInt = (E : Int) - 1125 ∧ (E ≤ 2500 ∧ (VAL c Q = 0 → E ≤ 1125)) ∧ Only r d n pw d' n' pw'
theorem VAL_pos {c Q : Nat} : VAL c (Q : Int) = c * 2 ^ Q * 10 ^ 1125 := by
  unfold VAL
  rw [show (Q : Int).toNat = Q by omega, show (-(Q : Int)).toNat = 0 by omega, Nat.pow_zero, Nat.div_one, KK_ten, ← Nat.mul_assoc, Nat.mul_comm (2 ^ Q)]
theorem VAL_neg {c K : Nat} (h : K ≤ 1125) : VAL c (-(K : Int)) = c * 5 ^ K * 10 ^ (1125 - K) := by
  unfold VAL
  rw [show (-(K : Int)).toNat = 0 by omega, show (-(-(K : Int))).toNat = K by omega, Nat.pow_zero, Nat.one_mul, KK_ten]
  have e : 10 ^ 1125 = 5 ^ K * 2 ^ K * 10 ^ (1125 - K) := by
    rw [← Nat.mul_pow, show 5 * 2 = 10 from rfl, ← Nat.pow_add]
    congr 1
    omega
  rw [e]
  refine Nat.div_eq_of_eq_mul_left (Nat.pow_pos (by decide)) ?_
  rw [Nat.mul_assoc, Nat.mul_assoc, Nat.mul_assoc, Nat.mul_comm (2 ^ K)]
theorem row_L166 : ∀ (fu : Nat) (l3 l4 l5 us : Int32) (d n pw : Nat → Int32) (f : Nat → Int64) (F : Nat → Nat) (r u j z c : Nat) (s3 : Int32), l4 = nI r → r ≤ 5600 → l5.toInt = (j : Int) - 1 → j ≤ u → u ≤ 110 → LW f F u → RB r d n (WV F u / BB ^ j) (9 * (u - j)) → s3 = (if 0 ≤ l3 then 0 else l3) → s3.toInt = (z : Int) - 1125 → z ≤ 1125 → WV F u * 10 ^ z = VAL c l3.toInt → j < fu →
    RO r c l3.toInt d n pw (f_X2_row_L166 fu l3 l4 l5 us d n pw f) := by
  intro fu
  induction fu with
  | zero => intro l3 l4 l5 us d n pw f F r u j z c s3 h1 h2 h3 h4 h5 h6 h7 h8 h9 h10 h11 h12; omega
  | succ fu ih =>
    intro l3 l4 l5 us d n pw f F r u j z c s3 h1 h2 h3 h4 h5 h6 h7 h8 h9 h10 h11 h12
    have hF : ∀ i, i < u → F i < BB := fun i hi => (h6 i hi).2
    unfold f_X2_row_L166
    by_cases c1 : j = 0
    · subst c1
      have hl : l5 < 0 := by rw [i_lt, lit_0]; omega
      have hin : ¬ (nI r < 0 ∨ 7000 ≤ (nI r).toNatClampNeg) := nI_in (by omega) (by decide)
      rw [if_pos hl, h1, if_neg hin]
      rw [Nat.pow_zero, Nat.div_one, Nat.sub_zero] at h7
      have hb : (if 0 ≤ l3 then f_X2_row_b243 (nI r) (nI r) (n (nI r).toNatClampNeg) 0 us d n pw f else f_X2_row_b243 (nI r) (nI r) (n (nI r).toNatClampNeg) l3 us d n pw f) = f_X2_row_b243 (nI r) (nI r) (nI (9 * u)) s3 us d n pw f := by
        rw [nI_clamp (show r < 2 ^ 31 by omega), h7.1, h8]
        by_cases c2 : 0 ≤ l3
        · rw [if_pos c2, if_pos c2]
        · rw [if_neg c2, if_neg c2]
      rw [hb]
      unfold f_X2_row_b243
      rw [if_neg hin, nI_clamp (show r < 2 ^ 31 by omega)]
      have hL : WV F u < 10 ^ (9 * u) := by rw [← BB_ten9]; exact WV_lt u hF
      have hR := RB_RW (pw := upd pw r (nI (9 * u) + s3)) h7 hL (by clear hL h11; omega)
      rw [pk_us] at hR
      obtain ⟨d', n', pw', m', b', e1, e2, e3, e4, e5⟩ := trim2_ok rfl h2 (rw_scale hR z)
      rw [e1, Option.bind_some]
      have t1 : (nI (9 * u) + s3).toInt = (9 * u : Int) + s3.toInt := by
        rw [i_add (by rw [nI_toInt (by clear hL h11; omega)]; clear hL h11; omega) (by rw [nI_toInt (by clear hL h11; omega)]; clear hL h11; omega), nI_toInt (by clear hL h11; omega)]
        clear hL h11; omega
      have e6 := e5.1
      have e7 : VAL c l3.toInt = 0 → 9 * u + z - b' ≤ 1125 := fun hv => by
        have := e5.2 (h11.trans hv)
        clear hL h11 e5 hv; omega
      clear e5
      refine ⟨us, d', n', pw', f, 9 * u + z - b', m', _, rfl, h11 ▸ e2, h11 ▸ e3, ?_, ⟨by clear hL h11; omega, e7⟩, fun j hj => e4.1 j hj, fun j hj => ⟨(e4.2 j hj).1, (e4.2 j hj).2.trans (pk_un hj)⟩⟩
      rw [i_sub (by rw [t1, nI_toInt (by clear hL h11; omega)]; clear hL h11; omega) (by rw [t1, nI_toInt (by clear hL h11; omega)]; clear hL h11; omega), t1, nI_toInt (by clear hL h11; omega)]
      clear hL h11; omega
    · obtain ⟨i, rfl⟩ : ∃ i, j = i + 1 := ⟨j - 1, by omega⟩
      have hl : l5 = nI i := nI_of_toInt (by rw [h3]; omega) (by omega)
      subst hl
      rw [if_neg (nI_pos (by omega))]
      obtain ⟨d', n', e1, e2, e3, e4⟩ := row_L176 (f_X2_row_L166 fu) FU l3 l4 (nI i) 100000000 us d n pw f r i (F i) (WV F u / BB ^ (i + 1)) (9 * (u - (i + 1))) 9 h1 h2 rfl (by omega) (h6 i (by omega)).1 (hF i (by omega)) (Nat.le_refl _) rfl (by
        rw [Nat.sub_self, Nat.pow_zero, Nat.mul_one, Nat.div_eq_of_lt (Nat.lt_of_lt_of_le (hF i (by omega)) (by decide)), Nat.add_zero]
        exact h7) (by omega) (by unfold FU; omega)
      rw [e1]
      have hA : WV F u / BB ^ (i + 1) * 10 ^ 9 + F i = WV F u / BB ^ i := WV_top hF (by omega)
      rw [hA, show 9 * (u - (i + 1)) + 9 = 9 * (u - i) by omega] at e2
      have := ih l3 l4 (nI i + (-1)) us d' n' pw f F r u i z c s3 h1 h2 (by rw [i_m1 (by rw [nI_toInt (by omega)]; omega), nI_toInt (by omega)]) (by omega) h5 h6 e2 h8 h9 h10 h11 (by omega)
      obtain ⟨us', d2, n2, pw2, f2, E, m, P, g1, g2, g3, g4, g5, g6⟩ := this
      exact ⟨us', d2, n2, pw2, f2, E, m, P, g1, g2, g3, g4, g5, fun t ht => (g6.1 t ht).trans (e3 t ht), fun t ht => ⟨(g6.2 t ht).1.trans (e4 t ht), (g6.2 t ht).2⟩⟩
/-- the digits, once the limbs stand -/
theorem row_fin {l3 l4 us : Int32} {d n pw : Nat → Int32} {f : Nat → Int64} {F : Nat → Nat} {r u z c : Nat} {s3 : Int32} (h1 : l4 = nI r) (h2 : r ≤ 5600) (h3 : us = nI u) (h5 : u ≤ 110) (h6 : LW f F u) (h8 : s3 = (if 0 ≤ l3 then 0 else l3)) (h9 : s3.toInt = (z : Int) - 1125) (h10 : z ≤ 1125) (h11 : WV F u * 10 ^ z = VAL c l3.toInt) :
    RO r c l3.toInt d n pw (if l4 < 0 ∨ 7000 ≤ Int32.toNatClampNeg l4 then none else f_X2_row_L166 FU l3 l4 (us - 1) us d (upd n (Int32.toNatClampNeg l4) 0) pw f) := by
  have hin : ¬ (nI r < 0 ∨ 7000 ≤ (nI r).toNatClampNeg) := nI_in (by omega) (by decide)
  rw [h1, if_neg hin, nI_clamp (show r < 2 ^ 31 by omega)]
  have hF : ∀ i, i < u → F i < BB := fun i hi => (h6 i hi).2
  obtain ⟨us', d2, n2, pw2, f2, E, m, P, g1, g2, g3, g4, g5, g6⟩ := row_L166 FU l3 (nI r) (us - 1) us d (upd n r 0) pw f F r u u z c s3 rfl h2 (by rw [h3, i_s1 (by rw [nI_toInt (by omega)]; omega), nI_toInt (by omega)]) (Nat.le_refl _) h5 h6 (by
    rw [Nat.sub_self]
    exact ⟨pk_us, fun t ht => by omega⟩) h8 h9 h10 h11 (by unfold FU; omega)
  exact ⟨us', d2, n2, pw2, f2, E, m, P, g1, g2, g3, g4, g5, g6.1, fun t ht => ⟨(g6.2 t ht).1.trans (pk_un ht), (g6.2 t ht).2⟩⟩
/-- below 0: times 5 -/
theorem row_L119n : ∀ (fu : Nat) (l3 l4 l5 us : Int32) (d n pw : Nat → Int32) (f : Nat → Int64) (F : Nat → Nat) (r u j c K : Nat), l4 = nI r → r ≤ 5600 → l3.toInt = -(K : Int) → 0 < K → K ≤ 1080 → l5 = nI j → j ≤ K % 12 → us = nI u → u + (K % 12 - j) ≤ 110 → LW f F u → WV F u = c * 5 ^ (12 * (K / 12) + j) → K % 12 < j + fu →
    RO r c l3.toInt d n pw (f_X2_row_L119 fu l3 l4 l5 us d n pw f) := by
  intro fu
  induction fu with
  | zero => intro l3 l4 l5 us d n pw f F r u j c K h1 h2 h3 h4 h5 h6 h7 h8 h9 h10 h11 h12; omega
  | succ fu ih =>
    intro l3 l4 l5 us d n pw f F r u j c K h1 h2 h3 h4 h5 h6 h7 h8 h9 h10 h11 h12
    have hneg : -l3 = nI K := nI_of_toInt (by rw [i_neg (by omega)]; omega) (by omega)
    have h12' : (12 : Int32) = nI 12 := rfl
    have hl : ¬ (0 : Int32) ≤ l3 := by rw [i_le, lit_0]; omega
    unfold f_X2_row_L119
    rw [if_neg hl, hneg, h12', pk_rem (by omega) (by decide) (by decide), h6]
    have le : nI (K % 12) ≤ nI j ↔ K % 12 ≤ j := nI_leI (by omega) (by omega)
    by_cases c1 : K % 12 ≤ j
    · rw [if_pos (le.mpr c1)]
      refine row_fin (s3 := l3) (z := 1125 - K) h1 h2 h8 (by omega) h10 (by rw [if_neg hl]) (by rw [h3]; omega) (by omega) ?_
      rw [h3, VAL_neg (by omega), h11, show 12 * (K / 12) + j = K by omega]
    · rw [if_neg (fun h => c1 (le.mp h))]
      obtain ⟨u', f', G', e1, e2, e3, e4⟩ := times_ok (l1 := 5) (B := 5) rfl (by decide) (by decide) h8 (by omega) h10
      rw [e1, Option.bind_some, nI_1]
      refine ih l3 l4 (nI (j + 1)) (nI u') d n pw f' G' r u' (j + 1) c K h1 h2 h3 h4 h5 rfl (by omega) rfl (by omega) e2 ?_ (by omega)
      rw [e3, h11, ← Nat.add_assoc, Nat.pow_succ, Nat.mul_comm 5, Nat.mul_assoc]
theorem row_L93n : ∀ (fu : Nat) (l3 l4 l5 us : Int32) (d n pw : Nat → Int32) (f : Nat → Int64) (F : Nat → Nat) (r u j c K : Nat), l4 = nI r → r ≤ 5600 → l3.toInt = -(K : Int) → 0 < K → K ≤ 1080 → l5 = nI j → j ≤ K / 12 → us = nI u → u + (K / 12 - j) ≤ 98 → LW f F u → WV F u = c * 5 ^ (12 * j) → K / 12 < j + fu →
    RO r c l3.toInt d n pw (f_X2_row_L93 fu l3 l4 l5 us d n pw f) := by
  intro fu
  induction fu with
  | zero => intro l3 l4 l5 us d n pw f F r u j c K h1 h2 h3 h4 h5 h6 h7 h8 h9 h10 h11 h12; omega
  | succ fu ih =>
    intro l3 l4 l5 us d n pw f F r u j c K h1 h2 h3 h4 h5 h6 h7 h8 h9 h10 h11 h12
    have hneg : -l3 = nI K := nI_of_toInt (by rw [i_neg (by omega)]; omega) (by omega)
    have h12' : (12 : Int32) = nI 12 := rfl
    unfold f_X2_row_L93
    rw [hneg, h12', pk_div (by omega) (by decide) (by decide), h6]
    have le : nI (K / 12) ≤ nI j ↔ K / 12 ≤ j := nI_leI (by omega) (by omega)
    by_cases c1 : K / 12 ≤ j
    · rw [if_pos (le.mpr c1)]
      exact row_L119n FU l3 l4 0 us d n pw f F r u 0 c K h1 h2 h3 h4 h5 rfl (Nat.zero_le _) h8 (by omega) h10 (by rw [h11, show j = K / 12 by omega, Nat.add_zero]) (by unfold FU; omega)
    · rw [if_neg (fun h => c1 (le.mp h))]
      obtain ⟨u', f', G', e1, e2, e3, e4⟩ := times_ok (l1 := 244140625) (B := 244140625) rfl (by decide) (by decide) h8 (by omega) h10
      rw [e1, Option.bind_some, nI_1]
      refine ih l3 l4 (nI (j + 1)) (nI u') d n pw f' G' r u' (j + 1) c K h1 h2 h3 h4 h5 rfl (by omega) rfl (by omega) e2 ?_ (by omega)
      rw [e3, h11, Nat.mul_add, Nat.pow_add 5 (12 * j), show (5 : Nat) ^ (12 * 1) = 244140625 from rfl, Nat.mul_comm 244140625, Nat.mul_assoc]
/-- from 0 up: times 2 -/
theorem row_L93p {l3 l4 us : Int32} {d n pw : Nat → Int32} {f : Nat → Int64} {F : Nat → Nat} {r u c Q : Nat} (h1 : l4 = nI r) (h2 : r ≤ 5600) (h3 : l3 = nI Q) (hQ : Q ≤ 1080) (h8 : us = nI u) (h9 : u ≤ 98) (h10 : LW f F u) (h11 : WV F u = c * 2 ^ Q) :
    RO r c l3.toInt d n pw (f_X2_row_L93 FU l3 l4 0 us d n pw f) := by
  obtain ⟨fu, hfu⟩ : ∃ fu, FU = fu + 1 := ⟨FU - 1, by unfold FU; rfl⟩
  have t : l3.toInt = (Q : Int) := by rw [h3]; exact nI_toInt (by omega)
  have tn : (-l3).toInt = -(Q : Int) := by rw [i_neg (by omega), t]
  have hl : (0 : Int32) ≤ l3 := by rw [i_le, lit_0]; omega
  have hd : (-l3) / 12 ≤ 0 := by
    have e12 : (12 : Int32).toInt = 12 := rfl
    rw [i_le, i_div (by rw [e12]; omega), e12, tn, lit_0, Int.neg_tdiv]
    have : 0 ≤ Int.tdiv (Q : Int) 12 := Int.tdiv_nonneg (by omega) (by omega)
    omega
  have fin := row_fin (d := d) (n := n) (pw := pw) (l3 := l3) (s3 := 0) (z := 1125) (c := c) h1 h2 h8 (by omega) h10 (by rw [if_pos hl]) (by rw [lit_0]; omega) (Nat.le_refl _) (by rw [t, VAL_pos, h11])
  rw [hfu]
  unfold f_X2_row_L93
  rw [if_pos hd]
  rw [hfu]
  unfold f_X2_row_L119
  rw [if_pos hl, if_pos (by decide)]
  exact fin
theorem row_L54p : ∀ (fu : Nat) (l3 l4 l5 us : Int32) (d n pw : Nat → Int32) (f : Nat → Int64) (F : Nat → Nat) (r u j c Q : Nat), l4 = nI r → r ≤ 5600 → l3 = nI Q → Q ≤ 1080 → l5 = nI j → j ≤ Q / 29 → us = nI u → u + (Q / 29 - j) ≤ 90 → LW f F u → WV F u = c * 2 ^ (29 * j) → Q / 29 < j + fu →
    RO r c l3.toInt d n pw (f_X2_row_L54 fu l3 l4 l5 us d n pw f) := by
  intro fu
  induction fu with
  | zero => intro l3 l4 l5 us d n pw f F r u j c Q h1 h2 h3 h5 h6 h7 h8 h9 h10 h11 h12; omega
  | succ fu ih =>
    intro l3 l4 l5 us d n pw f F r u j c Q h1 h2 h3 h5 h6 h7 h8 h9 h10 h11 h12
    have h29 : (29 : Int32) = nI 29 := rfl
    unfold f_X2_row_L54
    rw [show l3 / 29 = nI (Q / 29) by rw [h3, h29]; exact pk_div (by omega) (by decide) (by decide), h6]
    have le : nI (Q / 29) ≤ nI j ↔ Q / 29 ≤ j := nI_leI (by omega) (by omega)
    by_cases c1 : Q / 29 ≤ j
    · rw [if_pos (le.mpr c1)]
      have hj : j = Q / 29 := by omega
      by_cases c2 : Q = 0
      · rw [if_pos (by rw [h3, c2]; decide)]
        exact row_L93p h1 h2 h3 h5 h8 (by omega) h10 (by rw [h11, hj, c2])
      · rw [if_neg (by rw [h3]; exact nI_nle (by omega) (by omega))]
        have hm : nI (Q / 29) * 29 = nI (Q / 29 * 29) := pk_mul _ 29
        have hs : l3 - nI (Q / 29) * 29 = nI (Q % 29) := by
          rw [h3, hm, pk_sub (by omega)]
          congr 1
          omega
        have h1s : (1 : Int64) <<< (Int32.toInt64 (nI (Q % 29)) &&& 63) = lN (1 * 2 ^ (Q % 29)) := wb_shl 1 (by omega)
        rw [hs, h1s, Nat.one_mul]
        have hp : 2 ^ (Q % 29) ≤ 2 ^ 29 := Nat.pow_le_pow_right (by decide) (by omega)
        obtain ⟨u', f', G', e1, e2, e3, e4⟩ := times_ok (l1 := lN (2 ^ (Q % 29))) (B := 2 ^ (Q % 29)) rfl (Nat.le_trans hp (by decide)) (Nat.pow_pos (by decide)) h8 (by clear hp h1s; omega) h10
        rw [e1, Option.bind_some]
        refine row_L93p h1 h2 h3 h5 rfl (by clear hp h1s; omega) e2 ?_
        rw [e3, h11, hj, Nat.mul_comm, Nat.mul_assoc, ← Nat.pow_add, Nat.div_add_mod]
    · rw [if_neg (fun h => c1 (le.mp h))]
      obtain ⟨u', f', G', e1, e2, e3, e4⟩ := times_ok (l1 := 536870912) (B := 536870912) rfl (by decide) (by decide) h8 (by omega) h10
      rw [e1, Option.bind_some, nI_1]
      refine ih l3 l4 (nI (j + 1)) (nI u') d n pw f' G' r u' (j + 1) c Q h1 h2 h3 h5 rfl (by omega) rfl (by omega) e2 ?_ (by omega)
      rw [e3, h11, Nat.mul_add, Nat.pow_add 2 (29 * j), show (2 : Nat) ^ (29 * 1) = 536870912 from rfl, Nat.mul_comm 536870912, Nat.mul_assoc]
theorem row_L54n {l3 l4 us : Int32} {d n pw : Nat → Int32} {f : Nat → Int64} {F : Nat → Nat} {r u c K : Nat} (h1 : l4 = nI r) (h2 : r ≤ 5600) (h3 : l3.toInt = -(K : Int)) (h4 : 0 < K) (h5 : K ≤ 1080) (h8 : us = nI u) (h9 : u ≤ 8) (h10 : LW f F u) (h11 : WV F u = c) :
    RO r c l3.toInt d n pw (f_X2_row_L54 FU l3 l4 0 us d n pw f) := by
  obtain ⟨fu, hfu⟩ : ∃ fu, FU = fu + 1 := ⟨FU - 1, by unfold FU; rfl⟩
  have hd : l3 / 29 ≤ 0 := by
    have e29 : (29 : Int32).toInt = 29 := rfl
    rw [i_le, i_div (by rw [e29]; omega), e29, h3, lit_0, Int.neg_tdiv]
    have : 0 ≤ Int.tdiv (K : Int) 29 := Int.tdiv_nonneg (by omega) (by omega)
    omega
  have hl : l3 ≤ 0 := by rw [i_le, lit_0]; omega
  have fin := row_L93n FU l3 l4 0 us d n pw f F r u 0 c K h1 h2 h3 h4 h5 rfl (Nat.zero_le _) h8 (by omega) h10 (by rw [h11, Nat.mul_zero, Nat.pow_zero, Nat.mul_one]) (by unfold FU; omega)
  rw [hfu]
  unfold f_X2_row_L54
  rw [if_pos hd, if_pos hl]
  exact fin
def XIn (F : Nat → Nat) (x u c : Nat) : Prop := WV F u + x * BB ^ u = c
theorem row_L8 : ∀ (fu : Nat) (l3 l4 : Int32) (l5 : Int64) (us : Int32) (d n pw : Nat → Int32) (f : Nat → Int64) (F : Nat → Nat) (r u c x : Nat), l4 = nI r → r ≤ 5600 → -1080 ≤ l3.toInt → l3.toInt ≤ 1080 → l5 = lN x → x < BB ^ (3 - u) → x < 2 ^ 63 → us = nI u → u ≤ 3 → LW f F u → XIn F x u c → 3 < u + fu →
    RO r c l3.toInt d n pw (f_X2_row_L8 fu l3 l4 l5 us d n pw f) := by
  intro fu
  induction fu with
  | zero => intro l3 l4 l5 us d n pw f F r u c x h1 h2 h3 h4 h5 h6 h6' h7 h8 h9 h10 h11; omega
  | succ fu ih =>
    intro l3 l4 l5 us d n pw f F r u c x h1 h2 h3 h4 h5 h6 h6' h7 h8 h9 h10 h11
    subst h5
    unfold f_X2_row_L8
    have hc : lg_cmp (lN x) 0 ≤ 0 ↔ x = 0 := by
      rw [cmp_le, l_N h6']
      have : (0 : Int64).toInt = 0 := rfl
      omega
    by_cases c1 : x = 0
    · rw [if_pos (hc.mpr c1)]
      have hW : WV F u = c := by
        unfold XIn at h10
        rw [c1, Nat.zero_mul, Nat.add_zero] at h10
        exact h10
      by_cases c2 : 0 ≤ l3.toInt
      · exact row_L54p FU l3 l4 0 us d n pw f F r u 0 c l3.toInt.toNat h1 h2 (nI_of_toInt (by clear h6; omega) (by clear h6; omega)) (by clear h6; omega) rfl (Nat.zero_le _) h7 (by clear h6; omega) h9 (by rw [hW, Nat.mul_zero, Nat.pow_zero, Nat.mul_one]) (by unfold FU; clear h6; omega)
      · exact row_L54n (K := (-l3.toInt).toNat) h1 h2 (by clear h6; omega) (by clear h6; omega) (by clear h6; omega) h7 (by clear h6; omega) h9 hW
    · rw [if_neg (fun h => c1 (hc.mp h)), h7, if_neg (nI_in (by clear h6; omega) (by decide)), nI_clamp (by clear h6; omega), nI_1, B_lN, pk_lRem h6' (by decide) (by decide), pk_lDiv h6' (by decide) (by decide)]
      have hu : u < 3 := by
        rcases Nat.lt_or_ge u 3 with g | g
        · exact g
        · rw [show 3 - u = 0 by omega, Nat.pow_zero] at h6
          omega
      refine ih l3 l4 _ _ d n pw _ (upN F u (x % BB)) r (u + 1) c (x / BB) h1 h2 h3 h4 rfl ?_ (Nat.lt_of_le_of_lt (Nat.div_le_self _ _) h6') rfl hu (LW_ext h9 (Nat.mod_lt _ (by decide))) ?_ (by clear h6; omega)
      · rw [Nat.div_lt_iff_lt_mul (by decide), ← Nat.pow_succ, show (3 - (u + 1)).succ = 3 - u by omega]
        exact h6
      · unfold XIn at *
        rw [WV_s, upN_self, WV_congr (F := upN F u (x % BB)) (G := F) u (fun j hj => upN_ne (by omega)), Nat.pow_succ, Nat.add_assoc, mul_split]
        exact h10
theorem row_ok {l1 : Int64} {l3 l4 us : Int32} {d n pw : Nat → Int32} {f : Nat → Int64} {r c : Nat} (h1 : l1 = lN c) (hc : c < 2 ^ 63) (h2 : l4 = nI r) (h3 : r ≤ 5600) (h4 : -1080 ≤ l3.toInt) (h5 : l3.toInt ≤ 1080) :
    RO r c l3.toInt d n pw (f_X2_row l1 l3 l4 us d n pw f) := by
  unfold f_X2_row
  exact row_L8 FU l3 l4 l1 0 d n pw f (fun _ => 0) r 0 c c h2 h3 h4 h5 h1 (Nat.lt_of_lt_of_le hc (by decide)) hc rfl (by omega) (fun j hj => by omega) (by unfold XIn; simp [WV]) (by unfold FU; omega)
