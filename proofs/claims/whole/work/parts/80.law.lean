/-! every call of the law: the class and the reference go together -/
theorem add2 {v th : Int32} {S : Nat} {X : Nat → Int32} {out : Nat → Int64} (hS : S ≤ 400) :
    ∃ r out' S' X' rr, f_L_add v (nI S) X out = some (r, out', nI S', X') ∧ f_X2_add v th (nI S) X = some (rr, r, nI S', X') ∧ S' ≤ 400 ∧ (r = 0 → out' 0 = Int32.toInt64 rr) := by
  unfold f_L_add f_X1_add f_X2_add f_X2_add_b12 f_X2_add_b31
  by_cases c1 : v < 0
  · rw [if_pos c1, if_pos c1]
    exact ⟨1, out, S, X, 0, rfl, rfl, hS, fun g => absurd g (by decide)⟩
  rw [if_neg c1, if_neg c1]
  by_cases c2 : v ≤ 255
  · rw [if_pos c2, if_pos c2]
    have lt : nI S < 400 ↔ S < 400 := nI_ltI (b := 400) (by omega) (by decide)
    have eq : nI S = 400 ↔ S = 400 := nI_eq (b := 400) (by omega) (by decide)
    by_cases c3 : S < 400
    · have hin : ¬ (nI S < 0 ∨ 400 ≤ (nI S).toNatClampNeg) := nI_in (by omega) (by decide)
      rw [if_pos (lt.mpr c3), if_neg (fun g => by have := eq.mp g; omega), (put_ok c3).1, Option.bind_some, if_pos rfl, if_neg hin, nI_1, nI_clamp (by omega)]
      exact ⟨0, _, S + 1, _, _, rfl, rfl, by omega, fun _ => upL_self⟩
    · rw [if_neg (fun g => c3 (lt.mp g)), if_pos (eq.mpr (by omega))]
      exact ⟨2, out, S, X, 0, rfl, rfl, hS, fun g => absurd g (by decide)⟩
  · rw [if_neg c2, if_neg c2]
    exact ⟨1, out, S, X, 0, rfl, rfl, hS, fun g => absurd g (by decide)⟩
theorem letter2 {v th : Int32} {S : Nat} {X : Nat → Int32} {out : Nat → Int64} (hS : S ≤ 400) :
    ∃ r out' rr, f_L_letter v (nI S) X out = some (r, out') ∧ f_X2_letter v th (nI S) X = some (rr, r) ∧ (r = 0 → out' 0 = Int32.toInt64 rr) := by
  unfold f_L_letter f_X1_letter f_X2_letter f_X2_letter_b13 f_X2_letter_b18
  by_cases c1 : v < 0
  · rw [if_pos c1, if_pos c1]
    exact ⟨1, out, 0, rfl, rfl, fun g => absurd g (by decide)⟩
  rw [if_neg c1, if_neg c1]
  by_cases c2 : v < nI S
  · have hin : ¬ (v < 0 ∨ 400 ≤ v.toNatClampNeg) := i_in (N := 400) (by rw [i_lt, lit_0] at c1; omega) (by rw [i_lt, nI_toInt (by omega)] at c2; omega)
    rw [if_pos c2, if_pos c2, if_neg hin, if_pos rfl, if_neg hin]
    exact ⟨0, _, _, rfl, rfl, fun _ => upL_self⟩
  · rw [if_neg c2, if_neg c2]
    exact ⟨1, out, 0, rfl, rfl, fun g => absurd g (by decide)⟩
theorem read2 {X : Nat → Int32} {S : Nat} {ds de ua tp a b a2 b2 th us at' : Int32} {g g2 : Nat → Int64} {F G2 : Nat → Nat} {d n pw : Nat → Int32} {fl out : Nat → Int64} (h1 : S ≤ 400) (h6 : DD a b g F) (h7 : DD a2 b2 g2 G2) :
    ∃ r out' ds' de' ua' tp' a' b' f' F' a3 b3 f3 F3 rr us' at2 d' n' pw' fl', f_L_read (nI S) ds de ua tp X a b g a2 b2 g2 out = some (r, out', ds', de', ua', tp', a', b', f', a3, b3, f3) ∧ DD a' b' f' F' ∧ DD a3 b3 f3 F3 ∧ f_X2_read th (nI S) us at' X d n pw fl = some (rr, r, us', at2, d', n', pw', fl') ∧ (r = 0 → out' 0 = rr) := by
  unfold f_L_read
  rcases read_eq (ds := ds) (de := de) (ua := ua) (tp := tp) (X := X) (th := th) (us := us) (at' := at') (d := d) (n := n) (pw := pw) (fl := fl) h1 h6 h7 with ⟨ds', de', ua', tp', us2, at2, d2, n2, pw2, fl2, e1, e2⟩ | ⟨v, ds', de', ua', tp', a', b', f', F', a3, b3, f3, F3, us2, at2, d2, n2, pw2, fl2, e1, e2, e3, e4⟩
  · rw [e1, e2]
    exact ⟨1, out, ds', de', ua', tp', a, b, g, F, a2, b2, g2, G2, 0, us2, at2, d2, n2, pw2, fl2, rfl, h6, h7, rfl, fun g => absurd g (by decide)⟩
  · rw [e1, e4]
    exact ⟨0, _, ds', de', ua', tp', a', b', f', F', a3, b3, f3, F3, v, us2, at2, d2, n2, pw2, fl2, rfl, e2, e3, rfl, fun _ => upL_self⟩
theorem print2 {w : Int64} {l3 : Int32} {X : Nat → Int32} {S : Nat} {a b a2 b2 th us : Int32} {g g2 : Nat → Int64} {F G2 : Nat → Nat} {d n pw : Nat → Int32} {fl out : Nat → Int64} (hS : S ≤ 400) (h6 : DD a b g F) (h7 : DD a2 b2 g2 G2) :
    ∃ r out' S' X' a' b' f' F' a3 b3 f3 F3 rr us' d' n' pw' fl', f_L_print w l3 (nI S) X a b g a2 b2 g2 out = some (r, out', nI S', X', a', b', f', a3, b3, f3) ∧ DD a' b' f' F' ∧ DD a3 b3 f3 F3 ∧ f_X2_print w l3 th (nI S) us X d n pw fl = some (rr, r, nI S', us', X', d', n', pw', fl') ∧ S' ≤ 400 ∧ (r = 0 → out' 0 = Int32.toInt64 rr) := by
  unfold f_L_print
  rcases print_eq (w := w) (l3 := l3) (L := S) (X := X) (th := th) (us := us) (d := d) (n := n) (pw := pw) (fl := fl) h6 h7 with ⟨k, hk, e1, e2⟩ | ⟨L', X', a', b', f', F', a3, b3, f3, F3, us2, d2, n2, pw2, fl2, e0, e1, e2, e3, e4⟩
  · rw [e1, e2]
    rcases hk with hk | hk
    · subst hk
      exact ⟨1, out, S, X, a, b, g, F, a2, b2, g2, G2, 0, us, d, n, pw, fl, rfl, h6, h7, rfl, hS, fun g => absurd g (by decide)⟩
    · subst hk
      exact ⟨2, out, S, X, a, b, g, F, a2, b2, g2, G2, 0, us, d, n, pw, fl, rfl, h6, h7, rfl, hS, fun g => absurd g (by decide)⟩
  · rw [e1, e4]
    exact ⟨0, _, L', X', a', b', f', F', a3, b3, f3, F3, nI L', us2, d2, n2, pw2, fl2, rfl, e2, e3, rfl, e0, fun _ => upL_self⟩
theorem shortest2 {w : Int64} {X : Nat → Int32} {S : Nat} {a b a2 b2 a3 b3 a4 b4 th us : Int32} {g g2 g3 g4 : Nat → Int64} {F F2 F3 F4 : Nat → Nat} {d n pw : Nat → Int32} {fl out : Nat → Int64} (hS : S ≤ 400) (h1 : DD a b g F) (h2 : DD a2 b2 g2 F2) (h3 : DD a3 b3 g3 F3) (h4 : DD a4 b4 g4 F4) :
    ∃ r out' S' X' a' b' f' F' a2' b2' f2' F2' a3' b3' f3' F3' a4' b4' f4' F4' rr us' d' n' pw' fl', f_L_shortest w (nI S) X a b g a2 b2 g2 a3 b3 g3 a4 b4 g4 out = some (r, out', nI S', X', a', b', f', a2', b2', f2', a3', b3', f3', a4', b4', f4') ∧ DD a' b' f' F' ∧ DD a2' b2' f2' F2' ∧ DD a3' b3' f3' F3' ∧ DD a4' b4' f4' F4' ∧ f_X2_shortest w th (nI S) us X d n pw fl = some (rr, r, nI S', us', X', d', n', pw', fl') ∧ S' ≤ 400 ∧ (r = 0 → out' 0 = Int32.toInt64 rr) := by
  unfold f_L_shortest
  rcases shortest_eq (w := w) (L := S) (X := X) (th := th) (us := us) (d := d) (n := n) (pw := pw) (fl := fl) h1 h2 h3 h4 with ⟨e1, e2⟩ | ⟨L', X', a', b', f', F', a2', b2', f2', F2', a3', b3', f3', F3', a4', b4', f4', F4', us2, d2, n2, pw2, fl2, e0, e1, e2, e3, e4, e5, e6⟩
  · rw [e1, e2]
    exact ⟨1, out, S, X, a, b, g, F, a2, b2, g2, F2, a3, b3, g3, F3, a4, b4, g4, F4, 0, us, d, n, pw, fl, rfl, h1, h2, h3, h4, rfl, hS, fun g => absurd g (by decide)⟩
  · rw [e1, e6]
    exact ⟨0, _, L', X', a', b', f', F', a2', b2', f2', F2', a3', b3', f3', F3', a4', b4', f4', F4', nI L', us2, d2, n2, pw2, fl2, rfl, e2, e3, e4, e5, rfl, e0, fun _ => upL_self⟩
theorem law_fin {A : Option Int32} {r : Int32} {o x : Int64} (h : r = 0 → o = x) (hA : A = some 1) : ((f_X2_thrown r).bind fun r1 => (if r1 = r then (if r = 0 then (if lg_cmp o x = 0 then A else some 0) else A) else some 0)) = some 1 := by
  unfold f_X2_thrown
  rw [Option.bind_some, if_pos rfl, hA]
  by_cases c : r = 0
  · rw [if_pos c, if_pos (cmp_eq.mpr (h c))]
  · rw [if_neg c]
theorem law_ind (L : Nat) (xs : Nat → Int32) (hL : L ≤ 2048) : ∀ (n k S : Nat) (ds de ua tp : Int32) (X : Nat → Int32) (a b : Int32) (f : Nat → Int64) (a2 b2 : Int32) (f2 : Nat → Int64) (a3 b3 : Int32) (f3 : Nat → Int64) (a4 b4 : Int32) (f4 : Nat → Int64) (th us at' : Int32) (d nn pw : Nat → Int32) (fl out : Nat → Int64) (F F2 F3 F4 : Nat → Nat),
    DD a b f F → DD a2 b2 f2 F2 → DD a3 b3 f3 F3 → DD a4 b4 f4 F4 → S ≤ 400 → 4 * k ≤ L → L < 4 * k + 4 * n →
    f_law L xs n (nI (4 * k)) (nI S) ds de ua tp X a b f a2 b2 f2 a3 b3 f3 a4 b4 f4 th (nI S) us at' X d nn pw fl out = some 1 := by
  intro n
  induction n with
  | zero => intro k S ds de ua tp X a b f a2 b2 f2 a3 b3 f3 a4 b4 f4 th us at' d nn pw fl out F F2 F3 F4 h1 h2 h3 h4 h5 h6 h7; omega
  | succ n ih =>
    intro k S ds de ua tp X a b f a2 b2 f2 a3 b3 f3 a4 b4 f4 th us at' d nn pw fl out F F2 F3 F4 h1 h2 h3 h4 h5 h6 h7
    rw [f_law]
    have e4 : (4 : Int32).toInt = 4 := rfl
    have tL : (Int32.ofNat L).toInt = (L : Int) := nI_toInt (by omega)
    have tS : (Int32.ofNat L - 4).toInt = (L : Int) - 4 := by rw [i_sub (by rw [tL, e4]; omega) (by rw [tL, e4]; omega), tL, e4]
    by_cases c : Int32.ofNat L - 4 < nI (4 * k)
    · rw [if_pos c]
    rw [if_neg c]
    rw [i_lt, tS, nI_toInt (by omega)] at c
    have hk : 4 * (k + 1) ≤ L := by omega
    have p1 : nI (4 * k) + 1 = nI (4 * k + 1) := nI_1 _
    have p2 : nI (4 * k) + 2 = nI (4 * k + 2) := nI_add _ 2
    have p3 : nI (4 * k) + 3 = nI (4 * k + 3) := nI_add _ 3
    have p4 : nI (4 * k) + 4 = nI (4 * (k + 1)) := nI_add _ 4
    have i0 : ¬ (nI (4 * k) < 0 ∨ L ≤ (nI (4 * k)).toNatClampNeg) := nI_in (by omega) (by omega)
    have i1 : ¬ (nI (4 * k + 1) < 0 ∨ L ≤ (nI (4 * k + 1)).toNatClampNeg) := nI_in (by omega) (by omega)
    have i2 : ¬ (nI (4 * k + 2) < 0 ∨ L ≤ (nI (4 * k + 2)).toNatClampNeg) := nI_in (by omega) (by omega)
    have i3 : ¬ (nI (4 * k + 3) < 0 ∨ L ≤ (nI (4 * k + 3)).toNatClampNeg) := nI_in (by omega) (by omega)
    rw [p1, p2, p3, p4, if_neg i0]
    simp only [if_neg i1, if_neg i2, if_neg i3]
    have go := ih (k + 1)
    generalize xs (nI (4 * k)).toNatClampNeg &&& 7 = op
    generalize xs (nI (4 * k + 1)).toNatClampNeg = v1
    generalize xs (nI (4 * k + 2)).toNatClampNeg = v2
    generalize xs (nI (4 * k + 3)).toNatClampNeg = v3
    by_cases c0 : op = 0
    · rw [if_pos c0]
      exact go 0 ds de ua tp X a b f a2 b2 f2 a3 b3 f3 a4 b4 f4 0 us at' d nn pw fl out F F2 F3 F4 h1 h2 h3 h4 (by decide) hk (by omega)
    rw [if_neg c0]
    by_cases c1 : op = 1
    · rw [if_pos c1]
      obtain ⟨r, out', S', X', rr, g1, g2, g3, g4⟩ := add2 (v := v1) (th := th) (X := X) (out := out) h5
      rw [g1, g2, Option.bind_some, Option.bind_some]
      exact law_fin g4 (go S' ds de ua tp X' a b f a2 b2 f2 a3 b3 f3 a4 b4 f4 r us at' d nn pw fl out' F F2 F3 F4 h1 h2 h3 h4 g3 hk (by omega))
    rw [if_neg c1]
    by_cases c2 : op = 2
    · rw [if_pos c2]
      obtain ⟨r, out', ds', de', ua', tp', a', b', f', F', a2', b2', f2', F2', rr, us', at2, d', n', pw', fl', g1, g2, g3, g4, g5⟩ := read2 (ds := ds) (de := de) (ua := ua) (tp := tp) (X := X) (th := th) (us := us) (at' := at') (d := d) (n := nn) (pw := pw) (fl := fl) (out := out) h5 h1 h2
      rw [g1, g4, Option.bind_some, Option.bind_some]
      exact law_fin g5 (go S ds' de' ua' tp' X a' b' f' a2' b2' f2' a3 b3 f3 a4 b4 f4 r us' at2 d' n' pw' fl' out' F' F2' F3 F4 g2 g3 h3 h4 h5 hk (by omega))
    rw [if_neg c2]
    by_cases c3 : op = 3
    · rw [if_pos c3]
      generalize ((Int32.toInt64 v1 <<< (Int32.toInt64 32 &&& 63)) ||| (Int32.toInt64 v2 &&& 4294967295)) = w
      obtain ⟨r, out', S', X', a', b', f', F', a2', b2', f2', F2', rr, us', d', n', pw', fl', g1, g2, g3, g4, g5, g6⟩ := print2 (w := w) (l3 := v3) (X := X) (th := th) (us := us) (d := d) (n := nn) (pw := pw) (fl := fl) (out := out) h5 h1 h2
      rw [g1, g4, Option.bind_some, Option.bind_some]
      exact law_fin g6 (go S' ds de ua tp X' a' b' f' a2' b2' f2' a3 b3 f3 a4 b4 f4 r us' at' d' n' pw' fl' out' F' F2' F3 F4 g2 g3 h3 h4 g5 hk (by omega))
    rw [if_neg c3]
    by_cases c4 : op = 4
    · rw [if_pos c4]
      generalize ((Int32.toInt64 v1 <<< (Int32.toInt64 32 &&& 63)) ||| (Int32.toInt64 v2 &&& 4294967295)) = w
      obtain ⟨r, out', S', X', a', b', f', F', a2', b2', f2', F2', a3', b3', f3', F3', a4', b4', f4', F4', rr, us', d', n', pw', fl', g1, g2, g3, g4, g5, g6, g7, g8⟩ := shortest2 (w := w) (X := X) (th := th) (us := us) (d := d) (n := nn) (pw := pw) (fl := fl) (out := out) h5 h1 h2 h3 h4
      rw [g1, g6, Option.bind_some, Option.bind_some]
      exact law_fin g8 (go S' ds de ua tp X' a' b' f' a2' b2' f2' a3' b3' f3' a4' b4' f4' r us' at' d' n' pw' fl' out' F' F2' F3' F4' g2 g3 g4 g5 g7 hk (by omega))
    rw [if_neg c4]
    by_cases c5 : op = 5
    · rw [if_pos c5]
      obtain ⟨r, out', rr, g1, g2, g3⟩ := letter2 (v := v1) (th := th) (X := X) (out := out) h5
      rw [g1, g2, Option.bind_some, Option.bind_some]
      exact law_fin g3 (go S ds de ua tp X a b f a2 b2 f2 a3 b3 f3 a4 b4 f4 r us at' d nn pw fl out' F F2 F3 F4 h1 h2 h3 h4 h5 hk (by omega))
    rw [if_neg c5]
    exact go S ds de ua tp X a b f a2 b2 f2 a3 b3 f3 a4 b4 f4 th us at' d nn pw fl out F F2 F3 F4 h1 h2 h3 h4 h5 hk (by omega)
