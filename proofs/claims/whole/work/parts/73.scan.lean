/-! the numeral's shape, and what the class's scanNumeral tells -/
def EE (s I f : Nat) : Nat := if f = 0 then s + I else s + I + 1 + f
def SH (X : Nat → Int32) (L s I f : Nat) : Prop := 1 ≤ I ∧ ED X L s (s + I) ∧ ((f = 0 ∧ ¬ (s + I < L ∧ X (s + I) = 46)) ∨ (1 ≤ f ∧ (s + I < L ∧ X (s + I) = 46) ∧ ED X L (s + I + 1) (s + I + 1 + f)))
def OKN (X : Nat → Int32) (L s I f : Nat) (t : Int32) : Prop := SH X L s I f ∧ ((EE s I f = L ∧ t = 0) ∨ (EE s I f ≠ L ∧ PW X L (EE s I f) t))
def NON (X : Nat → Int32) (L s : Nat) : Prop := ¬ isD X L s ∨ (∃ I, 1 ≤ I ∧ ED X L s (s + I) ∧ (s + I < L ∧ X (s + I) = 46) ∧ ¬ isD X L (s + I + 1)) ∨ ∃ I f, SH X L s I f ∧ EE s I f ≠ L ∧ NPW X L (EE s I f)
theorem SH_le {X : Nat → Int32} {L s I f : Nat} (h : SH X L s I f) : EE s I f ≤ L := by
  obtain ⟨h1, h2, h3⟩ := h
  unfold EE
  rcases h3 with ⟨g1, g2⟩ | ⟨g1, g2, g3⟩
  · rw [if_pos g1]
    have := ED_le h2
    have := h2.2.1 s (Nat.le_refl _) (by omega)
    omega
  · rw [if_neg (by omega)]
    have := ED_le g3
    omega
theorem b93_ok {X : Nat → Int32} {L s I f : Nat} {ua tp : Int32} (hL : L ≤ 400) (hs : s ≤ 1) (h : SH X L s I f) :
    (∃ t, OKN X L s I f t ∧ f_X1_scanNumeral_b93 (nI L) (nI s) (nI (EE s I f)) ua tp X = some (1, nI s, nI (EE s I f), ua, t)) ∨ (NON X L s ∧ ∃ a b c d, f_X1_scanNumeral_b93 (nI L) (nI s) (nI (EE s I f)) ua tp X = some (0, a, b, c, d)) := by
  have hle := SH_le h
  unfold f_X1_scanNumeral_b93
  have q : nI (EE s I f) = nI L ↔ EE s I f = L := nI_eq (by omega) (by omega)
  by_cases c : EE s I f = L
  · rw [if_pos (q.mpr c)]
    exact Or.inl ⟨0, ⟨h, Or.inl ⟨c, rfl⟩⟩, rfl⟩
  · rw [if_neg (fun g => c (q.mp g))]
    rcases sp_ok (X := X) (L := L) (e := EE s I f) hL (by omega) with ⟨t, k1, k2⟩ | ⟨k1, k2⟩
    · rw [k2, Option.bind_some]
      simp only []
      rw [if_neg (by decide)]
      exact Or.inl ⟨t, ⟨h, Or.inr ⟨c, k1⟩⟩, rfl⟩
    · rw [k2, Option.bind_some]
      exact Or.inr ⟨Or.inr (Or.inr ⟨I, f, h, c, k1⟩), _, _, _, _, rfl⟩
theorem scan_b16 {X : Nat → Int32} {L s : Nat} {ds de ua tp : Int32} (hL : L ≤ 400) (hs : s ≤ 1) :
    (∃ I f t, OKN X L s I f t ∧ f_X1_scanNumeral_b16 (nI s) (nI L) ds de ua tp X = some (1, nI s, nI (EE s I f), nI (s + I - 1), t)) ∨ (NON X L s ∧ ∃ a b c d, f_X1_scanNumeral_b16 (nI s) (nI L) ds de ua tp X = some (0, a, b, c, d)) := by
  unfold f_X1_scanNumeral_b16
  obtain ⟨e1, k1, k2⟩ := eod_ok (X := X) (L := L) (i := s) hL (by omega)
  rw [k1, Option.bind_some]
  have hle := ED_le k2
  have q1 : nI e1 = nI s ↔ e1 = s := nI_eq (by omega) (by omega)
  by_cases c : e1 = s
  · rw [if_pos (q1.mpr c)]
    refine Or.inr ⟨Or.inl ?_, _, _, _, _, rfl⟩
    rw [← c]; exact k2.2.2
  · rw [if_neg (fun g => c (q1.mp g)), isAt_ok hL (by omega), Option.bind_some]
    obtain ⟨I, hI⟩ : ∃ I, e1 = s + I := ⟨e1 - s, by have := k2.1; omega⟩
    subst hI
    have hI1 : 1 ≤ I := by omega
    have u1 : nI (s + I) - 1 = nI (s + I - 1) := by
      obtain ⟨p, hp⟩ : ∃ p, s + I = p + 1 := ⟨s + I - 1, by omega⟩
      rw [hp, nI_pred, Nat.add_sub_cancel]
    rw [u1]
    by_cases c2 : s + I < L ∧ X (s + I) = 46
    · rw [if_pos c2, if_neg (by decide), nI_1]
      obtain ⟨e2, j1, j2⟩ := eod_ok (X := X) (L := L) (i := s + I + 1) hL (by omega)
      rw [j1, Option.bind_some]
      have hle2 := ED_le j2
      have q2 : nI e2 = nI (s + I + 1) ↔ e2 = s + I + 1 := nI_eq (by omega) (by omega)
      by_cases c3 : e2 = s + I + 1
      · rw [if_pos (q2.mpr c3)]
        refine Or.inr ⟨Or.inr (Or.inl ⟨I, hI1, k2, c2, ?_⟩), _, _, _, _, rfl⟩
        rw [← c3]; exact j2.2.2
      · rw [if_neg (fun g => c3 (q2.mp g))]
        obtain ⟨f, hf⟩ : ∃ f, e2 = s + I + 1 + f := ⟨e2 - (s + I + 1), by have := j2.1; omega⟩
        subst hf
        have hsh : SH X L s I f := ⟨hI1, k2, Or.inr ⟨by omega, c2, j2⟩⟩
        have hE : EE s I f = s + I + 1 + f := by unfold EE; rw [if_neg (by omega)]
        rcases b93_ok (ua := nI (s + I - 1)) (tp := tp) hL hs hsh with ⟨t, g1, g2⟩ | ⟨g1, g2⟩
        · rw [← hE]; exact Or.inl ⟨I, f, t, g1, g2⟩
        · rw [← hE]; exact Or.inr ⟨g1, g2⟩
    · rw [if_neg c2, if_pos rfl]
      have hsh : SH X L s I 0 := ⟨hI1, k2, Or.inl ⟨rfl, c2⟩⟩
      have hE : EE s I 0 = s + I := by unfold EE; rw [if_pos rfl]
      rcases b93_ok (ua := nI (s + I - 1)) (tp := tp) hL hs hsh with ⟨t, g1, g2⟩ | ⟨g1, g2⟩
      · rw [← hE]; exact Or.inl ⟨I, 0, t, g1, g2⟩
      · rw [← hE]; exact Or.inr ⟨g1, g2⟩
/-! the reference's parse -/
theorem c0 : Int32.toNatClampNeg 0 = 0 := rfl
theorem pa_L23 : ∀ (fu : Nat) (X d n pw : Nat → Int32) (L s I m : Nat), L ≤ 400 → s ≤ 1 → m ≤ I → I ≤ 400 → ED X L s (s + I) → RB 0 d n (DA X 0 s m) m → I < m + fu →
    ∃ d' n', f_X2_parse_L23 fu (nI L) (nI (s + m)) X d n pw = f_X2_parse_L23 1 (nI L) (nI (s + I)) X d' n' pw ∧ RB 0 d' n' (DA X 0 s I) I := by
  intro fu
  induction fu with
  | zero => intro X d n pw L s I m h1 h2 h3 h4 h5 h6 h7; omega
  | succ fu ih =>
    intro X d n pw L s I m h1 h2 h3 h4 h5 h6 h7
    by_cases c : m = I
    · subst c
      refine ⟨d, n, ?_, h6⟩
      unfold f_X2_parse_L23
      rw [isDigit_ok h1 (by omega), if_neg h5.2.2, Option.bind_some, Option.bind_some, if_pos rfl, if_pos rfl]
    · have hd := h5.2.1 (s + m) (by omega) (by omega)
      have hg := dig_ok hd.2.1 hd.2.2
      unfold f_X2_parse_L23
      rw [isDigit_ok h1 (by omega), if_pos hd, Option.bind_some, if_neg (by decide), if_neg (nI_in (by have := hd.1; omega) (by decide)), nI_clamp (by omega), hg.1, nI_1]
      obtain ⟨d1, n1, k1, k2, k3, k4⟩ := more_ok (l1 := 0) (r := 0) (x := dig (X (s + m))) rfl (by decide) h6 (by omega) rfl hg.2.1
      rw [k1, Option.bind_some]
      exact ih X d1 n1 pw L s I (m + 1) h1 h2 (by omega) h4 h5 k2 (by omega)
theorem pa_L100 : ∀ (fu : Nat) (X d n pw : Nat → Int32) (L p f k A m : Nat), L ≤ 400 → p ≤ 402 → k ≤ f → p + f ≤ 402 → ED X L p (p + f) → RB 0 d n (DA X A p k) (m + k) → m + f ≤ 1000 → f < k + fu →
    ∃ d' n', f_X2_parse_L100 fu (nI L) (nI (p + k)) X d n pw = f_X2_parse_b137 (nI L) (nI (p + f)) X d' n' pw ∧ RB 0 d' n' (DA X A p f) (m + f) := by
  intro fu
  induction fu with
  | zero => intro X d n pw L p f k A m h1 h2 h3 h4 h5 h6 h7 h8; omega
  | succ fu ih =>
    intro X d n pw L p f k A m h1 h2 h3 h4 h5 h6 h7 h8
    unfold f_X2_parse_L100
    by_cases c : k = f
    · subst c
      rw [isDigit_ok h1 (by omega), if_neg h5.2.2, Option.bind_some, if_pos rfl]
      exact ⟨d, n, rfl, h6⟩
    · have hd := h5.2.1 (p + k) (by omega) (by omega)
      have hg := dig_ok hd.2.1 hd.2.2
      rw [isDigit_ok h1 (by omega), if_pos hd, Option.bind_some, if_neg (by decide), if_neg (nI_in (by have := hd.1; omega) (by decide)), nI_clamp (by omega), hg.1, nI_1]
      obtain ⟨d1, n1, k1, k2, k3, k4⟩ := more_ok (l1 := 0) (r := 0) (x := dig (X (p + k))) rfl (by decide) h6 (by omega) rfl hg.2.1
      rw [k1, Option.bind_some]
      exact ih X d1 n1 pw L p f (k + 1) A m h1 h2 (by omega) h4 h5 k2 h7 (by omega)
theorem pa_L184 : ∀ (fu : Nat) (X d n pw : Nat → Int32) (L st en k : Nat) (l1 : Int32), L ≤ 400 → st ≤ 402 → ED X L st en → k ≤ 4 → st + k ≤ en → 4 < k + fu →
    ∃ q, q ≤ 4 ∧ st + q ≤ en ∧ (q = 4 ∨ st + q = en) ∧ f_X2_parse_L184 fu l1 (nI st) (nI (DA X 0 st k)) (nI L) (nI (st + k)) X d n pw = f_X2_parse_b232 l1 (nI st) (nI (DA X 0 st q)) (nI L) (nI (st + q)) X d n pw := by
  intro fu
  induction fu with
  | zero => intro X d n pw L st en k l1 h1 h2 h3 h4 h5 h6; omega
  | succ fu ih =>
    intro X d n pw L st en k l1 h1 h2 h3 h4 h5 h6
    unfold f_X2_parse_L184
    by_cases c : st + k = en
    · subst c
      rw [isDigit_ok h1 (by omega), if_neg h3.2.2, Option.bind_some, if_pos rfl]
      exact ⟨k, h4, Nat.le_refl _, Or.inr rfl, rfl⟩
    · have hd := h3.2.1 (st + k) (by omega) (by omega)
      have hg := dig_ok hd.2.1 hd.2.2
      rw [isDigit_ok h1 (by omega), if_pos hd, Option.bind_some, if_neg (by decide), pk_sub (by omega), Nat.add_sub_cancel_left]
      have q4 : (4 : Int32) ≤ nI k ↔ 4 ≤ k := nI_leI (a := 4) (by decide) (by omega)
      by_cases c4 : 4 ≤ k
      · rw [if_pos (q4.mpr c4)]
        exact ⟨k, h4, h5, Or.inl (by omega), rfl⟩
      · rw [if_neg (fun g => c4 (q4.mp g)), if_neg (nI_in (by have := hd.1; omega) (by decide)), nI_clamp (by omega), nI_1]
        have e : (10 : Int32) * nI (DA X 0 st k) + X (st + k) - 48 = nI (DA X 0 st (k + 1)) := by
          have e10 : (10 : Int32) = nI 10 := rfl
          rw [e10, pk_mul, Int32.sub_eq_add_neg, Int32.add_assoc, ← Int32.sub_eq_add_neg, hg.1, nI_add, DA_s, Nat.mul_comm 10]
        rw [e]
        exact ih X d n pw L st en (k + 1) l1 h1 h2 h3 (by omega) (by omega) (by omega)
/-- the row that the reference makes of a numeral -/
def PO (A m : Nat) (P : Int32) (o : Option ((Int32) × (Int32) × (Nat → Int32) × (Nat → Int32) × (Nat → Int32))) : Prop :=
  ∃ at' d' n' pw' m' b, o = some (1, at', d', n', pw') ∧ RW 0 d' n' pw' A (m - b) m' (P - nI b) ∧ NZ A (m - b) m' ∧ b ≤ m
theorem b261_ok {X d n pw : Nat → Int32} {L at' A m : Nat} (hm : m ≤ 1000) (h : RB 0 d n A m) (hA : A < 10 ^ m) :
    (nI at' = nI L → PO A m (pw 0) (f_X2_parse_b261 (nI L) (nI at') X d n pw)) ∧ (nI at' ≠ nI L → ∃ a b c e, f_X2_parse_b261 (nI L) (nI at') X d n pw = some (0, a, b, c, e)) := by
  obtain ⟨d', n', pw', m', b', e1, e2, e3, e4, e5⟩ := trim2_ok (l1 := 0) rfl (by decide) (RB_RW (pw := pw) h hA (by clear hA; omega))
  unfold f_X2_parse_b261
  rw [e1, Option.bind_some]
  simp only []
  refine ⟨fun g => ?_, fun g => ?_⟩
  · rw [if_pos g]
    exact ⟨_, d', n', pw', m', b', rfl, e2, e3, e5.1⟩
  · rw [if_neg g]
    exact ⟨_, _, _, _, rfl⟩
theorem i_add0 (x : Int32) : x + 0 = x := Int32.add_zero x
/-- behind the digits -/
theorem b137_ok {X d n pw : Nat → Int32} {L e A m : Nat} (hL : L ≤ 400) (he : e ≤ L) (hm : m ≤ 1000) (h : RB 0 d n A m) (hA : A < 10 ^ m) (hnd : ¬ isD X L e) :
    ((e = L → PO A m (pw 0) (f_X2_parse_b137 (nI L) (nI e) X d n pw)) ∧ (∀ t, e ≠ L → PW X L e t → PO A m (pw 0 + t) (f_X2_parse_b137 (nI L) (nI e) X d n pw))) ∧ (e ≠ L → NPW X L e → ∃ a b c g, f_X2_parse_b137 (nI L) (nI e) X d n pw = some (0, a, b, c, g)) := by
  have ne : ∀ x, x ≤ 410 → (nI x = nI L ↔ x = L) := fun x hx => nI_eq (by omega) (by omega)
  unfold f_X2_parse_b137
  rw [is_ok hL (by omega), Option.bind_some]
  by_cases c : e < L ∧ X e = 101
  · have n0 : ¬ ((if e < L ∧ X e = 101 then (1 : Int32) else 0) = 0) := fun h => ite_eq0.mp h c
    rw [if_neg n0, nI_1, is_ok hL (by omega), Option.bind_some, nI_1]
    refine ⟨⟨fun g => by omega, fun t _ hp => ?_⟩, fun _ hn => ?_⟩
    · obtain ⟨st, p1, p2, p3, p4, p5, p6⟩ := hp
      have fin : ∀ (l1 : Int32) (v : Int32), v = (if l1 = 0 then nI (DA X 0 st (L - st)) else -(nI (DA X 0 st (L - st)))) → PO A m (pw 0 + v) (f_X2_parse_L184 FU l1 (nI st) 0 (nI L) (nI st) X d n pw) := by
        intro l1 v hv
        obtain ⟨q, q1, q2, q3, q4⟩ := pa_L184 FU X d n pw L st L 0 l1 hL (by omega) p4 (by omega) (by omega) (by unfold FU; omega)
        have hq : st + q = L := by omega
        have q4' : f_X2_parse_L184 FU l1 (nI st) 0 (nI L) (nI st) X d n pw = _ := q4
        rw [q4', hq, show q = L - st by omega]
        unfold f_X2_parse_b232
        have ns : ¬ nI L = nI st := fun g => by have := (nI_eq (a := L) (b := st) (by omega) (by omega)).mp g; omega
        rw [if_neg ns]
        have fin2 : PO A m (pw 0 + v) (f_X2_parse_b259 0 (pw 0) v (nI L) (nI L) X d n pw) := by
          unfold f_X2_parse_b259
          rw [if_neg (by decide), c0]
          have := (b261_ok (X := X) (L := L) (at' := L) (pw := upd pw 0 (pw 0 + v)) hm h hA).1 rfl
          rwa [pk_us] at this
        by_cases cl : l1 = 0
        · rw [if_pos cl] at hv ⊢
          rw [c0, ← hv]; exact fin2
        · rw [if_neg cl] at hv ⊢
          rw [c0, ← hv]; exact fin2
      rcases p1 with ⟨g1, g2, g3⟩ | ⟨g1, g2, g3⟩
      · rw [if_neg g2, if_pos rfl, ← g1]
        exact fin 0 t (by rw [if_pos rfl]; exact g3)
      · rw [if_pos g2, if_neg (by decide), show e + 1 + 1 = st by omega]
        exact fin 1 t (by rw [if_neg (by decide)]; exact g3)
    · rcases hn with hn | ⟨st, en, p1, p2, p3, p4, p5⟩
      · exact absurd c hn
      · have hst := p4.1
        have hle := ED_le p4
        have fin : ∀ (l1 : Int32), ∃ a b c g, f_X2_parse_L184 FU l1 (nI st) 0 (nI L) (nI st) X d n pw = some (0, a, b, c, g) := by
          intro l1
          obtain ⟨q, q1, q2, q3, q4⟩ := pa_L184 FU X d n pw L st en 0 l1 hL (by omega) p4 (by omega) (by omega) (by unfold FU; omega)
          have q4' : f_X2_parse_L184 FU l1 (nI st) 0 (nI L) (nI st) X d n pw = _ := q4
          rw [q4']
          unfold f_X2_parse_b232
          by_cases c5 : q = 0
          · subst c5
            rw [Nat.add_zero, if_pos rfl]
            exact ⟨_, _, _, _, rfl⟩
          · have ns : ¬ nI (st + q) = nI st := fun g => by have := (nI_eq (a := st + q) (b := st) (by omega) (by omega)).mp g; omega
            rw [if_neg ns]
            have nL : nI (st + q) ≠ nI L := fun g => by have := (ne (st + q) (by omega)).mp g; omega
            have fin2 : ∀ v, ∃ a b c g, f_X2_parse_b259 0 (pw 0) v (nI L) (nI (st + q)) X d n pw = some (0, a, b, c, g) := by
              intro v
              unfold f_X2_parse_b259
              rw [if_neg (by decide), c0]
              exact (b261_ok (X := X) (L := L) (at' := st + q) (pw := upd pw 0 (pw 0 + v)) hm h hA).2 nL
            by_cases cl : l1 = 0
            · rw [if_pos cl]; exact fin2 _
            · rw [if_neg cl]; exact fin2 _
        rcases p1 with ⟨g1, g2⟩ | ⟨g1, g2⟩
        · rw [if_neg g2, if_pos rfl, ← g1]
          exact fin 0
        · rw [if_pos g2, if_neg (by decide), show e + 1 + 1 = st by omega]
          exact fin 1
  · rw [if_pos (ite_eq0.mpr c)]
    refine ⟨⟨fun g => (b261_ok hm h hA).1 (by rw [g]), fun t _ hp => ?_⟩, fun g _ => (b261_ok hm h hA).2 (fun q => g ((ne e (by omega)).mp q))⟩
    obtain ⟨st, p1, p2, p3, p4⟩ := hp
    exact absurd ⟨p2, p3⟩ c

theorem parse_ok {X d n pw : Nat → Int32} {L s : Nat} (hL : L ≤ 400) (hs : s ≤ 1) :
    (∀ I f t, OKN X L s I f t → PO (DA X (DA X 0 s I) (s + I + 1) f) (I + f) (nI I + t) (f_X2_parse (nI L) (nI s) X d n pw)) ∧ (NON X L s → ∃ a b c g, f_X2_parse (nI L) (nI s) X d n pw = some (0, a, b, c, g)) := by
  unfold f_X2_parse
  rw [isDigit_ok hL (by omega), Option.bind_some, c0]
  have start : ∀ I, ED X L s (s + I) → 1 ≤ I → ∃ d' n', f_X2_parse_L23 FU (nI L) (nI s) X d (upd n 0 0) (upd pw 0 0) = f_X2_parse_L23 1 (nI L) (nI (s + I)) X d' n' (upd pw 0 0) ∧ RB 0 d' n' (DA X 0 s I) I := by
    intro I h1 h2
    have := ED_le h1
    exact pa_L23 FU X d (upd n 0 0) (upd pw 0 0) L s I 0 hL hs (Nat.zero_le _) (by omega) h1 ⟨pk_us, fun t ht => by omega⟩ (by unfold FU; omega)
  have shape : ∀ I f, SH X L s I f → ∃ d' n' pw', pw' 0 = nI I ∧ f_X2_parse_L23 FU (nI L) (nI s) X d (upd n 0 0) (upd pw 0 0) = f_X2_parse_b137 (nI L) (nI (EE s I f)) X d' n' pw' ∧ RB 0 d' n' (DA X (DA X 0 s I) (s + I + 1) f) (I + f) ∧ DA X (DA X 0 s I) (s + I + 1) f < 10 ^ (I + f) ∧ ¬ isD X L (EE s I f) ∧ isD X L s ∧ I + f ≤ 400 := by
    intro I f h
    have hle := SH_le h
    obtain ⟨h1, h2, h3⟩ := h
    obtain ⟨d', n', k1, k2⟩ := start I h2 h1
    have hA1 : DA X 0 s I < 10 ^ (0 + I) := DA_lt (L := L) (m := 0) (by decide) I (fun t ht => h2.2.1 (s + t) (by omega) (by omega))
    rw [Nat.zero_add] at hA1
    rw [k1]
    unfold f_X2_parse_L23
    rw [isDigit_ok hL (by have := ED_le h2; omega), if_neg h2.2.2, Option.bind_some, if_pos rfl, is_ok hL (by have := ED_le h2; omega), Option.bind_some, c0, k2.1]
    unfold EE at hle ⊢
    rcases h3 with ⟨g1, g2⟩ | ⟨g1, g2, g3⟩
    · subst g1
      rw [if_pos rfl] at hle ⊢
      rw [if_neg g2, if_pos rfl]
      exact ⟨d', n', _, pk_us, rfl, k2, hA1, h2.2.2, h2.2.1 s (Nat.le_refl _) (by omega), by omega⟩
    · have hf0 : ¬ f = 0 := by omega
      rw [if_neg hf0] at hle ⊢
      rw [if_pos g2, if_neg (by decide), nI_1, isDigit_ok hL (by omega), Option.bind_some, if_pos (g3.2.1 (s + I + 1) (Nat.le_refl _) (by omega)), if_neg (by decide)]
      obtain ⟨d2, n2, j1, j2⟩ := pa_L100 FU X d' n' (upd (upd pw 0 0) 0 (nI I)) L (s + I + 1) f 0 (DA X 0 s I) I hL (by omega) (Nat.zero_le _) (by omega) g3 k2 (by omega) (by unfold FU; omega)
      refine ⟨d2, n2, _, pk_us, j1, j2, ?_, g3.2.2, h2.2.1 s (Nat.le_refl _) (by omega), by omega⟩
      exact DA_lt (L := L) hA1 f (fun t ht => g3.2.1 (s + I + 1 + t) (by omega) (by omega))
  refine ⟨fun I f t h => ?_, fun h => ?_⟩
  · obtain ⟨hsh, ht⟩ := h
    obtain ⟨d', n', pw', g1, g2, g3, g4, g5, g6, g7⟩ := shape I f hsh
    rw [if_pos g6, if_neg (by decide), g2, ← g1]
    have := b137_ok (pw := pw') hL (SH_le hsh) (by clear g4; omega) g3 g4 g5
    rcases ht with ⟨q1, q2⟩ | ⟨q1, q2⟩
    · rw [q2, i_add0]
      exact this.1.1 q1
    · exact this.1.2 t q1 q2
  · rcases h with h | ⟨I, h1, h2, h3, h4⟩ | ⟨I, f, h1, h2, h3⟩
    · rw [if_neg h, if_pos rfl]
      exact ⟨_, _, _, _, rfl⟩
    · obtain ⟨d', n', k1, k2⟩ := start I h2 h1
      rw [if_pos (h2.2.1 s (Nat.le_refl _) (by omega)), if_neg (by decide), k1]
      unfold f_X2_parse_L23
      rw [isDigit_ok hL (by omega), if_neg h2.2.2, Option.bind_some, if_pos rfl, is_ok hL (by omega), Option.bind_some, if_pos h3, if_neg (by decide), nI_1, isDigit_ok hL (by omega), Option.bind_some, if_neg h4, if_pos rfl]
      exact ⟨_, _, _, _, rfl⟩
    · obtain ⟨d', n', pw', g1, g2, g3, g4, g5, g6, g7⟩ := shape I f h1
      rw [if_pos g6, if_neg (by decide), g2]
      exact (b137_ok (pw := pw') hL (SH_le h1) (by clear g4; omega) g3 g4 g5).2 h2 h3
