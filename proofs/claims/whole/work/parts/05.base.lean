/-! base: small rows for the walks; the words of every method are all of wsL_law -/
def FU : Nat := 8192
theorem gd {P : Prop} [Decidable P] {α : Type} {X : Option α} {o : α} (h : (if P then none else X) = some o) : ¬ P ∧ X = some o := by
  by_cases hp : P
  · rw [if_pos hp] at h; cases h
  · rw [if_neg hp] at h; exact ⟨hp, h⟩
theorem bd {α β : Type} {x : Option α} {k : α → Option β} {o : β} (h : x.bind k = some o) : ∃ u, x = some u ∧ k u = some o := by
  cases x with
  | none => cases h
  | some u => exact ⟨u, rfl, h⟩
theorem goodAll : GoodIn wsL_law wsL_law := goodIn_sub (fun _ h => h) (by decide +kernel)
theorem gV {own : String} {idx : Nat} {C : String} {y : MethodName} {b : ByteArray} {n : Nat} {r : Option FieldType} (h1 : Cond.methodLink own idx y ∈ wsL_law) (h2 : Cond.instanceMethod y ∈ wsL_law) (h3 : Cond.selects C y y ∈ wsL_law) (h4 : Cond.initialized C ∈ wsL_law) (h5 : Cond.code y b n r ∈ wsL_law) : GoodIn wsL_law (wsV own idx C y (Cond.code y b n r :: wsL_law)) := by
  intro w hw
  unfold wsV at hw
  rcases List.mem_append.mp hw with h | h
  · simp only [List.mem_cons, List.not_mem_nil, or_false] at h
    rcases h with rfl | rfl | rfl | rfl
    · exact goodAll _ h1
    · exact goodAll _ h2
    · exact goodAll _ h3
    · exact goodAll _ h4
  · rcases List.mem_cons.mp h with rfl | h
    · exact goodAll _ h5
    · exact goodAll _ h
theorem gS {own : String} {idx : Nat} {y : MethodName} {b : ByteArray} {n : Nat} {r : Option FieldType} (h1 : Cond.methodLink own idx y ∈ wsL_law) (h2 : Cond.static y ∈ wsL_law) (h4 : Cond.initialized y.cls ∈ wsL_law) (h5 : Cond.code y b n r ∈ wsL_law) : GoodIn wsL_law (va_wsS own idx y (Cond.code y b n r :: wsL_law)) := by
  intro w hw
  unfold va_wsS at hw
  rcases List.mem_append.mp hw with h | h
  · simp only [List.mem_cons, List.not_mem_nil, or_false] at h
    rcases h with rfl | rfl | rfl
    · exact goodAll _ h1
    · exact goodAll _ h2
    · exact goodAll _ h4
  · rcases List.mem_cons.mp h with rfl | h
    · exact goodAll _ h5
    · exact goodAll _ h
theorem gI {y : MethodName} {b : ByteArray} {n : Nat} {r : Option FieldType} (h5 : Cond.code y b n r ∈ wsL_law) : GoodIn wsL_law (Cond.code y b n r :: wsL_law) := by
  intro w hw
  rcases List.mem_cons.mp hw with rfl | h
  · exact goodAll _ h5
  · exact goodAll _ h
/-- the class's table of tens -/
def TENS_f (j : Nat) : Int64 := if j = 0 then 1 else if j = 1 then 10 else if j = 2 then 100 else if j = 3 then 1000 else if j = 4 then 10000 else if j = 5 then 100000 else if j = 6 then 1000000 else if j = 7 then 10000000 else 100000000
def TENS_v (j : Nat) : Value := .long (TENS_f j)
theorem rt1 {α : Type} {a o : α} (h : some a = some o) : o = a := (Option.some.inj h).symm
theorem rt2 {A0 A1 : Type} {a0 o0 : A0} {a1 o1 : A1} (h : some (a0, a1) = some (o0, o1)) : o0 = a0 ∧ o1 = a1 := by
  have h := Option.some.inj h
  simp only [Prod.mk.injEq] at h
  obtain ⟨h0, h1⟩ := h
  exact ⟨h0.symm, h1.symm⟩
theorem rt3 {A0 A1 A2 : Type} {a0 o0 : A0} {a1 o1 : A1} {a2 o2 : A2} (h : some (a0, a1, a2) = some (o0, o1, o2)) : o0 = a0 ∧ o1 = a1 ∧ o2 = a2 := by
  have h := Option.some.inj h
  simp only [Prod.mk.injEq] at h
  obtain ⟨h0, h1, h2⟩ := h
  exact ⟨h0.symm, h1.symm, h2.symm⟩
theorem rt4 {A0 A1 A2 A3 : Type} {a0 o0 : A0} {a1 o1 : A1} {a2 o2 : A2} {a3 o3 : A3} (h : some (a0, a1, a2, a3) = some (o0, o1, o2, o3)) : o0 = a0 ∧ o1 = a1 ∧ o2 = a2 ∧ o3 = a3 := by
  have h := Option.some.inj h
  simp only [Prod.mk.injEq] at h
  obtain ⟨h0, h1, h2, h3⟩ := h
  exact ⟨h0.symm, h1.symm, h2.symm, h3.symm⟩
theorem rt5 {A0 A1 A2 A3 A4 : Type} {a0 o0 : A0} {a1 o1 : A1} {a2 o2 : A2} {a3 o3 : A3} {a4 o4 : A4} (h : some (a0, a1, a2, a3, a4) = some (o0, o1, o2, o3, o4)) : o0 = a0 ∧ o1 = a1 ∧ o2 = a2 ∧ o3 = a3 ∧ o4 = a4 := by
  have h := Option.some.inj h
  simp only [Prod.mk.injEq] at h
  obtain ⟨h0, h1, h2, h3, h4⟩ := h
  exact ⟨h0.symm, h1.symm, h2.symm, h3.symm, h4.symm⟩
theorem rt6 {A0 A1 A2 A3 A4 A5 : Type} {a0 o0 : A0} {a1 o1 : A1} {a2 o2 : A2} {a3 o3 : A3} {a4 o4 : A4} {a5 o5 : A5} (h : some (a0, a1, a2, a3, a4, a5) = some (o0, o1, o2, o3, o4, o5)) : o0 = a0 ∧ o1 = a1 ∧ o2 = a2 ∧ o3 = a3 ∧ o4 = a4 ∧ o5 = a5 := by
  have h := Option.some.inj h
  simp only [Prod.mk.injEq] at h
  obtain ⟨h0, h1, h2, h3, h4, h5⟩ := h
  exact ⟨h0.symm, h1.symm, h2.symm, h3.symm, h4.symm, h5.symm⟩
theorem rt7 {A0 A1 A2 A3 A4 A5 A6 : Type} {a0 o0 : A0} {a1 o1 : A1} {a2 o2 : A2} {a3 o3 : A3} {a4 o4 : A4} {a5 o5 : A5} {a6 o6 : A6} (h : some (a0, a1, a2, a3, a4, a5, a6) = some (o0, o1, o2, o3, o4, o5, o6)) : o0 = a0 ∧ o1 = a1 ∧ o2 = a2 ∧ o3 = a3 ∧ o4 = a4 ∧ o5 = a5 ∧ o6 = a6 := by
  have h := Option.some.inj h
  simp only [Prod.mk.injEq] at h
  obtain ⟨h0, h1, h2, h3, h4, h5, h6⟩ := h
  exact ⟨h0.symm, h1.symm, h2.symm, h3.symm, h4.symm, h5.symm, h6.symm⟩
theorem rt8 {A0 A1 A2 A3 A4 A5 A6 A7 : Type} {a0 o0 : A0} {a1 o1 : A1} {a2 o2 : A2} {a3 o3 : A3} {a4 o4 : A4} {a5 o5 : A5} {a6 o6 : A6} {a7 o7 : A7} (h : some (a0, a1, a2, a3, a4, a5, a6, a7) = some (o0, o1, o2, o3, o4, o5, o6, o7)) : o0 = a0 ∧ o1 = a1 ∧ o2 = a2 ∧ o3 = a3 ∧ o4 = a4 ∧ o5 = a5 ∧ o6 = a6 ∧ o7 = a7 := by
  have h := Option.some.inj h
  simp only [Prod.mk.injEq] at h
  obtain ⟨h0, h1, h2, h3, h4, h5, h6, h7⟩ := h
  exact ⟨h0.symm, h1.symm, h2.symm, h3.symm, h4.symm, h5.symm, h6.symm, h7.symm⟩
theorem rt9 {A0 A1 A2 A3 A4 A5 A6 A7 A8 : Type} {a0 o0 : A0} {a1 o1 : A1} {a2 o2 : A2} {a3 o3 : A3} {a4 o4 : A4} {a5 o5 : A5} {a6 o6 : A6} {a7 o7 : A7} {a8 o8 : A8} (h : some (a0, a1, a2, a3, a4, a5, a6, a7, a8) = some (o0, o1, o2, o3, o4, o5, o6, o7, o8)) : o0 = a0 ∧ o1 = a1 ∧ o2 = a2 ∧ o3 = a3 ∧ o4 = a4 ∧ o5 = a5 ∧ o6 = a6 ∧ o7 = a7 ∧ o8 = a8 := by
  have h := Option.some.inj h
  simp only [Prod.mk.injEq] at h
  obtain ⟨h0, h1, h2, h3, h4, h5, h6, h7, h8⟩ := h
  exact ⟨h0.symm, h1.symm, h2.symm, h3.symm, h4.symm, h5.symm, h6.symm, h7.symm, h8.symm⟩
theorem rt10 {A0 A1 A2 A3 A4 A5 A6 A7 A8 A9 : Type} {a0 o0 : A0} {a1 o1 : A1} {a2 o2 : A2} {a3 o3 : A3} {a4 o4 : A4} {a5 o5 : A5} {a6 o6 : A6} {a7 o7 : A7} {a8 o8 : A8} {a9 o9 : A9} (h : some (a0, a1, a2, a3, a4, a5, a6, a7, a8, a9) = some (o0, o1, o2, o3, o4, o5, o6, o7, o8, o9)) : o0 = a0 ∧ o1 = a1 ∧ o2 = a2 ∧ o3 = a3 ∧ o4 = a4 ∧ o5 = a5 ∧ o6 = a6 ∧ o7 = a7 ∧ o8 = a8 ∧ o9 = a9 := by
  have h := Option.some.inj h
  simp only [Prod.mk.injEq] at h
  obtain ⟨h0, h1, h2, h3, h4, h5, h6, h7, h8, h9⟩ := h
  exact ⟨h0.symm, h1.symm, h2.symm, h3.symm, h4.symm, h5.symm, h6.symm, h7.symm, h8.symm, h9.symm⟩
theorem rt11 {A0 A1 A2 A3 A4 A5 A6 A7 A8 A9 A10 : Type} {a0 o0 : A0} {a1 o1 : A1} {a2 o2 : A2} {a3 o3 : A3} {a4 o4 : A4} {a5 o5 : A5} {a6 o6 : A6} {a7 o7 : A7} {a8 o8 : A8} {a9 o9 : A9} {a10 o10 : A10} (h : some (a0, a1, a2, a3, a4, a5, a6, a7, a8, a9, a10) = some (o0, o1, o2, o3, o4, o5, o6, o7, o8, o9, o10)) : o0 = a0 ∧ o1 = a1 ∧ o2 = a2 ∧ o3 = a3 ∧ o4 = a4 ∧ o5 = a5 ∧ o6 = a6 ∧ o7 = a7 ∧ o8 = a8 ∧ o9 = a9 ∧ o10 = a10 := by
  have h := Option.some.inj h
  simp only [Prod.mk.injEq] at h
  obtain ⟨h0, h1, h2, h3, h4, h5, h6, h7, h8, h9, h10⟩ := h
  exact ⟨h0.symm, h1.symm, h2.symm, h3.symm, h4.symm, h5.symm, h6.symm, h7.symm, h8.symm, h9.symm, h10.symm⟩
theorem rt12 {A0 A1 A2 A3 A4 A5 A6 A7 A8 A9 A10 A11 : Type} {a0 o0 : A0} {a1 o1 : A1} {a2 o2 : A2} {a3 o3 : A3} {a4 o4 : A4} {a5 o5 : A5} {a6 o6 : A6} {a7 o7 : A7} {a8 o8 : A8} {a9 o9 : A9} {a10 o10 : A10} {a11 o11 : A11} (h : some (a0, a1, a2, a3, a4, a5, a6, a7, a8, a9, a10, a11) = some (o0, o1, o2, o3, o4, o5, o6, o7, o8, o9, o10, o11)) : o0 = a0 ∧ o1 = a1 ∧ o2 = a2 ∧ o3 = a3 ∧ o4 = a4 ∧ o5 = a5 ∧ o6 = a6 ∧ o7 = a7 ∧ o8 = a8 ∧ o9 = a9 ∧ o10 = a10 ∧ o11 = a11 := by
  have h := Option.some.inj h
  simp only [Prod.mk.injEq] at h
  obtain ⟨h0, h1, h2, h3, h4, h5, h6, h7, h8, h9, h10, h11⟩ := h
  exact ⟨h0.symm, h1.symm, h2.symm, h3.symm, h4.symm, h5.symm, h6.symm, h7.symm, h8.symm, h9.symm, h10.symm, h11.symm⟩
theorem rt13 {A0 A1 A2 A3 A4 A5 A6 A7 A8 A9 A10 A11 A12 : Type} {a0 o0 : A0} {a1 o1 : A1} {a2 o2 : A2} {a3 o3 : A3} {a4 o4 : A4} {a5 o5 : A5} {a6 o6 : A6} {a7 o7 : A7} {a8 o8 : A8} {a9 o9 : A9} {a10 o10 : A10} {a11 o11 : A11} {a12 o12 : A12} (h : some (a0, a1, a2, a3, a4, a5, a6, a7, a8, a9, a10, a11, a12) = some (o0, o1, o2, o3, o4, o5, o6, o7, o8, o9, o10, o11, o12)) : o0 = a0 ∧ o1 = a1 ∧ o2 = a2 ∧ o3 = a3 ∧ o4 = a4 ∧ o5 = a5 ∧ o6 = a6 ∧ o7 = a7 ∧ o8 = a8 ∧ o9 = a9 ∧ o10 = a10 ∧ o11 = a11 ∧ o12 = a12 := by
  have h := Option.some.inj h
  simp only [Prod.mk.injEq] at h
  obtain ⟨h0, h1, h2, h3, h4, h5, h6, h7, h8, h9, h10, h11, h12⟩ := h
  exact ⟨h0.symm, h1.symm, h2.symm, h3.symm, h4.symm, h5.symm, h6.symm, h7.symm, h8.symm, h9.symm, h10.symm, h11.symm, h12.symm⟩
theorem rt14 {A0 A1 A2 A3 A4 A5 A6 A7 A8 A9 A10 A11 A12 A13 : Type} {a0 o0 : A0} {a1 o1 : A1} {a2 o2 : A2} {a3 o3 : A3} {a4 o4 : A4} {a5 o5 : A5} {a6 o6 : A6} {a7 o7 : A7} {a8 o8 : A8} {a9 o9 : A9} {a10 o10 : A10} {a11 o11 : A11} {a12 o12 : A12} {a13 o13 : A13} (h : some (a0, a1, a2, a3, a4, a5, a6, a7, a8, a9, a10, a11, a12, a13) = some (o0, o1, o2, o3, o4, o5, o6, o7, o8, o9, o10, o11, o12, o13)) : o0 = a0 ∧ o1 = a1 ∧ o2 = a2 ∧ o3 = a3 ∧ o4 = a4 ∧ o5 = a5 ∧ o6 = a6 ∧ o7 = a7 ∧ o8 = a8 ∧ o9 = a9 ∧ o10 = a10 ∧ o11 = a11 ∧ o12 = a12 ∧ o13 = a13 := by
  have h := Option.some.inj h
  simp only [Prod.mk.injEq] at h
  obtain ⟨h0, h1, h2, h3, h4, h5, h6, h7, h8, h9, h10, h11, h12, h13⟩ := h
  exact ⟨h0.symm, h1.symm, h2.symm, h3.symm, h4.symm, h5.symm, h6.symm, h7.symm, h8.symm, h9.symm, h10.symm, h11.symm, h12.symm, h13.symm⟩
theorem rt15 {A0 A1 A2 A3 A4 A5 A6 A7 A8 A9 A10 A11 A12 A13 A14 : Type} {a0 o0 : A0} {a1 o1 : A1} {a2 o2 : A2} {a3 o3 : A3} {a4 o4 : A4} {a5 o5 : A5} {a6 o6 : A6} {a7 o7 : A7} {a8 o8 : A8} {a9 o9 : A9} {a10 o10 : A10} {a11 o11 : A11} {a12 o12 : A12} {a13 o13 : A13} {a14 o14 : A14} (h : some (a0, a1, a2, a3, a4, a5, a6, a7, a8, a9, a10, a11, a12, a13, a14) = some (o0, o1, o2, o3, o4, o5, o6, o7, o8, o9, o10, o11, o12, o13, o14)) : o0 = a0 ∧ o1 = a1 ∧ o2 = a2 ∧ o3 = a3 ∧ o4 = a4 ∧ o5 = a5 ∧ o6 = a6 ∧ o7 = a7 ∧ o8 = a8 ∧ o9 = a9 ∧ o10 = a10 ∧ o11 = a11 ∧ o12 = a12 ∧ o13 = a13 ∧ o14 = a14 := by
  have h := Option.some.inj h
  simp only [Prod.mk.injEq] at h
  obtain ⟨h0, h1, h2, h3, h4, h5, h6, h7, h8, h9, h10, h11, h12, h13, h14⟩ := h
  exact ⟨h0.symm, h1.symm, h2.symm, h3.symm, h4.symm, h5.symm, h6.symm, h7.symm, h8.symm, h9.symm, h10.symm, h11.symm, h12.symm, h13.symm, h14.symm⟩
theorem rt16 {A0 A1 A2 A3 A4 A5 A6 A7 A8 A9 A10 A11 A12 A13 A14 A15 : Type} {a0 o0 : A0} {a1 o1 : A1} {a2 o2 : A2} {a3 o3 : A3} {a4 o4 : A4} {a5 o5 : A5} {a6 o6 : A6} {a7 o7 : A7} {a8 o8 : A8} {a9 o9 : A9} {a10 o10 : A10} {a11 o11 : A11} {a12 o12 : A12} {a13 o13 : A13} {a14 o14 : A14} {a15 o15 : A15} (h : some (a0, a1, a2, a3, a4, a5, a6, a7, a8, a9, a10, a11, a12, a13, a14, a15) = some (o0, o1, o2, o3, o4, o5, o6, o7, o8, o9, o10, o11, o12, o13, o14, o15)) : o0 = a0 ∧ o1 = a1 ∧ o2 = a2 ∧ o3 = a3 ∧ o4 = a4 ∧ o5 = a5 ∧ o6 = a6 ∧ o7 = a7 ∧ o8 = a8 ∧ o9 = a9 ∧ o10 = a10 ∧ o11 = a11 ∧ o12 = a12 ∧ o13 = a13 ∧ o14 = a14 ∧ o15 = a15 := by
  have h := Option.some.inj h
  simp only [Prod.mk.injEq] at h
  obtain ⟨h0, h1, h2, h3, h4, h5, h6, h7, h8, h9, h10, h11, h12, h13, h14, h15⟩ := h
  exact ⟨h0.symm, h1.symm, h2.symm, h3.symm, h4.symm, h5.symm, h6.symm, h7.symm, h8.symm, h9.symm, h10.symm, h11.symm, h12.symm, h13.symm, h14.symm, h15.symm⟩
