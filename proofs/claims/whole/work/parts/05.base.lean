/-! base: small rows for the walks; the words of every method are all of wsL_law -/
def FU : Nat := 8192
theorem gd {P : Prop} [Decidable P] {α : Type} {X : Option α} {o : α} (h : (if P then none else X) = some o) : ¬ P ∧ X = some o := by
  by_cases hp : P
  · rw [if_pos hp] at h; cases h
  · rw [if_neg hp] at h; exact ⟨hp, h⟩
theorem bd {α β : Type} {x : Option α} {k : α → Option β} {o : β} (h : x.bind k = some o) : ∃ u, x = some u ∧ k u = some o := by
  cases x with
  | none => cases h
  | some u => exact ⟨u, rfl, h⟩
theorem goodAll : GoodIn wsL_law wsL_law := goodIn_sub (fun _ h => h) (by decide +kernel)
theorem gV {own : String} {idx : Nat} {C : String} {y : MethodName} {b : ByteArray} {n : Nat} {r : Option FieldType} (h1 : Cond.methodLink own idx y ∈ wsL_law) (h2 : Cond.instanceMethod y ∈ wsL_law) (h3 : Cond.selects C y y ∈ wsL_law) (h4 : Cond.initialized C ∈ wsL_law) (h5 : Cond.code y b n r ∈ wsL_law) : GoodIn wsL_law (wsV own idx C y (Cond.code y b n r :: wsL_law)) := by
  intro w hw
  unfold wsV at hw
  rcases List.mem_append.mp hw with h | h
  · simp only [List.mem_cons, List.not_mem_nil, or_false] at h
    rcases h with rfl | rfl | rfl | rfl
    · exact goodAll _ h1
    · exact goodAll _ h2
    · exact goodAll _ h3
    · exact goodAll _ h4
  · rcases List.mem_cons.mp h with rfl | h
    · exact goodAll _ h5
    · exact goodAll _ h
theorem gS {own : String} {idx : Nat} {y : MethodName} {b : ByteArray} {n : Nat} {r : Option FieldType} (h1 : Cond.methodLink own idx y ∈ wsL_law) (h2 : Cond.static y ∈ wsL_law) (h4 : Cond.initialized y.cls ∈ wsL_law) (h5 : Cond.code y b n r ∈ wsL_law) : GoodIn wsL_law (va_wsS own idx y (Cond.code y b n r :: wsL_law)) := by
  intro w hw
  unfold va_wsS at hw
  rcases List.mem_append.mp hw with h | h
  · simp only [List.mem_cons, List.not_mem_nil, or_false] at h
    rcases h with rfl | rfl | rfl
    · exact goodAll _ h1
    · exact goodAll _ h2
    · exact goodAll _ h4
  · rcases List.mem_cons.mp h with rfl | h
    · exact goodAll _ h5
    · exact goodAll _ h
theorem gI {y : MethodName} {b : ByteArray} {n : Nat} {r : Option FieldType} (h5 : Cond.code y b n r ∈ wsL_law) : GoodIn wsL_law (Cond.code y b n r :: wsL_law) := by
  intro w hw
  rcases List.mem_cons.mp hw with rfl | h
  · exact goodAll _ h5
  · exact goodAll _ h
/-- the class's table of tens -/
def TENS_f (j : Nat) : Int64 := if j = 0 then 1 else if j = 1 then 10 else if j = 2 then 100 else if j = 3 then 1000 else if j = 4 then 10000 else if j = 5 then 100000 else if j = 6 then 1000000 else if j = 7 then 10000000 else 100000000
def TENS_v (j : Nat) : Value := .long (TENS_f j)
