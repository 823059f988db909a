/-! exceptions: what a throwing method needs beside the words -/
def exn (k : Nat) : String := if k = 1 then "java/lang/IllegalArgumentException" else if k = 2 then "java/lang/IllegalStateException" else "java/util/NoSuchElementException"
abbrev exNames : List String := ["java/lang/RuntimeException", "java/lang/Exception"]
def exNG (E : String) : List Cond := [.declares (Bundle.init0 "java/lang/RuntimeException"), .declares (Bundle.init0 "java/lang/Exception"), .declares (Bundle.init0 "java/lang/Throwable"), .castable E E]
def EX (A : Nat → Prop) (U : State) (H : Heap) : Prop :=
  (vx_Zq Bundle.tN "UNASSIGNED_STACK" Bundle.steD A U H ∧ vx_Zq Bundle.tN "SUPPRESSED_SENTINEL" Bundle.listD A U H) ∧
  (va_Nw (.declares (Bundle.init0 "java/lang/RuntimeException")) U ∧ va_Nw (.declares (Bundle.init0 "java/lang/Exception")) U ∧ va_Nw (.declares (Bundle.init0 "java/lang/Throwable")) U) ∧
  (va_Nw (.castable "java/lang/IllegalArgumentException" "java/lang/IllegalArgumentException") U ∧ va_Nw (.castable "java/lang/IllegalStateException" "java/lang/IllegalStateException") U ∧ va_Nw (.castable "java/util/NoSuchElementException" "java/util/NoSuchElementException") U) ∧
  va_Nc "java/lang/IllegalStateException" "java/lang/IllegalArgumentException" U
theorem EX.kept {A : Nat → Prop} {U : State} {H H1 : Heap} (h : EX A U H) (hq : ∀ a : Nat, a < H.size → ¬ A a → H1[a]? = H[a]?) : EX A U H1 := ⟨⟨h.1.1.kept hq, h.1.2.kept hq⟩, h.2⟩
theorem EX.narrow {A B : Nat → Prop} {U : State} {H : Heap} (h : EX A U H) (hAB : ∀ q, B q → A q) : EX B U H := ⟨⟨h.1.1.narrow hAB, h.1.2.narrow hAB⟩, h.2⟩
theorem EX.warm {A : Nat → Prop} {u U : State} {H : Heap} (hW : u.WarmedH U.vm) (h : EX A u H) : EX A U H :=
  ⟨⟨h.1.1.moved hW.alike, h.1.2.moved hW.alike⟩, ⟨va_Nw.warmD hW h.2.1.1, va_Nw.warmD hW h.2.1.2.1, va_Nw.warmD hW h.2.1.2.2⟩, ⟨va_Nw.warmC hW h.2.2.1.1, va_Nw.warmC hW h.2.2.1.2.1, va_Nw.warmC hW h.2.2.1.2.2⟩, h.2.2.2.moved hW.alike⟩
theorem EX.same {A : Nat → Prop} {u U : State} {H : Heap} (hvm : u.vm = U.vm) (h : EX A u H) : EX A U H :=
  ⟨⟨h.1.1.moved (by rw [← hvm]; exact Vm.Alike.refl _), h.1.2.moved (by rw [← hvm]; exact Vm.Alike.refl _)⟩, ⟨va_Nw.same rfl hvm h.2.1.1, va_Nw.same rfl hvm h.2.1.2.1, va_Nw.same rfl hvm h.2.1.2.2⟩, ⟨va_Nw.same rfl hvm h.2.2.1.1, va_Nw.same rfl hvm h.2.2.1.2.1, va_Nw.same rfl hvm h.2.2.1.2.2⟩, h.2.2.2.moved (by rw [← hvm]; exact Vm.Alike.refl _)⟩
theorem EX.ng {A : Nat → Prop} {s : State} {H : Heap} {args : Array Value} (h : EX A s H) {E : String} (hE : va_Nw (.castable E E) s) : ∀ w ∈ exNG E, w.before args s = true := by
  unfold exNG
  exact vx_c (va_Nw.use rfl h.2.1.1) (vx_c (va_Nw.use rfl h.2.1.2.1) (vx_c (va_Nw.use rfl h.2.1.2.2) (vx_c (va_Nw.use rfl hE) vx_n)))
theorem ex_ng1 : ∀ w ∈ (vx_at0 RX1 35 "java/lang/IllegalArgumentException" exNames).filter (fun w => !goodWord w), w ∈ exNG "java/lang/IllegalArgumentException" := by decide +kernel
theorem ex_ng2 : ∀ w ∈ (vx_at0 RX1 38 "java/lang/IllegalStateException" exNames).filter (fun w => !goodWord w), w ∈ exNG "java/lang/IllegalStateException" := by decide +kernel
theorem ex_ng3 : ∀ w ∈ (vx_at0 RX1 103 "java/util/NoSuchElementException" exNames).filter (fun w => !goodWord w), w ∈ exNG "java/util/NoSuchElementException" := by decide +kernel
theorem ex_at1 {A : Nat → Prop} {s : State} {H : Heap} {args : Array Value} (h : EX A s H) (hws : ∀ w ∈ wsL_law, w.before args s = true) : ∀ w ∈ vx_at0 RX1 35 "java/lang/IllegalArgumentException" exNames, w.before args s = true :=
  vx_hat (fun w hw => hws w (List.mem_append_left _ (List.mem_append_left _ (List.mem_append_right _ hw)))) ex_ng1 (h.ng h.2.2.1.1)
theorem ex_at2 {A : Nat → Prop} {s : State} {H : Heap} {args : Array Value} (h : EX A s H) (hws : ∀ w ∈ wsL_law, w.before args s = true) : ∀ w ∈ vx_at0 RX1 38 "java/lang/IllegalStateException" exNames, w.before args s = true :=
  vx_hat (fun w hw => hws w (List.mem_append_left _ (List.mem_append_right _ hw))) ex_ng2 (h.ng h.2.2.1.2.1)
theorem ex_at3 {A : Nat → Prop} {s : State} {H : Heap} {args : Array Value} (h : EX A s H) (hws : ∀ w ∈ wsL_law, w.before args s = true) : ∀ w ∈ vx_at0 RX1 103 "java/util/NoSuchElementException" exNames, w.before args s = true :=
  vx_hat (fun w hw => hws w (List.mem_append_right _ hw)) ex_ng3 (h.ng h.2.2.1.2.2)
theorem ex_g1 : ∀ w ∈ Cond.classLink RX1 33 "java/lang/IllegalArgumentException" :: Cond.initialized "java/lang/IllegalArgumentException" :: vx_at0 RX1 35 "java/lang/IllegalArgumentException" exNames, vx_ot w = true := by decide +kernel
theorem ex_g2 : ∀ w ∈ Cond.classLink RX1 36 "java/lang/IllegalStateException" :: Cond.initialized "java/lang/IllegalStateException" :: vx_at0 RX1 38 "java/lang/IllegalStateException" exNames, vx_ot w = true := by decide +kernel
theorem ex_g3 : ∀ w ∈ Cond.classLink RX1 101 "java/util/NoSuchElementException" :: Cond.initialized "java/util/NoSuchElementException" :: vx_at0 RX1 103 "java/util/NoSuchElementException" exNames, vx_ot w = true := by decide +kernel
