set_option maxHeartbeats 4000000 in
set_option maxRecDepth 100000 in
theorem w_J6_numberOfLeadingZeros_0f7a4_61 (l : Launch) {p : Program} {e : Env} {s : State} {m : MethodId} {args : Array Value} {below : List Frame} {meth : Method} {c : Code} {A : Nat → Prop} {dC : Nat → ClassId} {dI : Nat → Nat → Nat}  (hx : p.tables.exec = Jvm.exec) (hb : c.code = cJ6_numberOfLeadingZeros_0f7a4) (hr : meth.sig.returnType = (some .int)) (hml : c.maxLocals = 2) (hown : s.vm.findClass RJ6 = some m.cls) (hws : ∀ w ∈ wsL_law, w.before args s = true) (hlocks : meth.locks = false) (hA : ∀ q : Nat, s.heap.size ≤ q → A q) : ∀ (l0 : Int32) (l1 : Int32)  (o_r : Int32), f_J6_numberOfLeadingZeros_0f7a4_b61 l0 l1 = some o_r → ∀ (H : Heap) (locs : List Loc), va_K (dC, dI) vwCl [] s → va_P (dC, dI) vwCl ([] : va_W) H → va_D A ([] : va_W) → va_S A s.heap H locs → ∀ (ls : Array Slot), lv_has ls 2 [(0, .int l0), (1, .int l1)] → W p l e (headSpec (w_J6_numberOfLeadingZeros_0f7a4) ({ frames := 0, cells := 0, slots := 0, locals := 0 } : Room)).room s m args below meth c H locs 0 0 (MQ below (va_Qi (fun r9 (_ : Unit) => r9 = o_r) (fun (_ : Unit) t => va_P (dC, dI) vwCl ([] : va_W) t.heap ∧ va_K (dC, dI) vwCl [] t ∧ va_D A ([] : va_W)) A) args s 0 0 A) (F0 m 61 ls []) := by
  intro l0 l1 o_r h H locs hK hP hD hS ls hl
  unfold f_J6_numberOfLeadingZeros_0f7a4_b61 at h
  refine lv_iload_n hx hb dJ6_numberOfLeadingZeros_0f7a4_61 rfl (lv_at hl 0 rfl) ?_
  refine lv_iconst (v := 4) hx hb dJ6_numberOfLeadingZeros_0f7a4_62 (by decide) ?_
  refine lv_icmp_lt (tgt := 73) hx hb dJ6_numberOfLeadingZeros_0f7a4_63 (by decide) (fun c9 => ?_) (fun c9 => ?_)
  · have h := (if_pos c9).symm.trans h
    refine lv_iload_n hx hb dJ6_numberOfLeadingZeros_0f7a4_73 rfl (lv_at hl 1 rfl) ?_
    refine lv_iload_n hx hb dJ6_numberOfLeadingZeros_0f7a4_74 rfl (lv_at hl 0 rfl) ?_
    refine lv_iconst (v := 1) hx hb dJ6_numberOfLeadingZeros_0f7a4_75 (by decide) ?_
    refine lv_iushr hx hb dJ6_numberOfLeadingZeros_0f7a4_76 rfl ?_
    refine lv_isub hx hb dJ6_numberOfLeadingZeros_0f7a4_77 ?_
    obtain h09 := rt1 h
    subst o_r
    exact W.iret hx hb hr (fun t ht hW => ⟨⟨_, (), rfl, rfl, by rw [ht]; exact hP, va_K.moved hW.alike hK, hD⟩, hS.F ht⟩) hS.2.2 dJ6_numberOfLeadingZeros_0f7a4_78
  · have h := (if_neg c9).symm.trans h
    refine lv_iinc (v := (l1 + (-2))) (lv' := [(1, .int (l1 + (-2))), (0, .int l0)]) hx hb dJ6_numberOfLeadingZeros_0f7a4_66 hl (k := 1) rfl rfl (by decide) rfl (fun ls hl => ?_)
    refine lv_iload_n hx hb dJ6_numberOfLeadingZeros_0f7a4_69 rfl (lv_at hl 1 rfl) ?_
    refine lv_iconst (v := 2) hx hb dJ6_numberOfLeadingZeros_0f7a4_70 (by decide) ?_
    refine lv_iushr hx hb dJ6_numberOfLeadingZeros_0f7a4_71 rfl ?_
    refine lv_istore_n (lv' := [(0, .int ((Int32.toUInt32 l0 >>> (Int32.toUInt32 2 &&& Int32.toUInt32 31)).toInt32)), (1, .int (l1 + (-2)))]) hx hb dJ6_numberOfLeadingZeros_0f7a4_72 rfl hl (by decide) rfl (fun ls hl => ?_)
    refine lv_iload_n hx hb dJ6_numberOfLeadingZeros_0f7a4_73 rfl (lv_at hl 1 rfl) ?_
    refine lv_iload_n hx hb dJ6_numberOfLeadingZeros_0f7a4_74 rfl (lv_at hl 0 rfl) ?_
    refine lv_iconst (v := 1) hx hb dJ6_numberOfLeadingZeros_0f7a4_75 (by decide) ?_
    refine lv_iushr hx hb dJ6_numberOfLeadingZeros_0f7a4_76 rfl ?_
    refine lv_isub hx hb dJ6_numberOfLeadingZeros_0f7a4_77 ?_
    obtain h09 := rt1 h
    subst o_r
    exact W.iret hx hb hr (fun t ht hW => ⟨⟨_, (), rfl, rfl, by rw [ht]; exact hP, va_K.moved hW.alike hK, hD⟩, hS.F ht⟩) hS.2.2 dJ6_numberOfLeadingZeros_0f7a4_78
set_option maxHeartbeats 4000000 in
set_option maxRecDepth 100000 in
theorem w_J6_numberOfLeadingZeros_0f7a4_48 (l : Launch) {p : Program} {e : Env} {s : State} {m : MethodId} {args : Array Value} {below : List Frame} {meth : Method} {c : Code} {A : Nat → Prop} {dC : Nat → ClassId} {dI : Nat → Nat → Nat}  (hx : p.tables.exec = Jvm.exec) (hb : c.code = cJ6_numberOfLeadingZeros_0f7a4) (hr : meth.sig.returnType = (some .int)) (hml : c.maxLocals = 2) (hown : s.vm.findClass RJ6 = some m.cls) (hws : ∀ w ∈ wsL_law, w.before args s = true) (hlocks : meth.locks = false) (hA : ∀ q : Nat, s.heap.size ≤ q → A q) : ∀ (l0 : Int32) (l1 : Int32)  (o_r : Int32), f_J6_numberOfLeadingZeros_0f7a4_b48 l0 l1 = some o_r → ∀ (H : Heap) (locs : List Loc), va_K (dC, dI) vwCl [] s → va_P (dC, dI) vwCl ([] : va_W) H → va_D A ([] : va_W) → va_S A s.heap H locs → ∀ (ls : Array Slot), lv_has ls 2 [(0, .int l0), (1, .int l1)] → W p l e (headSpec (w_J6_numberOfLeadingZeros_0f7a4) ({ frames := 0, cells := 0, slots := 0, locals := 0 } : Room)).room s m args below meth c H locs 0 0 (MQ below (va_Qi (fun r9 (_ : Unit) => r9 = o_r) (fun (_ : Unit) t => va_P (dC, dI) vwCl ([] : va_W) t.heap ∧ va_K (dC, dI) vwCl [] t ∧ va_D A ([] : va_W)) A) args s 0 0 A) (F0 m 48 ls []) := by
  intro l0 l1 o_r h H locs hK hP hD hS ls hl
  unfold f_J6_numberOfLeadingZeros_0f7a4_b48 at h
  refine lv_iload_n hx hb dJ6_numberOfLeadingZeros_0f7a4_48 rfl (lv_at hl 0 rfl) ?_
  refine lv_bipush (v := 16) hx hb dJ6_numberOfLeadingZeros_0f7a4_49 (by decide) ?_
  refine lv_icmp_lt (tgt := 61) hx hb dJ6_numberOfLeadingZeros_0f7a4_51 (by decide) (fun c9 => ?_) (fun c9 => ?_)
  · have h := (if_pos c9).symm.trans h
    exact w_J6_numberOfLeadingZeros_0f7a4_61 l  hx hb hr hml hown hws hlocks hA l0 l1  o_r h H locs hK hP hD hS ls (lv_sub hl [0, 1] rfl)
  · have h := (if_neg c9).symm.trans h
    refine lv_iinc (v := (l1 + (-4))) (lv' := [(1, .int (l1 + (-4))), (0, .int l0)]) hx hb dJ6_numberOfLeadingZeros_0f7a4_54 hl (k := 1) rfl rfl (by decide) rfl (fun ls hl => ?_)
    refine lv_iload_n hx hb dJ6_numberOfLeadingZeros_0f7a4_57 rfl (lv_at hl 1 rfl) ?_
    refine lv_iconst (v := 4) hx hb dJ6_numberOfLeadingZeros_0f7a4_58 (by decide) ?_
    refine lv_iushr hx hb dJ6_numberOfLeadingZeros_0f7a4_59 rfl ?_
    refine lv_istore_n (lv' := [(0, .int ((Int32.toUInt32 l0 >>> (Int32.toUInt32 4 &&& Int32.toUInt32 31)).toInt32)), (1, .int (l1 + (-4)))]) hx hb dJ6_numberOfLeadingZeros_0f7a4_60 rfl hl (by decide) rfl (fun ls hl => ?_)
    exact w_J6_numberOfLeadingZeros_0f7a4_61 l  hx hb hr hml hown hws hlocks hA ((Int32.toUInt32 l0 >>> (Int32.toUInt32 4 &&& Int32.toUInt32 31)).toInt32) (l1 + (-4))  o_r h H locs hK hP hD hS ls (lv_sub hl [0, 1] rfl)
set_option maxHeartbeats 4000000 in
set_option maxRecDepth 100000 in
theorem w_J6_numberOfLeadingZeros_0f7a4_33 (l : Launch) {p : Program} {e : Env} {s : State} {m : MethodId} {args : Array Value} {below : List Frame} {meth : Method} {c : Code} {A : Nat → Prop} {dC : Nat → ClassId} {dI : Nat → Nat → Nat}  (hx : p.tables.exec = Jvm.exec) (hb : c.code = cJ6_numberOfLeadingZeros_0f7a4) (hr : meth.sig.returnType = (some .int)) (hml : c.maxLocals = 2) (hown : s.vm.findClass RJ6 = some m.cls) (hws : ∀ w ∈ wsL_law, w.before args s = true) (hlocks : meth.locks = false) (hA : ∀ q : Nat, s.heap.size ≤ q → A q) : ∀ (l0 : Int32) (l1 : Int32)  (o_r : Int32), f_J6_numberOfLeadingZeros_0f7a4_b33 l0 l1 = some o_r → ∀ (H : Heap) (locs : List Loc), va_K (dC, dI) vwCl [] s → va_P (dC, dI) vwCl ([] : va_W) H → va_D A ([] : va_W) → va_S A s.heap H locs → ∀ (ls : Array Slot), lv_has ls 2 [(0, .int l0), (1, .int l1)] → W p l e (headSpec (w_J6_numberOfLeadingZeros_0f7a4) ({ frames := 0, cells := 0, slots := 0, locals := 0 } : Room)).room s m args below meth c H locs 0 0 (MQ below (va_Qi (fun r9 (_ : Unit) => r9 = o_r) (fun (_ : Unit) t => va_P (dC, dI) vwCl ([] : va_W) t.heap ∧ va_K (dC, dI) vwCl [] t ∧ va_D A ([] : va_W)) A) args s 0 0 A) (F0 m 33 ls []) := by
  intro l0 l1 o_r h H locs hK hP hD hS ls hl
  unfold f_J6_numberOfLeadingZeros_0f7a4_b33 at h
  refine lv_iload_n hx hb dJ6_numberOfLeadingZeros_0f7a4_33 rfl (lv_at hl 0 rfl) ?_
  refine lv_sipush (v := 256) hx hb dJ6_numberOfLeadingZeros_0f7a4_34 (by decide) ?_
  refine lv_icmp_lt (tgt := 48) hx hb dJ6_numberOfLeadingZeros_0f7a4_37 (by decide) (fun c9 => ?_) (fun c9 => ?_)
  · have h := (if_pos c9).symm.trans h
    exact w_J6_numberOfLeadingZeros_0f7a4_48 l  hx hb hr hml hown hws hlocks hA l0 l1  o_r h H locs hK hP hD hS ls (lv_sub hl [0, 1] rfl)
  · have h := (if_neg c9).symm.trans h
    refine lv_iinc (v := (l1 + (-8))) (lv' := [(1, .int (l1 + (-8))), (0, .int l0)]) hx hb dJ6_numberOfLeadingZeros_0f7a4_40 hl (k := 1) rfl rfl (by decide) rfl (fun ls hl => ?_)
    refine lv_iload_n hx hb dJ6_numberOfLeadingZeros_0f7a4_43 rfl (lv_at hl 1 rfl) ?_
    refine lv_bipush (v := 8) hx hb dJ6_numberOfLeadingZeros_0f7a4_44 (by decide) ?_
    refine lv_iushr hx hb dJ6_numberOfLeadingZeros_0f7a4_46 rfl ?_
    refine lv_istore_n (lv' := [(0, .int ((Int32.toUInt32 l0 >>> (Int32.toUInt32 8 &&& Int32.toUInt32 31)).toInt32)), (1, .int (l1 + (-8)))]) hx hb dJ6_numberOfLeadingZeros_0f7a4_47 rfl hl (by decide) rfl (fun ls hl => ?_)
    exact w_J6_numberOfLeadingZeros_0f7a4_48 l  hx hb hr hml hown hws hlocks hA ((Int32.toUInt32 l0 >>> (Int32.toUInt32 8 &&& Int32.toUInt32 31)).toInt32) (l1 + (-8))  o_r h H locs hK hP hD hS ls (lv_sub hl [0, 1] rfl)
set_option maxHeartbeats 4000000 in
set_option maxRecDepth 100000 in
theorem c_J6_numberOfLeadingZeros_0f7a4 (l : Launch) (dC : Nat → ClassId) (dI : Nat → Nat → Nat)   (sz : Nat) (l0 : Int32)  (o_r : Int32) (h : f_J6_numberOfLeadingZeros_0f7a4 l0 = some o_r) : Met l yJ6_numberOfLeadingZeros_0f7a4 w_J6_numberOfLeadingZeros_0f7a4 ({ frames := 0, cells := 0, slots := 0, locals := 0 } : Room) (va_Pc [.int l0] (fun U => U.heap.size = sz ∧ va_P (dC, dI) vwCl ([] : va_W) U.heap ∧ va_K (dC, dI) vwCl [] U ∧ va_D (fun _ => True) ([] : va_W))) (va_Qi (fun r9 (_ : Unit) => r9 = o_r) (fun (_ : Unit) t => va_P (dC, dI) vwCl ([] : va_W) t.heap ∧ va_K (dC, dI) vwCl [] t ∧ va_D (va_A ([] : va_W) sz) ([] : va_W)) (va_A ([] : va_W) sz)) 0 0 (va_A ([] : va_W) sz) := by
  refine va_MetF (cc := cJ6_numberOfLeadingZeros_0f7a4) (maxL := 2) (ret := (some .int)) (by decide +kernel) rfl ?_
  intro p e s m args below meth c s₁ B hml hv
  obtain ⟨rfl, hsz, hP, hK, hD0⟩ := hv
  have hx := B.exec
  have hb := B.bytes
  have hr := B.returns
  have hws : ∀ w ∈ wsL_law, w.before _ s = true := fun w hw => atoms_spec (ws := w_J6_numberOfLeadingZeros_0f7a4) B.pre w (List.mem_cons_of_mem _ hw)
  have hown : s.vm.findClass RJ6 = some m.cls := findClass_of_methodNamed B.named
  have hlocks := B.notSynchronized
  subst hsz
  have hD := hD0.self (sz := s.heap.size)
  generalize hAe : va_A ([] : va_W) s.heap.size = A at hD ⊢
  have hA : ∀ q : Nat, s.heap.size ≤ q → A q := fun q h => by rw [← hAe]; exact Or.inr h
  have hS : va_S A s.heap s.heap [] := va_S.rf
  have hl := lv_entry ([.int l0]) (n := 2) (Nat.le_of_ble_eq_true rfl)
  rw [lg_entry_eq]
  generalize (lg_sl ([.int l0]) ++ List.replicate (2 - (lg_sl ([.int l0])).length) Slot.unset).toArray = ls at hl ⊢
  have hl : lv_has ls 2 [(0, .int l0)] := hl
  unfold f_J6_numberOfLeadingZeros_0f7a4 at h
  refine lv_iload_n hx hb dJ6_numberOfLeadingZeros_0f7a4_0 rfl (lv_at hl 0 rfl) ?_
  refine lv_if_gt (tgt := 15) hx hb dJ6_numberOfLeadingZeros_0f7a4_1 (by decide) (fun c9 => ?_) (fun c9 => ?_)
  · have h := (if_pos c9).symm.trans h
    refine lv_bipush (v := 31) hx hb dJ6_numberOfLeadingZeros_0f7a4_15 (by decide) ?_
    refine lv_istore_n (lv' := [(1, .int 31), (0, .int l0)]) hx hb dJ6_numberOfLeadingZeros_0f7a4_17 rfl hl (by decide) rfl (fun ls hl => ?_)
    refine lv_iload_n hx hb dJ6_numberOfLeadingZeros_0f7a4_18 rfl (lv_at hl 1 rfl) ?_
    refine lv_ldcw (v := 65536) hx hb hown (hws _ ww_188) dJ6_numberOfLeadingZeros_0f7a4_19 ?_
    refine lv_icmp_lt (tgt := 33) hx hb dJ6_numberOfLeadingZeros_0f7a4_22 (by decide) (fun c9 => ?_) (fun c9 => ?_)
    · have h := (if_pos c9).symm.trans h
      exact w_J6_numberOfLeadingZeros_0f7a4_33 l  hx hb hr hml hown hws hlocks hA l0 31  o_r h s.heap [] hK hP hD hS ls (lv_sub hl [1, 0] rfl)
    · have h := (if_neg c9).symm.trans h
      refine lv_iinc (v := (31 + (-16))) (lv' := [(1, .int (31 + (-16))), (0, .int l0)]) hx hb dJ6_numberOfLeadingZeros_0f7a4_25 hl (k := 0) rfl rfl (by decide) rfl (fun ls hl => ?_)
      refine lv_iload_n hx hb dJ6_numberOfLeadingZeros_0f7a4_28 rfl (lv_at hl 1 rfl) ?_
      refine lv_bipush (v := 16) hx hb dJ6_numberOfLeadingZeros_0f7a4_29 (by decide) ?_
      refine lv_iushr hx hb dJ6_numberOfLeadingZeros_0f7a4_31 rfl ?_
      refine lv_istore_n (lv' := [(0, .int ((Int32.toUInt32 l0 >>> (Int32.toUInt32 16 &&& Int32.toUInt32 31)).toInt32)), (1, .int (31 + (-16)))]) hx hb dJ6_numberOfLeadingZeros_0f7a4_32 rfl hl (by decide) rfl (fun ls hl => ?_)
      exact w_J6_numberOfLeadingZeros_0f7a4_33 l  hx hb hr hml hown hws hlocks hA ((Int32.toUInt32 l0 >>> (Int32.toUInt32 16 &&& Int32.toUInt32 31)).toInt32) (31 + (-16))  o_r h s.heap [] hK hP hD hS ls (lv_sub hl [0, 1] rfl)
  · have h := (if_neg c9).symm.trans h
    refine lv_iload_n hx hb dJ6_numberOfLeadingZeros_0f7a4_4 rfl (lv_at hl 0 rfl) ?_
    refine lv_if_ne (tgt := 13) hx hb dJ6_numberOfLeadingZeros_0f7a4_5 (by decide) (fun c9 => ?_) (fun c9 => ?_)
    · have h := (if_neg c9).symm.trans h
      refine lv_iconst (v := 0) hx hb dJ6_numberOfLeadingZeros_0f7a4_13 (by decide) ?_
      obtain h09 := rt1 h
      subst o_r
      exact W.iret hx hb hr (fun t ht hW => ⟨⟨_, (), rfl, rfl, by rw [ht]; exact hP, va_K.moved hW.alike hK, hD⟩, hS.F ht⟩) hS.2.2 dJ6_numberOfLeadingZeros_0f7a4_14
    · have h := (if_pos c9).symm.trans h
      refine lv_bipush (v := 32) hx hb dJ6_numberOfLeadingZeros_0f7a4_8 (by decide) ?_
      refine lv_goto (tgt := 14) hx hb dJ6_numberOfLeadingZeros_0f7a4_10 (by decide) ?_
      obtain h09 := rt1 h
      subst o_r
      exact W.iret hx hb hr (fun t ht hW => ⟨⟨_, (), rfl, rfl, by rw [ht]; exact hP, va_K.moved hW.alike hK, hD⟩, hS.F ht⟩) hS.2.2 dJ6_numberOfLeadingZeros_0f7a4_14
set_option maxHeartbeats 4000000 in
set_option maxRecDepth 100000 in
theorem c_J13_numberOfLeadingZeros_95d88 (l : Launch) (dC : Nat → ClassId) (dI : Nat → Nat → Nat)   (sz : Nat) (l0 : Int64)  (o_r : Int32) (h : f_J13_numberOfLeadingZeros_95d88 l0 = some o_r) : Met l yJ13_numberOfLeadingZeros_95d88 w_J13_numberOfLeadingZeros_95d88 ({ frames := 1, cells := 0, slots := 0, locals := 21 } : Room) (va_Pc [.long l0] (fun U => U.heap.size = sz ∧ va_P (dC, dI) vwCl ([] : va_W) U.heap ∧ va_K (dC, dI) vwCl [] U ∧ va_D (fun _ => True) ([] : va_W))) (va_Qi (fun r9 (_ : Unit) => r9 = o_r) (fun (_ : Unit) t => va_P (dC, dI) vwCl ([] : va_W) t.heap ∧ va_K (dC, dI) vwCl [] t ∧ va_D (va_A ([] : va_W) sz) ([] : va_W)) (va_A ([] : va_W) sz)) 0 0 (va_A ([] : va_W) sz) := by
  refine va_MetF (cc := cJ13_numberOfLeadingZeros_95d88) (maxL := 3) (ret := (some .int)) (by decide +kernel) rfl ?_
  intro p e s m args below meth c s₁ B hml hv
  obtain ⟨rfl, hsz, hP, hK, hD0⟩ := hv
  have hx := B.exec
  have hb := B.bytes
  have hr := B.returns
  have hws : ∀ w ∈ wsL_law, w.before _ s = true := fun w hw => atoms_spec (ws := w_J13_numberOfLeadingZeros_95d88) B.pre w (List.mem_cons_of_mem _ hw)
  have hown : s.vm.findClass RJ13 = some m.cls := findClass_of_methodNamed B.named
  have hlocks := B.notSynchronized
  subst hsz
  have hD := hD0.self (sz := s.heap.size)
  generalize hAe : va_A ([] : va_W) s.heap.size = A at hD ⊢
  have hA : ∀ q : Nat, s.heap.size ≤ q → A q := fun q h => by rw [← hAe]; exact Or.inr h
  have hS : va_S A s.heap s.heap [] := va_S.rf
  have hl := lv_entry ([.long l0]) (n := 3) (Nat.le_of_ble_eq_true rfl)
  rw [lg_entry_eq]
  generalize (lg_sl ([.long l0]) ++ List.replicate (3 - (lg_sl ([.long l0])).length) Slot.unset).toArray = ls at hl ⊢
  have hl : lv_has ls 3 [(0, .long l0)] := hl
  unfold f_J13_numberOfLeadingZeros_95d88 at h
  refine lv_lload_n hx hb dJ13_numberOfLeadingZeros_95d88_0 rfl (lv_at hl 0 rfl) ?_
  refine lv_bipush (v := 32) hx hb dJ13_numberOfLeadingZeros_95d88_1 (by decide) ?_
  refine lv_lushr hx hb dJ13_numberOfLeadingZeros_95d88_3 rfl ?_
  refine lv_l2i hx hb dJ13_numberOfLeadingZeros_95d88_4 rfl ?_
  refine lv_istore_n (lv' := [(2, .int (Int64.toInt32 ((Int64.toUInt64 l0 >>> (Int64.toUInt64 (Int32.toInt64 32) &&& Int64.toUInt64 63)).toInt64))), (0, .long l0)]) hx hb dJ13_numberOfLeadingZeros_95d88_5 rfl hl (by decide) rfl (fun ls hl => ?_)
  refine lv_iload_n hx hb dJ13_numberOfLeadingZeros_95d88_6 rfl (lv_at hl 0 rfl) ?_
  refine lv_if_ne (tgt := 21) hx hb dJ13_numberOfLeadingZeros_95d88_7 (by decide) (fun c9 => ?_) (fun c9 => ?_)
  · have h := (if_neg c9).symm.trans h
    refine lv_iload_n hx hb dJ13_numberOfLeadingZeros_95d88_21 rfl (lv_at hl 0 rfl) ?_
    obtain ⟨r22, hc, h⟩ := bd h
    have hPc := hP.sub (ws' := ([] : va_W)) [] rfl
    have hDc := hD.sub (ws' := ([] : va_W)) [] (by decide) rfl
    have hKc := hK.sub (tys' := []) [] rfl
    have hFc := va_free (wc := ([] : va_W)) hD hS hA [] rfl
    refine va_calli (va_runS (As := [.int (Int64.toInt32 ((Int64.toUInt64 l0 >>> (Int64.toUInt64 (Int32.toInt64 32) &&& Int64.toUInt64 63)).toInt64))]) (rest := []) ⟨hx, hb, hml, hown, hws⟩ (c_J6_numberOfLeadingZeros_0f7a4 l dC dI   (Array.size s.heap) (Int64.toInt32 ((Int64.toUInt64 l0 >>> (Int64.toUInt64 (Int32.toInt64 32) &&& Int64.toUInt64 63)).toInt64))  r22 hc) (va_cwS 1 hws (gS ww_184 ww_185 ww_186 ww_187) rfl rfl rfl (by decide +kernel) ⟨Nat.le_of_ble_eq_true rfl, Nat.le_of_ble_eq_true rfl⟩) ⟨(fun a U g mk q => by obtain ⟨q0, q1, qP, qK, qD⟩ := q; exact ⟨q0, q1, qP, va_K.moved (u := U) (U := U.calling g mk a) (Vm.Alike.refl U.vm) qK, qD⟩), (fun U hU hW => ⟨rfl, by rw [hU], by rw [hU]; exact hPc, va_K.moved hW.alike hKc, hDc.weaken (fun _ _ _ _ => trivial)⟩)⟩ rfl rfl hl.1 rfl (lv_room (Nat.le_of_ble_eq_true rfl)) dJ13_numberOfLeadingZeros_95d88_22 ⟨Nat.zero_le _, Nat.zero_le _⟩) hS (fun q _ h => hFc q h) hFc (fun r9 u9 t H1 locs ht hvm hw hB hz1 hk1 hS => ?_)
    obtain ⟨hP1, hK1, hD1⟩ := hB
    rw [ht] at hP1
    subst r9
    obtain ⟨hP, hD⟩ := va_join (wr := []) (w1 := ([] : va_W)) hP hD [] [] rfl rfl (by decide) (by decide) hk1 hFc hP1 hD1
    generalize H1 = H at hP hS ⊢
    have hP : va_P (dC, dI) vwCl ([] : va_W) H := hP.sub [] rfl
    have hD : va_D A ([] : va_W) := hD.sub [] (by decide) rfl
    clear hP1 hK1 hD1 hPc hDc hKc hFc hk1 hz1 ht hvm
    obtain h09 := rt1 h
    subst o_r
    exact W.iret hx hb hr (fun t ht hW => ⟨⟨_, (), rfl, rfl, by rw [ht]; exact hP, va_K.moved hW.alike hK, hD⟩, hS.F ht⟩) hS.2.2 dJ13_numberOfLeadingZeros_95d88_25
  · have h := (if_pos c9).symm.trans h
    refine lv_bipush (v := 32) hx hb dJ13_numberOfLeadingZeros_95d88_10 (by decide) ?_
    refine lv_lload_n hx hb dJ13_numberOfLeadingZeros_95d88_12 rfl (lv_at hl 1 rfl) ?_
    refine lv_l2i hx hb dJ13_numberOfLeadingZeros_95d88_13 rfl ?_
    obtain ⟨r14, hc, h⟩ := bd h
    have hPc := hP.sub (ws' := ([] : va_W)) [] rfl
    have hDc := hD.sub (ws' := ([] : va_W)) [] (by decide) rfl
    have hKc := hK.sub (tys' := []) [] rfl
    have hFc := va_free (wc := ([] : va_W)) hD hS hA [] rfl
    refine va_calli (va_runS (As := [.int (Int64.toInt32 l0)]) (rest := [.int 32]) ⟨hx, hb, hml, hown, hws⟩ (c_J6_numberOfLeadingZeros_0f7a4 l dC dI   (Array.size s.heap) (Int64.toInt32 l0)  r14 hc) (va_cwS 1 hws (gS ww_184 ww_185 ww_186 ww_187) rfl rfl rfl (by decide +kernel) ⟨Nat.le_of_ble_eq_true rfl, Nat.le_of_ble_eq_true rfl⟩) ⟨(fun a U g mk q => by obtain ⟨q0, q1, qP, qK, qD⟩ := q; exact ⟨q0, q1, qP, va_K.moved (u := U) (U := U.calling g mk a) (Vm.Alike.refl U.vm) qK, qD⟩), (fun U hU hW => ⟨rfl, by rw [hU], by rw [hU]; exact hPc, va_K.moved hW.alike hKc, hDc.weaken (fun _ _ _ _ => trivial)⟩)⟩ rfl rfl hl.1 rfl (lv_room (Nat.le_of_ble_eq_true rfl)) dJ13_numberOfLeadingZeros_95d88_14 ⟨Nat.zero_le _, Nat.zero_le _⟩) hS (fun q _ h => hFc q h) hFc (fun r9 u9 t H1 locs ht hvm hw hB hz1 hk1 hS => ?_)
    obtain ⟨hP1, hK1, hD1⟩ := hB
    rw [ht] at hP1
    subst r9
    obtain ⟨hP, hD⟩ := va_join (wr := []) (w1 := ([] : va_W)) hP hD [] [] rfl rfl (by decide) (by decide) hk1 hFc hP1 hD1
    generalize H1 = H at hP hS ⊢
    have hP : va_P (dC, dI) vwCl ([] : va_W) H := hP.sub [] rfl
    have hD : va_D A ([] : va_W) := hD.sub [] (by decide) rfl
    clear hP1 hK1 hD1 hPc hDc hKc hFc hk1 hz1 ht hvm
    refine lv_iadd hx hb dJ13_numberOfLeadingZeros_95d88_17 ?_
    refine lv_goto (tgt := 25) hx hb dJ13_numberOfLeadingZeros_95d88_18 (by decide) ?_
    obtain h09 := rt1 h
    subst o_r
    exact W.iret hx hb hr (fun t ht hW => ⟨⟨_, (), rfl, rfl, by rw [ht]; exact hP, va_K.moved hW.alike hK, hD⟩, hS.F ht⟩) hS.2.2 dJ13_numberOfLeadingZeros_95d88_25
set_option maxHeartbeats 4000000 in
set_option maxRecDepth 100000 in
theorem c_X1_bitsToScale (l : Launch) (dC : Nat → ClassId) (dI : Nat → Nat → Nat)  (a_this a_text a_number a_number_limbs a_rounded a_lowEdge a_highEdge : Nat) (c_number_limbs : ClassId) (sz : Nat) (l1 : Int32) (v_length : Int32) (v_digitsStart : Int32) (v_digitsEnd : Int32) (v_unitsAt : Int32) (v_tenPower : Int32) (v_number_first : Int32) (v_number_last : Int32) (v_number_limbs : Nat → Int64) (o_r : Int32) (h : f_X1_bitsToScale l1 v_number_limbs = some o_r) : Met l yX1_bitsToScale w_X1_bitsToScale ({ frames := 2, cells := 0, slots := 0, locals := 43 } : Room) (va_Pc [.ref a_this, .int l1] (fun U => U.heap.size = sz ∧ va_P (dC, dI) vwCl (wd_X1_bitsToScale a_this a_text a_number a_number_limbs a_rounded a_lowEdge a_highEdge c_number_limbs v_length v_digitsStart v_digitsEnd v_unitsAt v_tenPower v_number_first v_number_last v_number_limbs) U.heap ∧ va_K (dC, dI) vwCl [(c_number_limbs, .long)] U ∧ va_D (fun _ => True) (wd_X1_bitsToScale a_this a_text a_number a_number_limbs a_rounded a_lowEdge a_highEdge c_number_limbs v_length v_digitsStart v_digitsEnd v_unitsAt v_tenPower v_number_first v_number_last v_number_limbs))) (va_Qi (fun r9 (_ : Unit) => r9 = o_r) (fun (_ : Unit) t => va_P (dC, dI) vwCl (wd_X1_bitsToScale a_this a_text a_number a_number_limbs a_rounded a_lowEdge a_highEdge c_number_limbs v_length v_digitsStart v_digitsEnd v_unitsAt v_tenPower v_number_first v_number_last v_number_limbs) t.heap ∧ va_K (dC, dI) vwCl [(c_number_limbs, .long)] t ∧ va_D (va_A (wd_X1_bitsToScale a_this a_text a_number a_number_limbs a_rounded a_lowEdge a_highEdge c_number_limbs v_length v_digitsStart v_digitsEnd v_unitsAt v_tenPower v_number_first v_number_last v_number_limbs) sz) (wd_X1_bitsToScale a_this a_text a_number a_number_limbs a_rounded a_lowEdge a_highEdge c_number_limbs v_length v_digitsStart v_digitsEnd v_unitsAt v_tenPower v_number_first v_number_last v_number_limbs)) (va_A (wd_X1_bitsToScale a_this a_text a_number a_number_limbs a_rounded a_lowEdge a_highEdge c_number_limbs v_length v_digitsStart v_digitsEnd v_unitsAt v_tenPower v_number_first v_number_last v_number_limbs) sz)) 0 0 (va_A (wd_X1_bitsToScale a_this a_text a_number a_number_limbs a_rounded a_lowEdge a_highEdge c_number_limbs v_length v_digitsStart v_digitsEnd v_unitsAt v_tenPower v_number_first v_number_last v_number_limbs) sz) := by
  refine Met.ofW (cc := cX1_bitsToScale) (maxL := 4) (ret := (some .int)) (by decide) rfl ?_
  intro p e s m args below meth c s₁ B hml hv
  obtain ⟨rfl, hsz, hP, hK, hD0⟩ := hv
  have hx := B.exec
  have hb := B.bytes
  have hr := B.returns
  have hws : ∀ w ∈ wsL_law, w.before _ s = true := fun w hw => atoms_spec (ws := w_X1_bitsToScale) B.pre w (List.mem_cons_of_mem _ hw)
  have hown : s.vm.findClass RX1 = some m.cls := findClass_of_methodNamed B.named
  have hlocks := B.notSynchronized
  subst hsz
  have hD := hD0.self (sz := s.heap.size)
  generalize hAe : va_A (wd_X1_bitsToScale a_this a_text a_number a_number_limbs a_rounded a_lowEdge a_highEdge c_number_limbs v_length v_digitsStart v_digitsEnd v_unitsAt v_tenPower v_number_first v_number_last v_number_limbs) s.heap.size = A at hD ⊢
  have hA : ∀ q : Nat, s.heap.size ≤ q → A q := fun q h => by rw [← hAe]; exact Or.inr h
  have hS : va_S A s.heap s.heap [] := va_S.rf
  have hl := lv_entry ([.ref a_this, .int l1]) (n := 4) (Nat.le_of_ble_eq_true rfl)
  rw [lg_entry_eq]
  generalize (lg_sl ([.ref a_this, .int l1]) ++ List.replicate (4 - (lg_sl ([.ref a_this, .int l1])).length) Slot.unset).toArray = ls at hl ⊢
  have hl : lv_has ls 4 [(0, .ref a_this), (1, .int l1)] := hl
  unfold f_X1_bitsToScale at h
  refine lv_bipush (v := 64) hx hb dX1_bitsToScale_0 (by decide) ?_
  refine lv_aload_n hx hb dX1_bitsToScale_2 rfl (lv_at hl 0 rfl) ?_
  refine va_get (D := (dC, dI)) (ci := 1) (v := .ref a_number) (C := RX1) (T := TX1) (N := 10) hx hb hws inlX1 hown hK hP 0 rfl rfl 6 (by decide) (hws _ ww_19) (fun _ h9 => h9) rfl dX1_bitsToScale_3 ?_
  obtain ⟨r6, hc, h⟩ := bd h
  have hPc := hP.sub (ws' := (wd_X0_whole a_number a_number_limbs c_number_limbs v_number_first v_number_last v_number_limbs)) [1, 2] rfl
  have hDc := hD.sub (ws' := (wd_X0_whole a_number a_number_limbs c_number_limbs v_number_first v_number_last v_number_limbs)) [1, 2] (by decide) rfl
  have hKc := hK.sub (tys' := [(c_number_limbs, .long)]) [0] rfl
  have hFc := va_free (wc := (wd_X0_whole a_number a_number_limbs c_number_limbs v_number_first v_number_last v_number_limbs)) hD hS hA [1, 2] rfl
  refine va_calll (va_runV (As := []) (rest := [.int 64]) ⟨hx, hb, hml, hown, hws⟩ (c_X0_whole l dC dI  a_number a_number_limbs c_number_limbs (Array.size s.heap)  v_number_first v_number_last v_number_limbs r6 hc) (cwV 0 hws (gV ww_176 ww_177 ww_178 ww_18 ww_179) rfl rfl rfl (by decide +kernel) ⟨Nat.le_of_ble_eq_true rfl, Nat.le_of_ble_eq_true rfl⟩) ⟨(fun a U g mk q => by obtain ⟨q0, q1, qP, qK, qD⟩ := q; exact ⟨q0, q1, qP, va_K.moved (u := U) (U := U.calling g mk a) (Vm.Alike.refl U.vm) qK, qD⟩), va_recv hKc hPc (ci := 0) (q0 := 0) rfl rfl, (fun U hU hW => ⟨rfl, by rw [hU], by rw [hU]; exact hPc, va_K.moved hW.alike hKc, hDc.weaken (fun _ _ _ _ => trivial)⟩)⟩ rfl rfl hl.1 rfl (lv_room (Nat.le_of_ble_eq_true rfl)) dX1_bitsToScale_6 ⟨Nat.zero_le _, Nat.zero_le _⟩) hS (fun q _ h => hFc q h) hFc (fun r9 u9 t H1 locs ht hvm hw hB hz1 hk1 hS => ?_)
  obtain ⟨hP1, hK1, hD1⟩ := hB
  rw [ht] at hP1
  subst r9
  obtain ⟨hP, hD⟩ := va_join (wr := [(a_this, .inr (1, [.ref a_text, .int v_length, .int v_digitsStart, .int v_digitsEnd, .int v_unitsAt, .int v_tenPower, .ref a_number, .ref a_rounded, .ref a_lowEdge, .ref a_highEdge]))]) (w1 := (wd_X0_whole a_number a_number_limbs c_number_limbs v_number_first v_number_last v_number_limbs)) hP hD [1, 2] [0] rfl rfl (by decide) (by decide) hk1 hFc hP1 hD1
  generalize H1 = H at hP hS ⊢
  have hP : va_P (dC, dI) vwCl (wd_X1_bitsToScale a_this a_text a_number a_number_limbs a_rounded a_lowEdge a_highEdge c_number_limbs v_length v_digitsStart v_digitsEnd v_unitsAt v_tenPower v_number_first v_number_last v_number_limbs) H := hP.sub [0, 1, 2] rfl
  have hD : va_D A (wd_X1_bitsToScale a_this a_text a_number a_number_limbs a_rounded a_lowEdge a_highEdge c_number_limbs v_length v_digitsStart v_digitsEnd v_unitsAt v_tenPower v_number_first v_number_last v_number_limbs) := hD.sub [0, 1, 2] (by decide) rfl
  clear hP1 hK1 hD1 hPc hDc hKc hFc hk1 hz1 ht hvm
  obtain ⟨r9, hc, h⟩ := bd h
  have hPc := hP.sub (ws' := ([] : va_W)) [] rfl
  have hDc := hD.sub (ws' := ([] : va_W)) [] (by decide) rfl
  have hKc := hK.sub (tys' := []) [] rfl
  have hFc := va_free (wc := ([] : va_W)) hD hS hA [] rfl
  refine va_calli (va_runS (As := [.long r6]) (rest := [.int 64]) ⟨hx, hb, hml, hown, hws⟩ (c_J13_numberOfLeadingZeros_95d88 l dC dI   (Array.size H) r6  r9 hc) (va_cwS 1 hws (gS ww_180 ww_181 ww_182 ww_183) rfl rfl rfl (by decide +kernel) ⟨Nat.le_of_ble_eq_true rfl, Nat.le_of_ble_eq_true rfl⟩) ⟨(fun a U g mk q => by obtain ⟨q0, q1, qP, qK, qD⟩ := q; exact ⟨q0, q1, qP, va_K.moved (u := U) (U := U.calling g mk a) (Vm.Alike.refl U.vm) qK, qD⟩), (fun U hU hW => ⟨rfl, by rw [hU], by rw [hU]; exact hPc, va_K.moved hW.alike hKc, hDc.weaken (fun _ _ _ _ => trivial)⟩)⟩ rfl rfl hl.1 rfl (lv_room (Nat.le_of_ble_eq_true rfl)) dX1_bitsToScale_9 ⟨Nat.zero_le _, Nat.zero_le _⟩) hS (fun q _ h => hFc q h) hFc (fun r9 u9 t H1 locs ht hvm hw hB hz1 hk1 hS => ?_)
  obtain ⟨hP1, hK1, hD1⟩ := hB
  rw [ht] at hP1
  subst r9
  obtain ⟨hP, hD⟩ := va_join (wr := [(a_this, .inr (1, [.ref a_text, .int v_length, .int v_digitsStart, .int v_digitsEnd, .int v_unitsAt, .int v_tenPower, .ref a_number, .ref a_rounded, .ref a_lowEdge, .ref a_highEdge])), (a_number, .inr (0, [.ref a_number_limbs, .int v_number_first, .int v_number_last])), (a_number_limbs, .inl (c_number_limbs, 160, .inr (.inl v_number_limbs)))]) (w1 := ([] : va_W)) hP hD [] [0, 1, 2] rfl rfl (by decide) (by decide) hk1 hFc hP1 hD1
  generalize H1 = H at hP hS ⊢
  have hP : va_P (dC, dI) vwCl (wd_X1_bitsToScale a_this a_text a_number a_number_limbs a_rounded a_lowEdge a_highEdge c_number_limbs v_length v_digitsStart v_digitsEnd v_unitsAt v_tenPower v_number_first v_number_last v_number_limbs) H := hP.sub [0, 1, 2] rfl
  have hD : va_D A (wd_X1_bitsToScale a_this a_text a_number a_number_limbs a_rounded a_lowEdge a_highEdge c_number_limbs v_length v_digitsStart v_digitsEnd v_unitsAt v_tenPower v_number_first v_number_last v_number_limbs) := hD.sub [0, 1, 2] (by decide) rfl
  clear hP1 hK1 hD1 hPc hDc hKc hFc hk1 hz1 ht hvm
  refine lv_isub hx hb dX1_bitsToScale_12 ?_
  refine lv_istore_n (lv' := [(2, .int (64 - r9)), (0, .ref a_this), (1, .int l1)]) hx hb dX1_bitsToScale_13 rfl hl (by decide) rfl (fun ls hl => ?_)
  refine lv_bipush (v := 53) hx hb dX1_bitsToScale_14 (by decide) ?_
  refine lv_iload_n hx hb dX1_bitsToScale_16 rfl (lv_at hl 0 rfl) ?_
  refine lv_isub hx hb dX1_bitsToScale_17 ?_
  refine lv_bipush (v := 33) hx hb dX1_bitsToScale_18 (by decide) ?_
  refine va_mmin hx hb (hml.trans hl.1.symm) hown (hws _ ww_175) (hws _ ww_126) (hws _ ww_127) (hws _ ww_128) (Nat.le_of_ble_eq_true rfl) (Nat.le_of_ble_eq_true rfl) (Nat.le_of_ble_eq_true rfl) (Nat.le_of_ble_eq_true rfl) dX1_bitsToScale_20 ?_
  refine lv_istore_n (lv' := [(3, .int (if 33 < (53 - (64 - r9)) then 33 else (53 - (64 - r9)))), (2, .int (64 - r9)), (0, .ref a_this), (1, .int l1)]) hx hb dX1_bitsToScale_23 rfl hl (by decide) rfl (fun ls hl => ?_)
  refine lv_iload_n hx hb dX1_bitsToScale_24 rfl (lv_at hl 0 rfl) ?_
  refine lv_iload_n hx hb dX1_bitsToScale_25 rfl (lv_at hl 3 rfl) ?_
  refine lv_sipush (v := (-1074)) hx hb dX1_bitsToScale_26 (by decide) ?_
  refine lv_isub hx hb dX1_bitsToScale_29 ?_
  refine va_mmin hx hb (hml.trans hl.1.symm) hown (hws _ ww_175) (hws _ ww_126) (hws _ ww_127) (hws _ ww_128) (Nat.le_of_ble_eq_true rfl) (Nat.le_of_ble_eq_true rfl) (Nat.le_of_ble_eq_true rfl) (Nat.le_of_ble_eq_true rfl) dX1_bitsToScale_30 ?_
  obtain h09 := rt1 h
  subst o_r
  exact W.iret hx hb hr (fun t ht hW => ⟨⟨_, (), rfl, rfl, by rw [ht]; exact hP, va_K.moved hW.alike hK, hD⟩, hS.F ht⟩) hS.2.2 dX1_bitsToScale_33
