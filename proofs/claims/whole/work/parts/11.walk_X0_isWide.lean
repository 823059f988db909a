set_option maxHeartbeats 4000000 in
set_option maxRecDepth 100000 in
theorem c_X0_isWide (l : Launch) (dC : Nat → ClassId) (dI : Nat → Nat → Nat)  (a_this a_limbs : Nat) (sz : Nat)  (v_first : Int32) (v_last : Int32) (o_r : Int32) (h : f_X0_isWide v_first = some o_r) : Met l yX0_isWide w_X0_isWide ({ frames := 0, cells := 0, slots := 0, locals := 0 } : Room) (va_Pc [.ref a_this] (fun U => U.heap.size = sz ∧ va_P (dC, dI) vwCl (wd_X0_isWide a_this a_limbs v_first v_last) U.heap ∧ va_K (dC, dI) vwCl [] U ∧ va_D (fun _ => True) (wd_X0_isWide a_this a_limbs v_first v_last))) (va_Qi (fun r9 (_ : Unit) => r9 = o_r) (fun (_ : Unit) t => va_P (dC, dI) vwCl (wd_X0_isWide a_this a_limbs v_first v_last) t.heap ∧ va_K (dC, dI) vwCl [] t ∧ va_D (va_A (wd_X0_isWide a_this a_limbs v_first v_last) sz) (wd_X0_isWide a_this a_limbs v_first v_last)) (va_A (wd_X0_isWide a_this a_limbs v_first v_last) sz)) 0 0 (va_A (wd_X0_isWide a_this a_limbs v_first v_last) sz) := by
  refine Met.ofW (cc := cX0_isWide) (maxL := 1) (ret := (some .boolean)) (by decide) rfl ?_
  intro p e s m args below meth c s₁ B hml hv
  obtain ⟨rfl, hsz, hP, hK, hD0⟩ := hv
  have hx := B.exec
  have hb := B.bytes
  have hr := B.returns
  have hws : ∀ w ∈ wsL_law, w.before _ s = true := fun w hw => atoms_spec (ws := w_X0_isWide) B.pre w (List.mem_cons_of_mem _ hw)
  have hown : s.vm.findClass RX0 = some m.cls := findClass_of_methodNamed B.named
  have hlocks := B.notSynchronized
  subst hsz
  have hD := hD0.self (sz := s.heap.size)
  generalize hAe : va_A (wd_X0_isWide a_this a_limbs v_first v_last) s.heap.size = A at hD ⊢
  have hA : ∀ q : Nat, s.heap.size ≤ q → A q := fun q h => by rw [← hAe]; exact Or.inr h
  have hS : va_S A s.heap s.heap [] := va_S.rf
  have hl := lv_entry ([.ref a_this]) (n := 1) (Nat.le_of_ble_eq_true rfl)
  rw [lg_entry_eq]
  generalize (lg_sl ([.ref a_this]) ++ List.replicate (1 - (lg_sl ([.ref a_this])).length) Slot.unset).toArray = ls at hl ⊢
  have hl : lv_has ls 1 [(0, .ref a_this)] := hl
  unfold f_X0_isWide at h
  refine lv_aload_n hx hb dX0_isWide_0 rfl (lv_at hl 0 rfl) ?_
  refine va_get (D := (dC, dI)) (ci := 0) (v := .int v_first) (C := RX0) (T := TX0) (N := 3) hx hb hws inlX0 hown hK hP 0 rfl rfl 1 (by decide) (hws _ ww_28) (fun _ h9 => h9) rfl dX0_isWide_1 ?_
  refine lv_bipush (v := 33) hx hb dX0_isWide_4 (by decide) ?_
  refine lv_icmp_ge (tgt := 13) hx hb dX0_isWide_6 (by decide) (fun c9 => ?_) (fun c9 => ?_)
  · have h := (if_pos c9).symm.trans h
    refine lv_iconst (v := 0) hx hb dX0_isWide_13 (by decide) ?_
    obtain h09 := rt1 h
    subst o_r
    exact W.zret hx hb hr rfl (fun t ht hW => ⟨⟨_, (), rfl, rfl, by rw [ht]; exact hP, va_K.moved hW.alike hK, hD⟩, hS.F ht⟩) hS.2.2 dX0_isWide_14
  · have h := (if_neg c9).symm.trans h
    refine lv_iconst (v := 1) hx hb dX0_isWide_9 (by decide) ?_
    refine lv_goto (tgt := 14) hx hb dX0_isWide_10 (by decide) ?_
    obtain h09 := rt1 h
    subst o_r
    exact W.zret hx hb hr rfl (fun t ht hW => ⟨⟨_, (), rfl, rfl, by rw [ht]; exact hP, va_K.moved hW.alike hK, hD⟩, hS.F ht⟩) hS.2.2 dX0_isWide_14
set_option maxHeartbeats 4000000 in
set_option maxRecDepth 100000 in
theorem c_X0_whole (l : Launch) (dC : Nat → ClassId) (dI : Nat → Nat → Nat)  (a_this a_limbs : Nat) (c_limbs : ClassId) (sz : Nat)  (v_first : Int32) (v_last : Int32) (v_limbs : Nat → Int64) (o_r : Int64) (h : f_X0_whole v_limbs = some o_r) : Met l yX0_whole w_X0_whole ({ frames := 0, cells := 0, slots := 0, locals := 0 } : Room) (va_Pc [.ref a_this] (fun U => U.heap.size = sz ∧ va_P (dC, dI) vwCl (wd_X0_whole a_this a_limbs c_limbs v_first v_last v_limbs) U.heap ∧ va_K (dC, dI) vwCl [(c_limbs, .long)] U ∧ va_D (fun _ => True) (wd_X0_whole a_this a_limbs c_limbs v_first v_last v_limbs))) (va_Ql (fun r9 (_ : Unit) => r9 = o_r) (fun (_ : Unit) t => va_P (dC, dI) vwCl (wd_X0_whole a_this a_limbs c_limbs v_first v_last v_limbs) t.heap ∧ va_K (dC, dI) vwCl [(c_limbs, .long)] t ∧ va_D (va_A (wd_X0_whole a_this a_limbs c_limbs v_first v_last v_limbs) sz) (wd_X0_whole a_this a_limbs c_limbs v_first v_last v_limbs)) (va_A (wd_X0_whole a_this a_limbs c_limbs v_first v_last v_limbs) sz)) 0 0 (va_A (wd_X0_whole a_this a_limbs c_limbs v_first v_last v_limbs) sz) := by
  refine Met.ofW (cc := cX0_whole) (maxL := 1) (ret := (some .long)) (by decide) rfl ?_
  intro p e s m args below meth c s₁ B hml hv
  obtain ⟨rfl, hsz, hP, hK, hD0⟩ := hv
  have hx := B.exec
  have hb := B.bytes
  have hr := B.returns
  have hws : ∀ w ∈ wsL_law, w.before _ s = true := fun w hw => atoms_spec (ws := w_X0_whole) B.pre w (List.mem_cons_of_mem _ hw)
  have hown : s.vm.findClass RX0 = some m.cls := findClass_of_methodNamed B.named
  have hlocks := B.notSynchronized
  subst hsz
  have hD := hD0.self (sz := s.heap.size)
  generalize hAe : va_A (wd_X0_whole a_this a_limbs c_limbs v_first v_last v_limbs) s.heap.size = A at hD ⊢
  have hA : ∀ q : Nat, s.heap.size ≤ q → A q := fun q h => by rw [← hAe]; exact Or.inr h
  have hS : va_S A s.heap s.heap [] := va_S.rf
  have hl := lv_entry ([.ref a_this]) (n := 1) (Nat.le_of_ble_eq_true rfl)
  rw [lg_entry_eq]
  generalize (lg_sl ([.ref a_this]) ++ List.replicate (1 - (lg_sl ([.ref a_this])).length) Slot.unset).toArray = ls at hl ⊢
  have hl : lv_has ls 1 [(0, .ref a_this)] := hl
  unfold f_X0_whole at h
  refine lv_aload_n hx hb dX0_whole_0 rfl (lv_at hl 0 rfl) ?_
  refine va_get (D := (dC, dI)) (ci := 0) (v := .ref a_limbs) (C := RX0) (T := TX0) (N := 3) hx hb hws inlX0 hown hK hP 0 rfl rfl 0 (by decide) (hws _ ww_27) (fun _ h9 => h9) rfl dX0_whole_1 ?_
  refine lv_bipush (v := 33) hx hb dX0_whole_4 (by decide) ?_
  have hi : vp_in 33 160 := by unfold vp_in; decide +kernel
  refine va_lald hx hb hK hP 1 0 rfl rfl hi dX0_whole_6 ?_
  refine lv_ldc2 (v := 1000000000) hx hb hown (hws _ ww_162) dX0_whole_7 ?_
  refine lv_lmul hx hb dX0_whole_10 ?_
  refine lv_aload_n hx hb dX0_whole_11 rfl (lv_at hl 0 rfl) ?_
  refine va_get (D := (dC, dI)) (ci := 0) (v := .ref a_limbs) (C := RX0) (T := TX0) (N := 3) hx hb hws inlX0 hown hK hP 0 rfl rfl 0 (by decide) (hws _ ww_27) (fun _ h9 => h9) rfl dX0_whole_12 ?_
  refine lv_bipush (v := 34) hx hb dX0_whole_15 (by decide) ?_
  have hi : vp_in 34 160 := by unfold vp_in; decide +kernel
  refine va_lald hx hb hK hP 1 0 rfl rfl hi dX0_whole_17 ?_
  refine lv_ladd hx hb dX0_whole_18 ?_
  obtain h09 := rt1 h
  subst o_r
  exact W.lret hx hb hr (fun t ht hW => ⟨⟨_, (), rfl, rfl, by rw [ht]; exact hP, va_K.moved hW.alike hK, hD⟩, hS.F ht⟩) hS.2.2 dX0_whole_19
set_option maxHeartbeats 4000000 in
set_option maxRecDepth 100000 in
theorem w_X0_trim_38 (l : Launch) {p : Program} {e : Env} {s : State} {m : MethodId} {args : Array Value} {below : List Frame} {meth : Method} {c : Code} {A : Nat → Prop} {dC : Nat → ClassId} {dI : Nat → Nat → Nat} (a_this a_limbs : Nat) (c_limbs : ClassId) (hx : p.tables.exec = Jvm.exec) (hb : c.code = cX0_trim) (hr : meth.sig.returnType = none) (hml : c.maxLocals = 1) (hown : s.vm.findClass RX0 = some m.cls) (hws : ∀ w ∈ wsL_law, w.before args s = true) (hlocks : meth.locks = false) (hA : ∀ q : Nat, s.heap.size ≤ q → A q) : ∀ (n : Nat)  (v_first : Int32) (v_last : Int32) (v_limbs : Nat → Int64) (o_first : Int32) (o_last : Int32), f_X0_trim_L38 n v_first v_last v_limbs = some (o_first, o_last) → ∀ (H : Heap) (locs : List Loc), va_K (dC, dI) vwCl [(c_limbs, .long)] s → va_P (dC, dI) vwCl (wd_X0_trim a_this a_limbs c_limbs v_first v_last v_limbs) H → va_D A (wd_X0_trim a_this a_limbs c_limbs v_first v_last v_limbs) → va_S A s.heap H locs → ∀ (ls : Array Slot), lv_has ls 1 [(0, .ref a_this)] → W p l e (headSpec (w_X0_trim) ({ frames := 0, cells := 0, slots := 0, locals := 0 } : Room)).room s m args below meth c H locs 0 0 (MQ below (va_Qv (fun (_ : Unit) => True) (fun (_ : Unit) t => va_P (dC, dI) vwCl (wd_X0_trim a_this a_limbs c_limbs o_first o_last v_limbs) t.heap ∧ va_K (dC, dI) vwCl [(c_limbs, .long)] t ∧ va_D A (wd_X0_trim a_this a_limbs c_limbs o_first o_last v_limbs)) A) args s 0 0 A) (F0 m 38 ls []) := by
  intro n
  induction n with
  | zero =>
    intro v_first v_last v_limbs o_first o_last h H locs hK hP hD hS ls hl
    exact absurd h (by simp [f_X0_trim_L38])
  | succ n ih =>
    intro v_first v_last v_limbs o_first o_last h H locs hK hP hD hS ls hl
    unfold f_X0_trim_L38 at h
    refine lv_aload_n hx hb dX0_trim_38 rfl (lv_at hl 0 rfl) ?_
    refine va_get (D := (dC, dI)) (ci := 0) (v := .int v_first) (C := RX0) (T := TX0) (N := 3) hx hb hws inlX0 hown hK hP 0 rfl rfl 1 (by decide) (hws _ ww_28) (fun _ h9 => h9) rfl dX0_trim_39 ?_
    refine lv_aload_n hx hb dX0_trim_42 rfl (lv_at hl 0 rfl) ?_
    refine va_get (D := (dC, dI)) (ci := 0) (v := .int v_last) (C := RX0) (T := TX0) (N := 3) hx hb hws inlX0 hown hK hP 0 rfl rfl 2 (by decide) (hws _ ww_29) (fun _ h9 => h9) rfl dX0_trim_43 ?_
    refine lv_icmp_gt (tgt := 76) hx hb dX0_trim_46 (by decide) (fun c9 => ?_) (fun c9 => ?_)
    · have h := (if_pos c9).symm.trans h
      obtain ⟨h09, h19⟩ := rt2 h
      subst o_first
      subst o_last
      exact W.vret hx hb hr (fun t ht hW => ⟨⟨(), rfl, trivial, by rw [ht]; exact hP, va_K.moved hW.alike hK, hD⟩, hS.F ht⟩) hS.2.2 dX0_trim_76
    · have h := (if_neg c9).symm.trans h
      refine lv_aload_n hx hb dX0_trim_49 rfl (lv_at hl 0 rfl) ?_
      refine va_get (D := (dC, dI)) (ci := 0) (v := .ref a_limbs) (C := RX0) (T := TX0) (N := 3) hx hb hws inlX0 hown hK hP 0 rfl rfl 0 (by decide) (hws _ ww_27) (fun _ h9 => h9) rfl dX0_trim_50 ?_
      refine lv_aload_n hx hb dX0_trim_53 rfl (lv_at hl 0 rfl) ?_
      refine va_get (D := (dC, dI)) (ci := 0) (v := .int v_last) (C := RX0) (T := TX0) (N := 3) hx hb hws inlX0 hown hK hP 0 rfl rfl 2 (by decide) (hws _ ww_29) (fun _ h9 => h9) rfl dX0_trim_54 ?_
      obtain ⟨hi, h⟩ := gd h
      refine va_lald hx hb hK hP 1 0 rfl rfl hi dX0_trim_57 ?_
      refine lv_lconst (v := 0) hx hb dX0_trim_58 (by decide) ?_
      refine W.lcmp hx hb dX0_trim_59 ?_
      refine lv_if_ne (tgt := 76) hx hb dX0_trim_60 (by decide) (fun c9 => ?_) (fun c9 => ?_)
      · have h := (if_neg c9).symm.trans h
        obtain ⟨h09, h19⟩ := rt2 h
        subst o_first
        subst o_last
        exact W.vret hx hb hr (fun t ht hW => ⟨⟨(), rfl, trivial, by rw [ht]; exact hP, va_K.moved hW.alike hK, hD⟩, hS.F ht⟩) hS.2.2 dX0_trim_76
      · have h := (if_pos c9).symm.trans h
        refine lv_aload_n hx hb dX0_trim_63 rfl (lv_at hl 0 rfl) ?_
        refine lv_dup hx hb dX0_trim_64 rfl ?_
        refine va_get (D := (dC, dI)) (ci := 0) (v := .int v_last) (C := RX0) (T := TX0) (N := 3) hx hb hws inlX0 hown hK hP 0 rfl rfl 2 (by decide) (hws _ ww_29) (fun _ h9 => h9) rfl dX0_trim_65 ?_
        refine lv_iconst (v := 1) hx hb dX0_trim_68 (by decide) ?_
        refine lv_isub hx hb dX0_trim_69 ?_
        refine va_put (D := (dC, dI)) (ci := 0) (v := .int (v_last - 1)) (ty := .int) (C := RX0) (T := TX0) (N := 3) hx hb hws inlX0 tyX0 tyX0_ok nmX0 hown hK hP hD hS 0 rfl rfl 2 (by decide) (hws _ ww_29) (fun _ h9 => h9) rfl (by decide +kernel) rfl rfl (Nat.le_of_ble_eq_true rfl) dX0_trim_70 (fun H locs hP hD hS => ?_)
        have hP : va_P (dC, dI) vwCl (wd_X0_trim a_this a_limbs c_limbs v_first (v_last - 1) v_limbs) H := hP
        have hD : va_D A (wd_X0_trim a_this a_limbs c_limbs v_first (v_last - 1) v_limbs) := hD
        refine lv_goto (tgt := 38) hx hb dX0_trim_73 (by decide) ?_
        exact ih  v_first (v_last - 1) v_limbs o_first o_last h H locs hK hP hD hS ls (lv_sub hl [0] rfl)
set_option maxHeartbeats 4000000 in
set_option maxRecDepth 100000 in
theorem w_X0_trim_0 (l : Launch) {p : Program} {e : Env} {s : State} {m : MethodId} {args : Array Value} {below : List Frame} {meth : Method} {c : Code} {A : Nat → Prop} {dC : Nat → ClassId} {dI : Nat → Nat → Nat} (a_this a_limbs : Nat) (c_limbs : ClassId) (hx : p.tables.exec = Jvm.exec) (hb : c.code = cX0_trim) (hr : meth.sig.returnType = none) (hml : c.maxLocals = 1) (hown : s.vm.findClass RX0 = some m.cls) (hws : ∀ w ∈ wsL_law, w.before args s = true) (hlocks : meth.locks = false) (hA : ∀ q : Nat, s.heap.size ≤ q → A q) : ∀ (n : Nat)  (v_first : Int32) (v_last : Int32) (v_limbs : Nat → Int64) (o_first : Int32) (o_last : Int32), f_X0_trim_L0 n v_first v_last v_limbs = some (o_first, o_last) → ∀ (H : Heap) (locs : List Loc), va_K (dC, dI) vwCl [(c_limbs, .long)] s → va_P (dC, dI) vwCl (wd_X0_trim a_this a_limbs c_limbs v_first v_last v_limbs) H → va_D A (wd_X0_trim a_this a_limbs c_limbs v_first v_last v_limbs) → va_S A s.heap H locs → ∀ (ls : Array Slot), lv_has ls 1 [(0, .ref a_this)] → W p l e (headSpec (w_X0_trim) ({ frames := 0, cells := 0, slots := 0, locals := 0 } : Room)).room s m args below meth c H locs 0 0 (MQ below (va_Qv (fun (_ : Unit) => True) (fun (_ : Unit) t => va_P (dC, dI) vwCl (wd_X0_trim a_this a_limbs c_limbs o_first o_last v_limbs) t.heap ∧ va_K (dC, dI) vwCl [(c_limbs, .long)] t ∧ va_D A (wd_X0_trim a_this a_limbs c_limbs o_first o_last v_limbs)) A) args s 0 0 A) (F0 m 0 ls []) := by
  intro n
  induction n with
  | zero =>
    intro v_first v_last v_limbs o_first o_last h H locs hK hP hD hS ls hl
    exact absurd h (by simp [f_X0_trim_L0])
  | succ n ih =>
    intro v_first v_last v_limbs o_first o_last h H locs hK hP hD hS ls hl
    unfold f_X0_trim_L0 at h
    refine lv_aload_n hx hb dX0_trim_0 rfl (lv_at hl 0 rfl) ?_
    refine va_get (D := (dC, dI)) (ci := 0) (v := .int v_first) (C := RX0) (T := TX0) (N := 3) hx hb hws inlX0 hown hK hP 0 rfl rfl 1 (by decide) (hws _ ww_28) (fun _ h9 => h9) rfl dX0_trim_1 ?_
    refine lv_aload_n hx hb dX0_trim_4 rfl (lv_at hl 0 rfl) ?_
    refine va_get (D := (dC, dI)) (ci := 0) (v := .int v_last) (C := RX0) (T := TX0) (N := 3) hx hb hws inlX0 hown hK hP 0 rfl rfl 2 (by decide) (hws _ ww_29) (fun _ h9 => h9) rfl dX0_trim_5 ?_
    refine lv_icmp_gt (tgt := 38) hx hb dX0_trim_8 (by decide) (fun c9 => ?_) (fun c9 => ?_)
    · have h := (if_pos c9).symm.trans h
      exact w_X0_trim_38 l a_this a_limbs c_limbs hx hb hr hml hown hws hlocks hA FU  v_first v_last v_limbs o_first o_last h H locs hK hP hD hS ls (lv_sub hl [0] rfl)
    · have h := (if_neg c9).symm.trans h
      refine lv_aload_n hx hb dX0_trim_11 rfl (lv_at hl 0 rfl) ?_
      refine va_get (D := (dC, dI)) (ci := 0) (v := .ref a_limbs) (C := RX0) (T := TX0) (N := 3) hx hb hws inlX0 hown hK hP 0 rfl rfl 0 (by decide) (hws _ ww_27) (fun _ h9 => h9) rfl dX0_trim_12 ?_
      refine lv_aload_n hx hb dX0_trim_15 rfl (lv_at hl 0 rfl) ?_
      refine va_get (D := (dC, dI)) (ci := 0) (v := .int v_first) (C := RX0) (T := TX0) (N := 3) hx hb hws inlX0 hown hK hP 0 rfl rfl 1 (by decide) (hws _ ww_28) (fun _ h9 => h9) rfl dX0_trim_16 ?_
      obtain ⟨hi, h⟩ := gd h
      refine va_lald hx hb hK hP 1 0 rfl rfl hi dX0_trim_19 ?_
      refine lv_lconst (v := 0) hx hb dX0_trim_20 (by decide) ?_
      refine W.lcmp hx hb dX0_trim_21 ?_
      refine lv_if_ne (tgt := 38) hx hb dX0_trim_22 (by decide) (fun c9 => ?_) (fun c9 => ?_)
      · have h := (if_neg c9).symm.trans h
        exact w_X0_trim_38 l a_this a_limbs c_limbs hx hb hr hml hown hws hlocks hA FU  v_first v_last v_limbs o_first o_last h H locs hK hP hD hS ls (lv_sub hl [0] rfl)
      · have h := (if_pos c9).symm.trans h
        refine lv_aload_n hx hb dX0_trim_25 rfl (lv_at hl 0 rfl) ?_
        refine lv_dup hx hb dX0_trim_26 rfl ?_
        refine va_get (D := (dC, dI)) (ci := 0) (v := .int v_first) (C := RX0) (T := TX0) (N := 3) hx hb hws inlX0 hown hK hP 0 rfl rfl 1 (by decide) (hws _ ww_28) (fun _ h9 => h9) rfl dX0_trim_27 ?_
        refine lv_iconst (v := 1) hx hb dX0_trim_30 (by decide) ?_
        refine lv_iadd hx hb dX0_trim_31 ?_
        refine va_put (D := (dC, dI)) (ci := 0) (v := .int (v_first + 1)) (ty := .int) (C := RX0) (T := TX0) (N := 3) hx hb hws inlX0 tyX0 tyX0_ok nmX0 hown hK hP hD hS 0 rfl rfl 1 (by decide) (hws _ ww_28) (fun _ h9 => h9) rfl (by decide +kernel) rfl rfl (Nat.le_of_ble_eq_true rfl) dX0_trim_32 (fun H locs hP hD hS => ?_)
        have hP : va_P (dC, dI) vwCl (wd_X0_trim a_this a_limbs c_limbs (v_first + 1) v_last v_limbs) H := hP
        have hD : va_D A (wd_X0_trim a_this a_limbs c_limbs (v_first + 1) v_last v_limbs) := hD
        refine lv_goto (tgt := 0) hx hb dX0_trim_35 (by decide) ?_
        exact ih  (v_first + 1) v_last v_limbs o_first o_last h H locs hK hP hD hS ls (lv_sub hl [0] rfl)
set_option maxHeartbeats 4000000 in
set_option maxRecDepth 100000 in
theorem c_X0_trim (l : Launch) (dC : Nat → ClassId) (dI : Nat → Nat → Nat)  (a_this a_limbs : Nat) (c_limbs : ClassId) (sz : Nat)  (v_first : Int32) (v_last : Int32) (v_limbs : Nat → Int64) (o_first : Int32) (o_last : Int32) (h : f_X0_trim v_first v_last v_limbs = some (o_first, o_last)) : Met l yX0_trim w_X0_trim ({ frames := 0, cells := 0, slots := 0, locals := 0 } : Room) (va_Pc [.ref a_this] (fun U => U.heap.size = sz ∧ va_P (dC, dI) vwCl (wd_X0_trim a_this a_limbs c_limbs v_first v_last v_limbs) U.heap ∧ va_K (dC, dI) vwCl [(c_limbs, .long)] U ∧ va_D (fun _ => True) (wd_X0_trim a_this a_limbs c_limbs v_first v_last v_limbs))) (va_Qv (fun (_ : Unit) => True) (fun (_ : Unit) t => va_P (dC, dI) vwCl (wd_X0_trim a_this a_limbs c_limbs o_first o_last v_limbs) t.heap ∧ va_K (dC, dI) vwCl [(c_limbs, .long)] t ∧ va_D (va_A (wd_X0_trim a_this a_limbs c_limbs v_first v_last v_limbs) sz) (wd_X0_trim a_this a_limbs c_limbs o_first o_last v_limbs)) (va_A (wd_X0_trim a_this a_limbs c_limbs v_first v_last v_limbs) sz)) 0 0 (va_A (wd_X0_trim a_this a_limbs c_limbs v_first v_last v_limbs) sz) := by
  refine Met.ofW (cc := cX0_trim) (maxL := 1) (ret := none) (by decide) rfl ?_
  intro p e s m args below meth c s₁ B hml hv
  obtain ⟨rfl, hsz, hP, hK, hD0⟩ := hv
  have hx := B.exec
  have hb := B.bytes
  have hr := B.returns
  have hws : ∀ w ∈ wsL_law, w.before _ s = true := fun w hw => atoms_spec (ws := w_X0_trim) B.pre w (List.mem_cons_of_mem _ hw)
  have hown : s.vm.findClass RX0 = some m.cls := findClass_of_methodNamed B.named
  have hlocks := B.notSynchronized
  subst hsz
  have hD := hD0.self (sz := s.heap.size)
  generalize hAe : va_A (wd_X0_trim a_this a_limbs c_limbs v_first v_last v_limbs) s.heap.size = A at hD ⊢
  have hA : ∀ q : Nat, s.heap.size ≤ q → A q := fun q h => by rw [← hAe]; exact Or.inr h
  have hS : va_S A s.heap s.heap [] := va_S.rf
  have hl := lv_entry ([.ref a_this]) (n := 1) (Nat.le_of_ble_eq_true rfl)
  rw [lg_entry_eq]
  generalize (lg_sl ([.ref a_this]) ++ List.replicate (1 - (lg_sl ([.ref a_this])).length) Slot.unset).toArray = ls at hl ⊢
  have hl : lv_has ls 1 [(0, .ref a_this)] := hl
  unfold f_X0_trim at h
  refine lv_aload_n hx hb dX0_trim_0 rfl (lv_at hl 0 rfl) ?_
  refine va_get (D := (dC, dI)) (ci := 0) (v := .int v_first) (C := RX0) (T := TX0) (N := 3) hx hb hws inlX0 hown hK hP 0 rfl rfl 1 (by decide) (hws _ ww_28) (fun _ h9 => h9) rfl dX0_trim_1 ?_
  refine lv_aload_n hx hb dX0_trim_4 rfl (lv_at hl 0 rfl) ?_
  refine va_get (D := (dC, dI)) (ci := 0) (v := .int v_last) (C := RX0) (T := TX0) (N := 3) hx hb hws inlX0 hown hK hP 0 rfl rfl 2 (by decide) (hws _ ww_29) (fun _ h9 => h9) rfl dX0_trim_5 ?_
  refine lv_icmp_gt (tgt := 38) hx hb dX0_trim_8 (by decide) (fun c9 => ?_) (fun c9 => ?_)
  · have h := (if_pos c9).symm.trans h
    exact w_X0_trim_38 l a_this a_limbs c_limbs hx hb hr hml hown hws hlocks hA FU  v_first v_last v_limbs o_first o_last h s.heap [] hK hP hD hS ls (lv_sub hl [0] rfl)
  · have h := (if_neg c9).symm.trans h
    refine lv_aload_n hx hb dX0_trim_11 rfl (lv_at hl 0 rfl) ?_
    refine va_get (D := (dC, dI)) (ci := 0) (v := .ref a_limbs) (C := RX0) (T := TX0) (N := 3) hx hb hws inlX0 hown hK hP 0 rfl rfl 0 (by decide) (hws _ ww_27) (fun _ h9 => h9) rfl dX0_trim_12 ?_
    refine lv_aload_n hx hb dX0_trim_15 rfl (lv_at hl 0 rfl) ?_
    refine va_get (D := (dC, dI)) (ci := 0) (v := .int v_first) (C := RX0) (T := TX0) (N := 3) hx hb hws inlX0 hown hK hP 0 rfl rfl 1 (by decide) (hws _ ww_28) (fun _ h9 => h9) rfl dX0_trim_16 ?_
    obtain ⟨hi, h⟩ := gd h
    refine va_lald hx hb hK hP 1 0 rfl rfl hi dX0_trim_19 ?_
    refine lv_lconst (v := 0) hx hb dX0_trim_20 (by decide) ?_
    refine W.lcmp hx hb dX0_trim_21 ?_
    refine lv_if_ne (tgt := 38) hx hb dX0_trim_22 (by decide) (fun c9 => ?_) (fun c9 => ?_)
    · have h := (if_neg c9).symm.trans h
      exact w_X0_trim_38 l a_this a_limbs c_limbs hx hb hr hml hown hws hlocks hA FU  v_first v_last v_limbs o_first o_last h s.heap [] hK hP hD hS ls (lv_sub hl [0] rfl)
    · have h := (if_pos c9).symm.trans h
      refine lv_aload_n hx hb dX0_trim_25 rfl (lv_at hl 0 rfl) ?_
      refine lv_dup hx hb dX0_trim_26 rfl ?_
      refine va_get (D := (dC, dI)) (ci := 0) (v := .int v_first) (C := RX0) (T := TX0) (N := 3) hx hb hws inlX0 hown hK hP 0 rfl rfl 1 (by decide) (hws _ ww_28) (fun _ h9 => h9) rfl dX0_trim_27 ?_
      refine lv_iconst (v := 1) hx hb dX0_trim_30 (by decide) ?_
      refine lv_iadd hx hb dX0_trim_31 ?_
      refine va_put (D := (dC, dI)) (ci := 0) (v := .int (v_first + 1)) (ty := .int) (C := RX0) (T := TX0) (N := 3) hx hb hws inlX0 tyX0 tyX0_ok nmX0 hown hK hP hD hS 0 rfl rfl 1 (by decide) (hws _ ww_28) (fun _ h9 => h9) rfl (by decide +kernel) rfl rfl (Nat.le_of_ble_eq_true rfl) dX0_trim_32 (fun H locs hP hD hS => ?_)
      have hP : va_P (dC, dI) vwCl (wd_X0_trim a_this a_limbs c_limbs (v_first + 1) v_last v_limbs) H := hP
      have hD : va_D A (wd_X0_trim a_this a_limbs c_limbs (v_first + 1) v_last v_limbs) := hD
      refine lv_goto (tgt := 0) hx hb dX0_trim_35 (by decide) ?_
      exact w_X0_trim_0 l a_this a_limbs c_limbs hx hb hr hml hown hws hlocks hA FU  (v_first + 1) v_last v_limbs o_first o_last h H locs hK hP hD hS ls (lv_sub hl [0] rfl)
set_option maxHeartbeats 4000000 in
set_option maxRecDepth 100000 in
theorem w_X0_scaleDown_71 (l : Launch) {p : Program} {e : Env} {s : State} {m : MethodId} {args : Array Value} {below : List Frame} {meth : Method} {c : Code} {A : Nat → Prop} {dC : Nat → ClassId} {dI : Nat → Nat → Nat} (a_this a_limbs : Nat) (c_limbs : ClassId) (hx : p.tables.exec = Jvm.exec) (hb : c.code = cX0_scaleDown) (hr : meth.sig.returnType = none) (hml : c.maxLocals = 9) (hown : s.vm.findClass RX0 = some m.cls) (hws : ∀ w ∈ wsL_law, w.before args s = true) (hlocks : meth.locks = false) (hA : ∀ q : Nat, s.heap.size ≤ q → A q) : ∀ (n : Nat) (l1 : Int32) (l2 : Int64) (l4 : Int64) (l6 : Int32) (v_first : Int32) (v_last : Int32) (v_limbs : Nat → Int64) (o_first : Int32) (o_last : Int32) (o_limbs : Nat → Int64), f_X0_scaleDown_L71 n l1 l2 l4 l6 v_first v_last v_limbs = some (o_first, o_last, o_limbs) → ∀ (H : Heap) (locs : List Loc), va_K (dC, dI) vwCl [(c_limbs, .long)] s → va_P (dC, dI) vwCl (wd_X0_scaleDown a_this a_limbs c_limbs v_first v_last v_limbs) H → va_D A (wd_X0_scaleDown a_this a_limbs c_limbs v_first v_last v_limbs) → va_S A s.heap H locs → ∀ (ls : Array Slot), lv_has ls 9 [(0, .ref a_this), (1, .int l1), (2, .long l2), (4, .long l4), (6, .int l6)] → W p l e (headSpec (w_X0_scaleDown) ({ frames := 1, cells := 0, slots := 0, locals := 20 } : Room)).room s m args below meth c H locs 0 0 (MQ below (va_Qv (fun (_ : Unit) => True) (fun (_ : Unit) t => va_P (dC, dI) vwCl (wd_X0_scaleDown a_this a_limbs c_limbs o_first o_last o_limbs) t.heap ∧ va_K (dC, dI) vwCl [(c_limbs, .long)] t ∧ va_D A (wd_X0_scaleDown a_this a_limbs c_limbs o_first o_last o_limbs)) A) args s 0 0 A) (F0 m 71 ls []) := by
  intro n
  induction n with
  | zero =>
    intro l1 l2 l4 l6 v_first v_last v_limbs o_first o_last o_limbs h H locs hK hP hD hS ls hl
    exact absurd h (by simp [f_X0_scaleDown_L71])
  | succ n ih =>
    intro l1 l2 l4 l6 v_first v_last v_limbs o_first o_last o_limbs h H locs hK hP hD hS ls hl
    unfold f_X0_scaleDown_L71 at h
    refine lv_iload hx hb dX0_scaleDown_71 (lv_at hl 4 rfl) ?_
    refine lv_sipush (v := 160) hx hb dX0_scaleDown_73 (by decide) ?_
    refine lv_icmp_ge (tgt := 123) hx hb dX0_scaleDown_76 (by decide) (fun c9 => ?_) (fun c9 => ?_)
    · have h := (if_pos c9).symm.trans h
      refine lv_aload_n hx hb dX0_scaleDown_123 rfl (lv_at hl 0 rfl) ?_
      obtain ⟨⟨v_first_124, v_last_124⟩, hc, h⟩ := bd h
      dsimp only at h
      have hPc := hP.sub (ws' := (wd_X0_trim a_this a_limbs c_limbs v_first v_last v_limbs)) [0, 1] rfl
      have hDc := hD.sub (ws' := (wd_X0_trim a_this a_limbs c_limbs v_first v_last v_limbs)) [0, 1] (by decide) rfl
      have hKc := hK.sub (tys' := [(c_limbs, .long)]) [0] rfl
      have hFc := va_free (wc := (wd_X0_trim a_this a_limbs c_limbs v_first v_last v_limbs)) hD hS hA [0, 1] rfl
      refine va_callv (va_runV (As := []) (rest := []) ⟨hx, hb, hml, hown, hws⟩ (c_X0_trim l dC dI  a_this a_limbs c_limbs (Array.size H)  v_first v_last v_limbs v_first_124 v_last_124 hc) (cwV 0 hws (gV ww_163 ww_164 ww_165 ww_18 ww_166) rfl rfl rfl (by decide +kernel) ⟨Nat.le_of_ble_eq_true rfl, Nat.le_of_ble_eq_true rfl⟩) ⟨(fun a U g mk q => by obtain ⟨q0, q1, qP, qK, qD⟩ := q; exact ⟨q0, q1, qP, va_K.moved (u := U) (U := U.calling g mk a) (Vm.Alike.refl U.vm) qK, qD⟩), va_recv hKc hPc (ci := 0) (q0 := 0) rfl rfl, (fun U hU hW => ⟨rfl, by rw [hU], by rw [hU]; exact hPc, va_K.moved hW.alike hKc, hDc.weaken (fun _ _ _ _ => trivial)⟩)⟩ rfl rfl hl.1 rfl (lv_room (Nat.le_of_ble_eq_true rfl)) dX0_scaleDown_124 ⟨Nat.zero_le _, Nat.zero_le _⟩) hS (fun q _ h => hFc q h) hFc (fun u9 t H1 locs ht hvm hw hB hz1 hk1 hS => ?_)
      obtain ⟨hP1, hK1, hD1⟩ := hB
      rw [ht] at hP1
      obtain ⟨hP, hD⟩ := va_join (wr := []) (w1 := (wd_X0_trim a_this a_limbs c_limbs v_first_124 v_last_124 v_limbs)) hP hD [0, 1] [] rfl rfl (by decide) (by decide) hk1 hFc hP1 hD1
      generalize H1 = H at hP hS ⊢
      have hP : va_P (dC, dI) vwCl (wd_X0_scaleDown a_this a_limbs c_limbs v_first_124 v_last_124 v_limbs) H := hP.sub [0, 1] rfl
      have hD : va_D A (wd_X0_scaleDown a_this a_limbs c_limbs v_first_124 v_last_124 v_limbs) := hD.sub [0, 1] (by decide) rfl
      clear hP1 hK1 hD1 hPc hDc hKc hFc hk1 hz1 ht hvm
      obtain ⟨h09, h19, h29⟩ := rt3 h
      subst o_first
      subst o_last
      subst o_limbs
      exact W.vret hx hb hr (fun t ht hW => ⟨⟨(), rfl, trivial, by rw [ht]; exact hP, va_K.moved hW.alike hK, hD⟩, hS.F ht⟩) hS.2.2 dX0_scaleDown_127
    · have h := (if_neg c9).symm.trans h
      refine lv_lload hx hb dX0_scaleDown_79 (lv_at hl 3 rfl) ?_
      refine lv_lconst (v := 0) hx hb dX0_scaleDown_81 (by decide) ?_
      refine W.lcmp hx hb dX0_scaleDown_82 ?_
      refine lv_if_le (tgt := 123) hx hb dX0_scaleDown_83 (by decide) (fun c9 => ?_) (fun c9 => ?_)
      · have h := (if_pos c9).symm.trans h
        refine lv_aload_n hx hb dX0_scaleDown_123 rfl (lv_at hl 0 rfl) ?_
        obtain ⟨⟨v_first_124, v_last_124⟩, hc, h⟩ := bd h
        dsimp only at h
        have hPc := hP.sub (ws' := (wd_X0_trim a_this a_limbs c_limbs v_first v_last v_limbs)) [0, 1] rfl
        have hDc := hD.sub (ws' := (wd_X0_trim a_this a_limbs c_limbs v_first v_last v_limbs)) [0, 1] (by decide) rfl
        have hKc := hK.sub (tys' := [(c_limbs, .long)]) [0] rfl
        have hFc := va_free (wc := (wd_X0_trim a_this a_limbs c_limbs v_first v_last v_limbs)) hD hS hA [0, 1] rfl
        refine va_callv (va_runV (As := []) (rest := []) ⟨hx, hb, hml, hown, hws⟩ (c_X0_trim l dC dI  a_this a_limbs c_limbs (Array.size H)  v_first v_last v_limbs v_first_124 v_last_124 hc) (cwV 0 hws (gV ww_163 ww_164 ww_165 ww_18 ww_166) rfl rfl rfl (by decide +kernel) ⟨Nat.le_of_ble_eq_true rfl, Nat.le_of_ble_eq_true rfl⟩) ⟨(fun a U g mk q => by obtain ⟨q0, q1, qP, qK, qD⟩ := q; exact ⟨q0, q1, qP, va_K.moved (u := U) (U := U.calling g mk a) (Vm.Alike.refl U.vm) qK, qD⟩), va_recv hKc hPc (ci := 0) (q0 := 0) rfl rfl, (fun U hU hW => ⟨rfl, by rw [hU], by rw [hU]; exact hPc, va_K.moved hW.alike hKc, hDc.weaken (fun _ _ _ _ => trivial)⟩)⟩ rfl rfl hl.1 rfl (lv_room (Nat.le_of_ble_eq_true rfl)) dX0_scaleDown_124 ⟨Nat.zero_le _, Nat.zero_le _⟩) hS (fun q _ h => hFc q h) hFc (fun u9 t H1 locs ht hvm hw hB hz1 hk1 hS => ?_)
        obtain ⟨hP1, hK1, hD1⟩ := hB
        rw [ht] at hP1
        obtain ⟨hP, hD⟩ := va_join (wr := []) (w1 := (wd_X0_trim a_this a_limbs c_limbs v_first_124 v_last_124 v_limbs)) hP hD [0, 1] [] rfl rfl (by decide) (by decide) hk1 hFc hP1 hD1
        generalize H1 = H at hP hS ⊢
        have hP : va_P (dC, dI) vwCl (wd_X0_scaleDown a_this a_limbs c_limbs v_first_124 v_last_124 v_limbs) H := hP.sub [0, 1] rfl
        have hD : va_D A (wd_X0_scaleDown a_this a_limbs c_limbs v_first_124 v_last_124 v_limbs) := hD.sub [0, 1] (by decide) rfl
        clear hP1 hK1 hD1 hPc hDc hKc hFc hk1 hz1 ht hvm
        obtain ⟨h09, h19, h29⟩ := rt3 h
        subst o_first
        subst o_last
        subst o_limbs
        exact W.vret hx hb hr (fun t ht hW => ⟨⟨(), rfl, trivial, by rw [ht]; exact hP, va_K.moved hW.alike hK, hD⟩, hS.F ht⟩) hS.2.2 dX0_scaleDown_127
      · have h := (if_neg c9).symm.trans h
        refine lv_lload hx hb dX0_scaleDown_86 (lv_at hl 3 rfl) ?_
        refine lv_ldc2 (v := 1000000000) hx hb hown (hws _ ww_162) dX0_scaleDown_88 ?_
        refine lv_lmul hx hb dX0_scaleDown_91 ?_
        refine lv_lstore (lv' := [(7, .long (l4 * 1000000000)), (0, .ref a_this), (1, .int l1), (2, .long l2), (4, .long l4), (6, .int l6)]) hx hb dX0_scaleDown_92 hl (by decide) rfl (fun ls hl => ?_)
        refine lv_aload_n hx hb dX0_scaleDown_94 rfl (lv_at hl 1 rfl) ?_
        refine va_get (D := (dC, dI)) (ci := 0) (v := .ref a_limbs) (C := RX0) (T := TX0) (N := 3) hx hb hws inlX0 hown hK hP 0 rfl rfl 0 (by decide) (hws _ ww_27) (fun _ h9 => h9) rfl dX0_scaleDown_95 ?_
        refine lv_iload hx hb dX0_scaleDown_98 (lv_at hl 5 rfl) ?_
        refine lv_lload hx hb dX0_scaleDown_100 (lv_at hl 0 rfl) ?_
        refine lv_iload_n hx hb dX0_scaleDown_102 rfl (lv_at hl 2 rfl) ?_
        refine lv_lushr hx hb dX0_scaleDown_103 rfl ?_
        obtain ⟨hi, h⟩ := gd h
        refine va_last hx hb hK hP hD hS 1 0 rfl rfl hi dX0_scaleDown_104 (fun H locs hP hD hS => ?_)
        have hP : va_P (dC, dI) vwCl (wd_X0_scaleDown a_this a_limbs c_limbs v_first v_last (vp_updL v_limbs (Int32.toNatClampNeg l6) ((Int64.toUInt64 (l4 * 1000000000) >>> (Int64.toUInt64 (Int32.toInt64 l1) &&& Int64.toUInt64 63)).toInt64))) H := hP
        have hD : va_D A (wd_X0_scaleDown a_this a_limbs c_limbs v_first v_last (vp_updL v_limbs (Int32.toNatClampNeg l6) ((Int64.toUInt64 (l4 * 1000000000) >>> (Int64.toUInt64 (Int32.toInt64 l1) &&& Int64.toUInt64 63)).toInt64))) := hD
        refine lv_lload hx hb dX0_scaleDown_105 (lv_at hl 0 rfl) ?_
        refine lv_lload_n hx hb dX0_scaleDown_107 rfl (lv_at hl 3 rfl) ?_
        refine lv_land hx hb dX0_scaleDown_108 ?_
        refine lv_lstore (lv' := [(4, .long ((l4 * 1000000000) &&& l2)), (7, .long (l4 * 1000000000)), (0, .ref a_this), (1, .int l1), (2, .long l2), (6, .int l6)]) hx hb dX0_scaleDown_109 hl (by decide) rfl (fun ls hl => ?_)
        refine lv_aload_n hx hb dX0_scaleDown_111 rfl (lv_at hl 2 rfl) ?_
        refine lv_iload hx hb dX0_scaleDown_112 (lv_at hl 5 rfl) ?_
        refine va_put (D := (dC, dI)) (ci := 0) (v := .int l6) (ty := .int) (C := RX0) (T := TX0) (N := 3) hx hb hws inlX0 tyX0 tyX0_ok nmX0 hown hK hP hD hS 0 rfl rfl 2 (by decide) (hws _ ww_29) (fun _ h9 => h9) rfl (by decide +kernel) rfl rfl (Nat.le_of_ble_eq_true rfl) dX0_scaleDown_114 (fun H locs hP hD hS => ?_)
        have hP : va_P (dC, dI) vwCl (wd_X0_scaleDown a_this a_limbs c_limbs v_first l6 (vp_updL v_limbs (Int32.toNatClampNeg l6) ((Int64.toUInt64 (l4 * 1000000000) >>> (Int64.toUInt64 (Int32.toInt64 l1) &&& Int64.toUInt64 63)).toInt64))) H := hP
        have hD : va_D A (wd_X0_scaleDown a_this a_limbs c_limbs v_first l6 (vp_updL v_limbs (Int32.toNatClampNeg l6) ((Int64.toUInt64 (l4 * 1000000000) >>> (Int64.toUInt64 (Int32.toInt64 l1) &&& Int64.toUInt64 63)).toInt64))) := hD
        refine lv_iinc (v := (l6 + 1)) (lv' := [(6, .int (l6 + 1)), (4, .long ((l4 * 1000000000) &&& l2)), (7, .long (l4 * 1000000000)), (0, .ref a_this), (1, .int l1), (2, .long l2)]) hx hb dX0_scaleDown_117 hl (k := 5) rfl rfl (by decide) rfl (fun ls hl => ?_)
        refine lv_goto (tgt := 71) hx hb dX0_scaleDown_120 (by decide) ?_
        exact ih l1 l2 ((l4 * 1000000000) &&& l2) (l6 + 1) v_first l6 (vp_updL v_limbs (Int32.toNatClampNeg l6) ((Int64.toUInt64 (l4 * 1000000000) >>> (Int64.toUInt64 (Int32.toInt64 l1) &&& Int64.toUInt64 63)).toInt64)) o_first o_last o_limbs h H locs hK hP hD hS ls (lv_sub hl [3, 4, 5, 1, 0] rfl)
set_option maxHeartbeats 4000000 in
set_option maxRecDepth 100000 in
theorem w_X0_scaleDown_15 (l : Launch) {p : Program} {e : Env} {s : State} {m : MethodId} {args : Array Value} {below : List Frame} {meth : Method} {c : Code} {A : Nat → Prop} {dC : Nat → ClassId} {dI : Nat → Nat → Nat} (a_this a_limbs : Nat) (c_limbs : ClassId) (hx : p.tables.exec = Jvm.exec) (hb : c.code = cX0_scaleDown) (hr : meth.sig.returnType = none) (hml : c.maxLocals = 9) (hown : s.vm.findClass RX0 = some m.cls) (hws : ∀ w ∈ wsL_law, w.before args s = true) (hlocks : meth.locks = false) (hA : ∀ q : Nat, s.heap.size ≤ q → A q) : ∀ (n : Nat) (l1 : Int32) (l2 : Int64) (l4 : Int64) (l6 : Int32) (v_first : Int32) (v_last : Int32) (v_limbs : Nat → Int64) (o_first : Int32) (o_last : Int32) (o_limbs : Nat → Int64), f_X0_scaleDown_L15 n l1 l2 l4 l6 v_first v_last v_limbs = some (o_first, o_last, o_limbs) → ∀ (H : Heap) (locs : List Loc), va_K (dC, dI) vwCl [(c_limbs, .long)] s → va_P (dC, dI) vwCl (wd_X0_scaleDown a_this a_limbs c_limbs v_first v_last v_limbs) H → va_D A (wd_X0_scaleDown a_this a_limbs c_limbs v_first v_last v_limbs) → va_S A s.heap H locs → ∀ (ls : Array Slot), lv_has ls 9 [(0, .ref a_this), (1, .int l1), (2, .long l2), (4, .long l4), (6, .int l6)] → W p l e (headSpec (w_X0_scaleDown) ({ frames := 1, cells := 0, slots := 0, locals := 20 } : Room)).room s m args below meth c H locs 0 0 (MQ below (va_Qv (fun (_ : Unit) => True) (fun (_ : Unit) t => va_P (dC, dI) vwCl (wd_X0_scaleDown a_this a_limbs c_limbs o_first o_last o_limbs) t.heap ∧ va_K (dC, dI) vwCl [(c_limbs, .long)] t ∧ va_D A (wd_X0_scaleDown a_this a_limbs c_limbs o_first o_last o_limbs)) A) args s 0 0 A) (F0 m 15 ls []) := by
  intro n
  induction n with
  | zero =>
    intro l1 l2 l4 l6 v_first v_last v_limbs o_first o_last o_limbs h H locs hK hP hD hS ls hl
    exact absurd h (by simp [f_X0_scaleDown_L15])
  | succ n ih =>
    intro l1 l2 l4 l6 v_first v_last v_limbs o_first o_last o_limbs h H locs hK hP hD hS ls hl
    unfold f_X0_scaleDown_L15 at h
    refine lv_iload hx hb dX0_scaleDown_15 (lv_at hl 4 rfl) ?_
    refine lv_aload_n hx hb dX0_scaleDown_17 rfl (lv_at hl 0 rfl) ?_
    refine va_get (D := (dC, dI)) (ci := 0) (v := .int v_last) (C := RX0) (T := TX0) (N := 3) hx hb hws inlX0 hown hK hP 0 rfl rfl 2 (by decide) (hws _ ww_29) (fun _ h9 => h9) rfl dX0_scaleDown_18 ?_
    refine lv_icmp_gt (tgt := 63) hx hb dX0_scaleDown_21 (by decide) (fun c9 => ?_) (fun c9 => ?_)
    · have h := (if_pos c9).symm.trans h
      refine lv_aload_n hx hb dX0_scaleDown_63 rfl (lv_at hl 0 rfl) ?_
      refine va_get (D := (dC, dI)) (ci := 0) (v := .int v_last) (C := RX0) (T := TX0) (N := 3) hx hb hws inlX0 hown hK hP 0 rfl rfl 2 (by decide) (hws _ ww_29) (fun _ h9 => h9) rfl dX0_scaleDown_64 ?_
      refine lv_iconst (v := 1) hx hb dX0_scaleDown_67 (by decide) ?_
      refine lv_iadd hx hb dX0_scaleDown_68 ?_
      refine lv_istore (lv' := [(6, .int (v_last + 1)), (0, .ref a_this), (1, .int l1), (2, .long l2), (4, .long l4)]) hx hb dX0_scaleDown_69 hl (by decide) rfl (fun ls hl => ?_)
      exact w_X0_scaleDown_71 l a_this a_limbs c_limbs hx hb hr hml hown hws hlocks hA FU l1 l2 l4 (v_last + 1) v_first v_last v_limbs o_first o_last o_limbs h H locs hK hP hD hS ls (lv_sub hl [1, 2, 3, 4, 0] rfl)
    · have h := (if_neg c9).symm.trans h
      refine lv_lload hx hb dX0_scaleDown_24 (lv_at hl 3 rfl) ?_
      refine lv_ldc2 (v := 1000000000) hx hb hown (hws _ ww_162) dX0_scaleDown_26 ?_
      refine lv_lmul hx hb dX0_scaleDown_29 ?_
      refine lv_aload_n hx hb dX0_scaleDown_30 rfl (lv_at hl 0 rfl) ?_
      refine va_get (D := (dC, dI)) (ci := 0) (v := .ref a_limbs) (C := RX0) (T := TX0) (N := 3) hx hb hws inlX0 hown hK hP 0 rfl rfl 0 (by decide) (hws _ ww_27) (fun _ h9 => h9) rfl dX0_scaleDown_31 ?_
      refine lv_iload hx hb dX0_scaleDown_34 (lv_at hl 4 rfl) ?_
      obtain ⟨hi, h⟩ := gd h
      refine va_lald hx hb hK hP 1 0 rfl rfl hi dX0_scaleDown_36 ?_
      refine lv_ladd hx hb dX0_scaleDown_37 ?_
      refine lv_lstore (lv' := [(7, .long ((l4 * 1000000000) + (v_limbs (Int32.toNatClampNeg l6)))), (0, .ref a_this), (1, .int l1), (2, .long l2), (4, .long l4), (6, .int l6)]) hx hb dX0_scaleDown_38 hl (by decide) rfl (fun ls hl => ?_)
      refine lv_aload_n hx hb dX0_scaleDown_40 rfl (lv_at hl 1 rfl) ?_
      refine va_get (D := (dC, dI)) (ci := 0) (v := .ref a_limbs) (C := RX0) (T := TX0) (N := 3) hx hb hws inlX0 hown hK hP 0 rfl rfl 0 (by decide) (hws _ ww_27) (fun _ h9 => h9) rfl dX0_scaleDown_41 ?_
      refine lv_iload hx hb dX0_scaleDown_44 (lv_at hl 5 rfl) ?_
      refine lv_lload hx hb dX0_scaleDown_46 (lv_at hl 0 rfl) ?_
      refine lv_iload_n hx hb dX0_scaleDown_48 rfl (lv_at hl 2 rfl) ?_
      refine lv_lushr hx hb dX0_scaleDown_49 rfl ?_
      obtain ⟨hi, h⟩ := gd h
      refine va_last hx hb hK hP hD hS 1 0 rfl rfl hi dX0_scaleDown_50 (fun H locs hP hD hS => ?_)
      have hP : va_P (dC, dI) vwCl (wd_X0_scaleDown a_this a_limbs c_limbs v_first v_last (vp_updL v_limbs (Int32.toNatClampNeg l6) ((Int64.toUInt64 ((l4 * 1000000000) + (v_limbs (Int32.toNatClampNeg l6))) >>> (Int64.toUInt64 (Int32.toInt64 l1) &&& Int64.toUInt64 63)).toInt64))) H := hP
      have hD : va_D A (wd_X0_scaleDown a_this a_limbs c_limbs v_first v_last (vp_updL v_limbs (Int32.toNatClampNeg l6) ((Int64.toUInt64 ((l4 * 1000000000) + (v_limbs (Int32.toNatClampNeg l6))) >>> (Int64.toUInt64 (Int32.toInt64 l1) &&& Int64.toUInt64 63)).toInt64))) := hD
      refine lv_lload hx hb dX0_scaleDown_51 (lv_at hl 0 rfl) ?_
      refine lv_lload_n hx hb dX0_scaleDown_53 rfl (lv_at hl 3 rfl) ?_
      refine lv_land hx hb dX0_scaleDown_54 ?_
      refine lv_lstore (lv' := [(4, .long (((l4 * 1000000000) + (v_limbs (Int32.toNatClampNeg l6))) &&& l2)), (7, .long ((l4 * 1000000000) + (v_limbs (Int32.toNatClampNeg l6)))), (0, .ref a_this), (1, .int l1), (2, .long l2), (6, .int l6)]) hx hb dX0_scaleDown_55 hl (by decide) rfl (fun ls hl => ?_)
      refine lv_iinc (v := (l6 + 1)) (lv' := [(6, .int (l6 + 1)), (4, .long (((l4 * 1000000000) + (v_limbs (Int32.toNatClampNeg l6))) &&& l2)), (7, .long ((l4 * 1000000000) + (v_limbs (Int32.toNatClampNeg l6)))), (0, .ref a_this), (1, .int l1), (2, .long l2)]) hx hb dX0_scaleDown_57 hl (k := 5) rfl rfl (by decide) rfl (fun ls hl => ?_)
      refine lv_goto (tgt := 15) hx hb dX0_scaleDown_60 (by decide) ?_
      exact ih l1 l2 (((l4 * 1000000000) + (v_limbs (Int32.toNatClampNeg l6))) &&& l2) (l6 + 1) v_first v_last (vp_updL v_limbs (Int32.toNatClampNeg l6) ((Int64.toUInt64 ((l4 * 1000000000) + (v_limbs (Int32.toNatClampNeg l6))) >>> (Int64.toUInt64 (Int32.toInt64 l1) &&& Int64.toUInt64 63)).toInt64)) o_first o_last o_limbs h H locs hK hP hD hS ls (lv_sub hl [3, 4, 5, 1, 0] rfl)
set_option maxHeartbeats 4000000 in
set_option maxRecDepth 100000 in
theorem c_X0_scaleDown (l : Launch) (dC : Nat → ClassId) (dI : Nat → Nat → Nat)  (a_this a_limbs : Nat) (c_limbs : ClassId) (sz : Nat) (l1 : Int32) (v_first : Int32) (v_last : Int32) (v_limbs : Nat → Int64) (o_first : Int32) (o_last : Int32) (o_limbs : Nat → Int64) (h : f_X0_scaleDown l1 v_first v_last v_limbs = some (o_first, o_last, o_limbs)) : Met l yX0_scaleDown w_X0_scaleDown ({ frames := 1, cells := 0, slots := 0, locals := 20 } : Room) (va_Pc [.ref a_this, .int l1] (fun U => U.heap.size = sz ∧ va_P (dC, dI) vwCl (wd_X0_scaleDown a_this a_limbs c_limbs v_first v_last v_limbs) U.heap ∧ va_K (dC, dI) vwCl [(c_limbs, .long)] U ∧ va_D (fun _ => True) (wd_X0_scaleDown a_this a_limbs c_limbs v_first v_last v_limbs))) (va_Qv (fun (_ : Unit) => True) (fun (_ : Unit) t => va_P (dC, dI) vwCl (wd_X0_scaleDown a_this a_limbs c_limbs o_first o_last o_limbs) t.heap ∧ va_K (dC, dI) vwCl [(c_limbs, .long)] t ∧ va_D (va_A (wd_X0_scaleDown a_this a_limbs c_limbs v_first v_last v_limbs) sz) (wd_X0_scaleDown a_this a_limbs c_limbs o_first o_last o_limbs)) (va_A (wd_X0_scaleDown a_this a_limbs c_limbs v_first v_last v_limbs) sz)) 0 0 (va_A (wd_X0_scaleDown a_this a_limbs c_limbs v_first v_last v_limbs) sz) := by
  refine Met.ofW (cc := cX0_scaleDown) (maxL := 9) (ret := none) (by decide) rfl ?_
  intro p e s m args below meth c s₁ B hml hv
  obtain ⟨rfl, hsz, hP, hK, hD0⟩ := hv
  have hx := B.exec
  have hb := B.bytes
  have hr := B.returns
  have hws : ∀ w ∈ wsL_law, w.before _ s = true := fun w hw => atoms_spec (ws := w_X0_scaleDown) B.pre w (List.mem_cons_of_mem _ hw)
  have hown : s.vm.findClass RX0 = some m.cls := findClass_of_methodNamed B.named
  have hlocks := B.notSynchronized
  subst hsz
  have hD := hD0.self (sz := s.heap.size)
  generalize hAe : va_A (wd_X0_scaleDown a_this a_limbs c_limbs v_first v_last v_limbs) s.heap.size = A at hD ⊢
  have hA : ∀ q : Nat, s.heap.size ≤ q → A q := fun q h => by rw [← hAe]; exact Or.inr h
  have hS : va_S A s.heap s.heap [] := va_S.rf
  have hl := lv_entry ([.ref a_this, .int l1]) (n := 9) (Nat.le_of_ble_eq_true rfl)
  rw [lg_entry_eq]
  generalize (lg_sl ([.ref a_this, .int l1]) ++ List.replicate (9 - (lg_sl ([.ref a_this, .int l1])).length) Slot.unset).toArray = ls at hl ⊢
  have hl : lv_has ls 9 [(0, .ref a_this), (1, .int l1)] := hl
  unfold f_X0_scaleDown at h
  refine lv_lconst (v := 1) hx hb dX0_scaleDown_0 (by decide) ?_
  refine lv_iload_n hx hb dX0_scaleDown_1 rfl (lv_at hl 1 rfl) ?_
  refine lv_lshl hx hb dX0_scaleDown_2 rfl ?_
  refine lv_lconst (v := 1) hx hb dX0_scaleDown_3 (by decide) ?_
  refine lv_lsub hx hb dX0_scaleDown_4 ?_
  refine lv_lstore_n (lv' := [(2, .long ((1 <<< (Int32.toInt64 l1 &&& 63)) - 1)), (0, .ref a_this), (1, .int l1)]) hx hb dX0_scaleDown_5 rfl hl (by decide) rfl (fun ls hl => ?_)
  refine lv_lconst (v := 0) hx hb dX0_scaleDown_6 (by decide) ?_
  refine lv_lstore (lv' := [(4, .long 0), (2, .long ((1 <<< (Int32.toInt64 l1 &&& 63)) - 1)), (0, .ref a_this), (1, .int l1)]) hx hb dX0_scaleDown_7 hl (by decide) rfl (fun ls hl => ?_)
  refine lv_aload_n hx hb dX0_scaleDown_9 rfl (lv_at hl 2 rfl) ?_
  refine va_get (D := (dC, dI)) (ci := 0) (v := .int v_first) (C := RX0) (T := TX0) (N := 3) hx hb hws inlX0 hown hK hP 0 rfl rfl 1 (by decide) (hws _ ww_28) (fun _ h9 => h9) rfl dX0_scaleDown_10 ?_
  refine lv_istore (lv' := [(6, .int v_first), (4, .long 0), (2, .long ((1 <<< (Int32.toInt64 l1 &&& 63)) - 1)), (0, .ref a_this), (1, .int l1)]) hx hb dX0_scaleDown_13 hl (by decide) rfl (fun ls hl => ?_)
  exact w_X0_scaleDown_15 l a_this a_limbs c_limbs hx hb hr hml hown hws hlocks hA FU l1 ((1 <<< (Int32.toInt64 l1 &&& 63)) - 1) 0 v_first v_first v_last v_limbs o_first o_last o_limbs h s.heap [] hK hP hD hS ls (lv_sub hl [3, 4, 2, 1, 0] rfl)
