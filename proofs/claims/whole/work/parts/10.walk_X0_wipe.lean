set_option maxHeartbeats 4000000 in
set_option maxRecDepth 100000 in
theorem w_X0_wipe_5 (l : Launch) {p : Program} {e : Env} {s : State} {m : MethodId} {args : Array Value} {below : List Frame} {meth : Method} {c : Code} {A : Nat → Prop} {dC : Nat → ClassId} {dI : Nat → Nat → Nat} (a_this a_limbs : Nat) (c_limbs : ClassId) (hx : p.tables.exec = Jvm.exec) (hb : c.code = cX0_wipe) (hr : meth.sig.returnType = none) (hml : c.maxLocals = 2) (hown : s.vm.findClass RX0 = some m.cls) (hws : ∀ w ∈ wsL_law, w.before args s = true) (hlocks : meth.locks = false) (hA : ∀ q : Nat, s.heap.size ≤ q → A q) : ∀ (n : Nat) (l1 : Int32) (v_first : Int32) (v_last : Int32) (v_limbs : Nat → Int64) (o_first : Int32) (o_last : Int32) (o_limbs : Nat → Int64), f_X0_wipe_L5 n l1 v_first v_last v_limbs = some (o_first, o_last, o_limbs) → ∀ (H : Heap) (locs : List Loc), va_K (dC, dI) vwCl [(c_limbs, .long)] s → va_P (dC, dI) vwCl (wd_X0_wipe a_this a_limbs c_limbs v_first v_last v_limbs) H → va_D A (wd_X0_wipe a_this a_limbs c_limbs v_first v_last v_limbs) → va_S A s.heap H locs → ∀ (ls : Array Slot), lv_has ls 2 [(0, .ref a_this), (1, .int l1)] → W p l e (headSpec (w_X0_wipe) ({ frames := 0, cells := 0, slots := 0, locals := 0 } : Room)).room s m args below meth c H locs 0 0 (MQ below (va_Qv (fun (_ : Unit) => True) (fun (_ : Unit) t => va_P (dC, dI) vwCl (wd_X0_wipe a_this a_limbs c_limbs o_first o_last o_limbs) t.heap ∧ va_K (dC, dI) vwCl [(c_limbs, .long)] t ∧ va_D A (wd_X0_wipe a_this a_limbs c_limbs o_first o_last o_limbs)) A) args s 0 0 A) (F0 m 5 ls []) := by
  intro n
  induction n with
  | zero =>
    intro l1 v_first v_last v_limbs o_first o_last o_limbs h H locs hK hP hD hS ls hl
    exact absurd h (by simp [f_X0_wipe_L5])
  | succ n ih =>
    intro l1 v_first v_last v_limbs o_first o_last o_limbs h H locs hK hP hD hS ls hl
    unfold f_X0_wipe_L5 at h
    refine lv_iload_n hx hb dX0_wipe_5 rfl (lv_at hl 1 rfl) ?_
    refine lv_aload_n hx hb dX0_wipe_6 rfl (lv_at hl 0 rfl) ?_
    refine va_get (D := (dC, dI)) (ci := 0) (v := .int v_last) (C := RX0) (T := TX0) (N := 3) hx hb hws inlX0 hown hK hP 0 rfl rfl 2 (by decide) (hws _ ww_29) (fun _ h9 => h9) rfl dX0_wipe_7 ?_
    refine lv_icmp_gt (tgt := 26) hx hb dX0_wipe_10 (by decide) (fun c9 => ?_) (fun c9 => ?_)
    · have h := (if_pos c9).symm.trans h
      refine lv_aload_n hx hb dX0_wipe_26 rfl (lv_at hl 0 rfl) ?_
      refine lv_sipush (v := 160) hx hb dX0_wipe_27 (by decide) ?_
      refine va_put (D := (dC, dI)) (ci := 0) (v := .int 160) (ty := .int) (C := RX0) (T := TX0) (N := 3) hx hb hws inlX0 tyX0 tyX0_ok nmX0 hown hK hP hD hS 0 rfl rfl 1 (by decide) (hws _ ww_28) (fun _ h9 => h9) rfl (by decide +kernel) rfl rfl (Nat.le_of_ble_eq_true rfl) dX0_wipe_30 (fun H locs hP hD hS => ?_)
      have hP : va_P (dC, dI) vwCl (wd_X0_wipe a_this a_limbs c_limbs 160 v_last v_limbs) H := hP
      have hD : va_D A (wd_X0_wipe a_this a_limbs c_limbs 160 v_last v_limbs) := hD
      refine lv_aload_n hx hb dX0_wipe_33 rfl (lv_at hl 0 rfl) ?_
      refine lv_iconst (v := (-1)) hx hb dX0_wipe_34 (by decide) ?_
      refine va_put (D := (dC, dI)) (ci := 0) (v := .int (-1)) (ty := .int) (C := RX0) (T := TX0) (N := 3) hx hb hws inlX0 tyX0 tyX0_ok nmX0 hown hK hP hD hS 0 rfl rfl 2 (by decide) (hws _ ww_29) (fun _ h9 => h9) rfl (by decide +kernel) rfl rfl (Nat.le_of_ble_eq_true rfl) dX0_wipe_35 (fun H locs hP hD hS => ?_)
      have hP : va_P (dC, dI) vwCl (wd_X0_wipe a_this a_limbs c_limbs 160 (-1) v_limbs) H := hP
      have hD : va_D A (wd_X0_wipe a_this a_limbs c_limbs 160 (-1) v_limbs) := hD
      obtain ⟨h09, h19, h29⟩ := rt3 h
      subst o_first
      subst o_last
      subst o_limbs
      exact W.vret hx hb hr (fun t ht hW => ⟨⟨(), rfl, trivial, by rw [ht]; exact hP, va_K.moved hW.alike hK, hD⟩, hS.F ht⟩) hS.2.2 dX0_wipe_38
    · have h := (if_neg c9).symm.trans h
      refine lv_aload_n hx hb dX0_wipe_13 rfl (lv_at hl 0 rfl) ?_
      refine va_get (D := (dC, dI)) (ci := 0) (v := .ref a_limbs) (C := RX0) (T := TX0) (N := 3) hx hb hws inlX0 hown hK hP 0 rfl rfl 0 (by decide) (hws _ ww_27) (fun _ h9 => h9) rfl dX0_wipe_14 ?_
      refine lv_iload_n hx hb dX0_wipe_17 rfl (lv_at hl 1 rfl) ?_
      refine lv_lconst (v := 0) hx hb dX0_wipe_18 (by decide) ?_
      obtain ⟨hi, h⟩ := gd h
      refine va_last hx hb hK hP hD hS 1 0 rfl rfl hi dX0_wipe_19 (fun H locs hP hD hS => ?_)
      have hP : va_P (dC, dI) vwCl (wd_X0_wipe a_this a_limbs c_limbs v_first v_last (vp_updL v_limbs (Int32.toNatClampNeg l1) 0)) H := hP
      have hD : va_D A (wd_X0_wipe a_this a_limbs c_limbs v_first v_last (vp_updL v_limbs (Int32.toNatClampNeg l1) 0)) := hD
      refine lv_iinc (v := (l1 + 1)) (lv' := [(1, .int (l1 + 1)), (0, .ref a_this)]) hx hb dX0_wipe_20 hl (k := 1) rfl rfl (by decide) rfl (fun ls hl => ?_)
      refine lv_goto (tgt := 5) hx hb dX0_wipe_23 (by decide) ?_
      exact ih (l1 + 1) v_first v_last (vp_updL v_limbs (Int32.toNatClampNeg l1) 0) o_first o_last o_limbs h H locs hK hP hD hS ls (lv_sub hl [1, 0] rfl)
set_option maxHeartbeats 4000000 in
set_option maxRecDepth 100000 in
theorem c_X0_wipe (l : Launch) (dC : Nat → ClassId) (dI : Nat → Nat → Nat)  (a_this a_limbs : Nat) (c_limbs : ClassId) (sz : Nat)  (v_first : Int32) (v_last : Int32) (v_limbs : Nat → Int64) (o_first : Int32) (o_last : Int32) (o_limbs : Nat → Int64) (h : f_X0_wipe v_first v_last v_limbs = some (o_first, o_last, o_limbs)) : Met l yX0_wipe w_X0_wipe ({ frames := 0, cells := 0, slots := 0, locals := 0 } : Room) (va_Pc [.ref a_this] (fun U => U.heap.size = sz ∧ va_P (dC, dI) vwCl (wd_X0_wipe a_this a_limbs c_limbs v_first v_last v_limbs) U.heap ∧ va_K (dC, dI) vwCl [(c_limbs, .long)] U ∧ va_D (fun _ => True) (wd_X0_wipe a_this a_limbs c_limbs v_first v_last v_limbs))) (va_Qv (fun (_ : Unit) => True) (fun (_ : Unit) t => va_P (dC, dI) vwCl (wd_X0_wipe a_this a_limbs c_limbs o_first o_last o_limbs) t.heap ∧ va_K (dC, dI) vwCl [(c_limbs, .long)] t ∧ va_D (va_A (wd_X0_wipe a_this a_limbs c_limbs v_first v_last v_limbs) sz) (wd_X0_wipe a_this a_limbs c_limbs o_first o_last o_limbs)) (va_A (wd_X0_wipe a_this a_limbs c_limbs v_first v_last v_limbs) sz)) 0 0 (va_A (wd_X0_wipe a_this a_limbs c_limbs v_first v_last v_limbs) sz) := by
  refine Met.ofW (cc := cX0_wipe) (maxL := 2) (ret := none) (by decide) rfl ?_
  intro p e s m args below meth c s₁ B hml hv
  obtain ⟨rfl, hsz, hP, hK, hD0⟩ := hv
  have hx := B.exec
  have hb := B.bytes
  have hr := B.returns
  have hws : ∀ w ∈ wsL_law, w.before _ s = true := fun w hw => atoms_spec (ws := w_X0_wipe) B.pre w (List.mem_cons_of_mem _ hw)
  have hown : s.vm.findClass RX0 = some m.cls := findClass_of_methodNamed B.named
  have hlocks := B.notSynchronized
  subst hsz
  have hD := hD0.self (sz := s.heap.size)
  generalize hAe : va_A (wd_X0_wipe a_this a_limbs c_limbs v_first v_last v_limbs) s.heap.size = A at hD ⊢
  have hA : ∀ q : Nat, s.heap.size ≤ q → A q := fun q h => by rw [← hAe]; exact Or.inr h
  have hS : va_S A s.heap s.heap [] := va_S.rf
  have hl := lv_entry ([.ref a_this]) (n := 2) (Nat.le_of_ble_eq_true rfl)
  rw [lg_entry_eq]
  generalize (lg_sl ([.ref a_this]) ++ List.replicate (2 - (lg_sl ([.ref a_this])).length) Slot.unset).toArray = ls at hl ⊢
  have hl : lv_has ls 2 [(0, .ref a_this)] := hl
  unfold f_X0_wipe at h
  refine lv_aload_n hx hb dX0_wipe_0 rfl (lv_at hl 0 rfl) ?_
  refine va_get (D := (dC, dI)) (ci := 0) (v := .int v_first) (C := RX0) (T := TX0) (N := 3) hx hb hws inlX0 hown hK hP 0 rfl rfl 1 (by decide) (hws _ ww_28) (fun _ h9 => h9) rfl dX0_wipe_1 ?_
  refine lv_istore_n (lv' := [(1, .int v_first), (0, .ref a_this)]) hx hb dX0_wipe_4 rfl hl (by decide) rfl (fun ls hl => ?_)
  exact w_X0_wipe_5 l a_this a_limbs c_limbs hx hb hr hml hown hws hlocks hA FU v_first v_first v_last v_limbs o_first o_last o_limbs h s.heap [] hK hP hD hS ls (lv_sub hl [1, 0] rfl)
set_option maxHeartbeats 4000000 in
set_option maxRecDepth 100000 in
theorem c_J9_floorDiv_7cf53 (l : Launch) (dC : Nat → ClassId) (dI : Nat → Nat → Nat)   (sz : Nat) (l0 : Int32) (l1 : Int32)  (o_r : Int32) (h : f_J9_floorDiv_7cf53 l0 l1 = some o_r) : Met l yJ9_floorDiv_7cf53 w_J9_floorDiv_7cf53 ({ frames := 0, cells := 0, slots := 0, locals := 0 } : Room) (va_Pc [.int l0, .int l1] (fun U => U.heap.size = sz ∧ va_P (dC, dI) vwCl ([] : va_W) U.heap ∧ va_K (dC, dI) vwCl [] U ∧ va_D (fun _ => True) ([] : va_W))) (va_Qi (fun r9 (_ : Unit) => r9 = o_r) (fun (_ : Unit) t => va_P (dC, dI) vwCl ([] : va_W) t.heap ∧ va_K (dC, dI) vwCl [] t ∧ va_D (va_A ([] : va_W) sz) ([] : va_W)) (va_A ([] : va_W) sz)) 0 0 (va_A ([] : va_W) sz) := by
  refine va_MetF (cc := cJ9_floorDiv_7cf53) (maxL := 3) (ret := (some .int)) (by decide +kernel) rfl ?_
  intro p e s m args below meth c s₁ B hml hv
  obtain ⟨rfl, hsz, hP, hK, hD0⟩ := hv
  have hx := B.exec
  have hb := B.bytes
  have hr := B.returns
  have hws : ∀ w ∈ wsL_law, w.before _ s = true := fun w hw => atoms_spec (ws := w_J9_floorDiv_7cf53) B.pre w (List.mem_cons_of_mem _ hw)
  have hown : s.vm.findClass RJ9 = some m.cls := findClass_of_methodNamed B.named
  have hlocks := B.notSynchronized
  subst hsz
  have hD := hD0.self (sz := s.heap.size)
  generalize hAe : va_A ([] : va_W) s.heap.size = A at hD ⊢
  have hA : ∀ q : Nat, s.heap.size ≤ q → A q := fun q h => by rw [← hAe]; exact Or.inr h
  have hS : va_S A s.heap s.heap [] := va_S.rf
  have hl := lv_entry ([.int l0, .int l1]) (n := 3) (Nat.le_of_ble_eq_true rfl)
  rw [lg_entry_eq]
  generalize (lg_sl ([.int l0, .int l1]) ++ List.replicate (3 - (lg_sl ([.int l0, .int l1])).length) Slot.unset).toArray = ls at hl ⊢
  have hl : lv_has ls 3 [(0, .int l0), (1, .int l1)] := hl
  unfold f_J9_floorDiv_7cf53 at h
  refine lv_iload_n hx hb dJ9_floorDiv_7cf53_0 rfl (lv_at hl 0 rfl) ?_
  refine lv_iload_n hx hb dJ9_floorDiv_7cf53_1 rfl (lv_at hl 1 rfl) ?_
  obtain ⟨hz, h⟩ := gd h
  refine lv_idiv hx hb dJ9_floorDiv_7cf53_2 hz ?_
  refine lv_istore_n (lv' := [(2, .int (l0 / l1)), (0, .int l0), (1, .int l1)]) hx hb dJ9_floorDiv_7cf53_3 rfl hl (by decide) rfl (fun ls hl => ?_)
  refine lv_iload_n hx hb dJ9_floorDiv_7cf53_4 rfl (lv_at hl 1 rfl) ?_
  refine lv_iload_n hx hb dJ9_floorDiv_7cf53_5 rfl (lv_at hl 2 rfl) ?_
  refine lv_ixor hx hb dJ9_floorDiv_7cf53_6 ?_
  refine lv_if_ge (tgt := 21) hx hb dJ9_floorDiv_7cf53_7 (by decide) (fun c9 => ?_) (fun c9 => ?_)
  · have h := (if_pos c9).symm.trans h
    refine lv_iload_n hx hb dJ9_floorDiv_7cf53_21 rfl (lv_at hl 0 rfl) ?_
    obtain h09 := rt1 h
    subst o_r
    exact W.iret hx hb hr (fun t ht hW => ⟨⟨_, (), rfl, rfl, by rw [ht]; exact hP, va_K.moved hW.alike hK, hD⟩, hS.F ht⟩) hS.2.2 dJ9_floorDiv_7cf53_22
  · have h := (if_neg c9).symm.trans h
    refine lv_iload_n hx hb dJ9_floorDiv_7cf53_10 rfl (lv_at hl 0 rfl) ?_
    refine lv_iload_n hx hb dJ9_floorDiv_7cf53_11 rfl (lv_at hl 2 rfl) ?_
    refine lv_imul hx hb dJ9_floorDiv_7cf53_12 ?_
    refine lv_iload_n hx hb dJ9_floorDiv_7cf53_13 rfl (lv_at hl 1 rfl) ?_
    refine lv_icmp_eq (tgt := 21) hx hb dJ9_floorDiv_7cf53_14 (by decide) (fun c9 => ?_) (fun c9 => ?_)
    · have h := (if_pos c9).symm.trans h
      refine lv_iload_n hx hb dJ9_floorDiv_7cf53_21 rfl (lv_at hl 0 rfl) ?_
      obtain h09 := rt1 h
      subst o_r
      exact W.iret hx hb hr (fun t ht hW => ⟨⟨_, (), rfl, rfl, by rw [ht]; exact hP, va_K.moved hW.alike hK, hD⟩, hS.F ht⟩) hS.2.2 dJ9_floorDiv_7cf53_22
    · have h := (if_neg c9).symm.trans h
      refine lv_iload_n hx hb dJ9_floorDiv_7cf53_17 rfl (lv_at hl 0 rfl) ?_
      refine lv_iconst (v := 1) hx hb dJ9_floorDiv_7cf53_18 (by decide) ?_
      refine lv_isub hx hb dJ9_floorDiv_7cf53_19 ?_
      obtain h09 := rt1 h
      subst o_r
      exact W.iret hx hb hr (fun t ht hW => ⟨⟨_, (), rfl, rfl, by rw [ht]; exact hP, va_K.moved hW.alike hK, hD⟩, hS.F ht⟩) hS.2.2 dJ9_floorDiv_7cf53_20
set_option maxHeartbeats 4000000 in
set_option maxRecDepth 100000 in
theorem c_X0_limbOf (l : Launch) (dC : Nat → ClassId) (dI : Nat → Nat → Nat)   (sz : Nat) (l0 : Int32)  (o_r : Int32) (h : f_X0_limbOf l0 = some o_r) : Met l yX0_limbOf w_X0_limbOf ({ frames := 1, cells := 0, slots := 0, locals := 22 } : Room) (va_Pc [.int l0] (fun U => U.heap.size = sz ∧ va_P (dC, dI) vwCl ([] : va_W) U.heap ∧ va_K (dC, dI) vwCl [] U ∧ va_D (fun _ => True) ([] : va_W))) (va_Qi (fun r9 (_ : Unit) => r9 = o_r) (fun (_ : Unit) t => va_P (dC, dI) vwCl ([] : va_W) t.heap ∧ va_K (dC, dI) vwCl [] t ∧ va_D (va_A ([] : va_W) sz) ([] : va_W)) (va_A ([] : va_W) sz)) 0 0 (va_A ([] : va_W) sz) := by
  refine Met.ofW (cc := cX0_limbOf) (maxL := 1) (ret := (some .int)) (by decide) rfl ?_
  intro p e s m args below meth c s₁ B hml hv
  obtain ⟨rfl, hsz, hP, hK, hD0⟩ := hv
  have hx := B.exec
  have hb := B.bytes
  have hr := B.returns
  have hws : ∀ w ∈ wsL_law, w.before _ s = true := fun w hw => atoms_spec (ws := w_X0_limbOf) B.pre w (List.mem_cons_of_mem _ hw)
  have hown : s.vm.findClass RX0 = some m.cls := findClass_of_methodNamed B.named
  have hlocks := B.notSynchronized
  subst hsz
  have hD := hD0.self (sz := s.heap.size)
  generalize hAe : va_A ([] : va_W) s.heap.size = A at hD ⊢
  have hA : ∀ q : Nat, s.heap.size ≤ q → A q := fun q h => by rw [← hAe]; exact Or.inr h
  have hS : va_S A s.heap s.heap [] := va_S.rf
  have hl := lv_entry ([.int l0]) (n := 1) (Nat.le_of_ble_eq_true rfl)
  rw [lg_entry_eq]
  generalize (lg_sl ([.int l0]) ++ List.replicate (1 - (lg_sl ([.int l0])).length) Slot.unset).toArray = ls at hl ⊢
  have hl : lv_has ls 1 [(0, .int l0)] := hl
  unfold f_X0_limbOf at h
  refine lv_bipush (v := 34) hx hb dX0_limbOf_0 (by decide) ?_
  refine lv_iload_n hx hb dX0_limbOf_2 rfl (lv_at hl 0 rfl) ?_
  refine lv_bipush (v := 9) hx hb dX0_limbOf_3 (by decide) ?_
  obtain ⟨r5, hc, h⟩ := bd h
  have hPc := hP.sub (ws' := ([] : va_W)) [] rfl
  have hDc := hD.sub (ws' := ([] : va_W)) [] (by decide) rfl
  have hKc := hK.sub (tys' := []) [] rfl
  have hFc := va_free (wc := ([] : va_W)) hD hS hA [] rfl
  refine va_calli (va_runS (As := [.int l0, .int 9]) (rest := [.int 34]) ⟨hx, hb, hml, hown, hws⟩ (c_J9_floorDiv_7cf53 l dC dI   (Array.size s.heap) l0 9  r5 hc) (va_cwS 2 hws (gS ww_135 ww_136 ww_127 ww_138) rfl rfl rfl (by decide +kernel) ⟨Nat.le_of_ble_eq_true rfl, Nat.le_of_ble_eq_true rfl⟩) ⟨(fun a U g mk q => by obtain ⟨q0, q1, qP, qK, qD⟩ := q; exact ⟨q0, q1, qP, va_K.moved (u := U) (U := U.calling g mk a) (Vm.Alike.refl U.vm) qK, qD⟩), (fun U hU hW => ⟨rfl, by rw [hU], by rw [hU]; exact hPc, va_K.moved hW.alike hKc, hDc.weaken (fun _ _ _ _ => trivial)⟩)⟩ rfl rfl hl.1 rfl (lv_room (Nat.le_of_ble_eq_true rfl)) dX0_limbOf_5 ⟨Nat.zero_le _, Nat.zero_le _⟩) hS (fun q _ h => hFc q h) hFc (fun r9 u9 t H1 locs ht hvm hw hB hz1 hk1 hS => ?_)
  obtain ⟨hP1, hK1, hD1⟩ := hB
  rw [ht] at hP1
  subst r9
  obtain ⟨hP, hD⟩ := va_join (wr := []) (w1 := ([] : va_W)) hP hD [] [] rfl rfl (by decide) (by decide) hk1 hFc hP1 hD1
  generalize H1 = H at hP hS ⊢
  have hP : va_P (dC, dI) vwCl ([] : va_W) H := hP.sub [] rfl
  have hD : va_D A ([] : va_W) := hD.sub [] (by decide) rfl
  clear hP1 hK1 hD1 hPc hDc hKc hFc hk1 hz1 ht hvm
  refine lv_isub hx hb dX0_limbOf_8 ?_
  obtain h09 := rt1 h
  subst o_r
  exact W.iret hx hb hr (fun t ht hW => ⟨⟨_, (), rfl, rfl, by rw [ht]; exact hP, va_K.moved hW.alike hK, hD⟩, hS.F ht⟩) hS.2.2 dX0_limbOf_9
set_option maxHeartbeats 4000000 in
set_option maxRecDepth 100000 in
theorem c_J9_floorMod_7cf53 (l : Launch) (dC : Nat → ClassId) (dI : Nat → Nat → Nat)   (sz : Nat) (l0 : Int32) (l1 : Int32)  (o_r : Int32) (h : f_J9_floorMod_7cf53 l0 l1 = some o_r) : Met l yJ9_floorMod_7cf53 w_J9_floorMod_7cf53 ({ frames := 0, cells := 0, slots := 0, locals := 0 } : Room) (va_Pc [.int l0, .int l1] (fun U => U.heap.size = sz ∧ va_P (dC, dI) vwCl ([] : va_W) U.heap ∧ va_K (dC, dI) vwCl [] U ∧ va_D (fun _ => True) ([] : va_W))) (va_Qi (fun r9 (_ : Unit) => r9 = o_r) (fun (_ : Unit) t => va_P (dC, dI) vwCl ([] : va_W) t.heap ∧ va_K (dC, dI) vwCl [] t ∧ va_D (va_A ([] : va_W) sz) ([] : va_W)) (va_A ([] : va_W) sz)) 0 0 (va_A ([] : va_W) sz) := by
  refine va_MetF (cc := cJ9_floorMod_7cf53) (maxL := 3) (ret := (some .int)) (by decide +kernel) rfl ?_
  intro p e s m args below meth c s₁ B hml hv
  obtain ⟨rfl, hsz, hP, hK, hD0⟩ := hv
  have hx := B.exec
  have hb := B.bytes
  have hr := B.returns
  have hws : ∀ w ∈ wsL_law, w.before _ s = true := fun w hw => atoms_spec (ws := w_J9_floorMod_7cf53) B.pre w (List.mem_cons_of_mem _ hw)
  have hown : s.vm.findClass RJ9 = some m.cls := findClass_of_methodNamed B.named
  have hlocks := B.notSynchronized
  subst hsz
  have hD := hD0.self (sz := s.heap.size)
  generalize hAe : va_A ([] : va_W) s.heap.size = A at hD ⊢
  have hA : ∀ q : Nat, s.heap.size ≤ q → A q := fun q h => by rw [← hAe]; exact Or.inr h
  have hS : va_S A s.heap s.heap [] := va_S.rf
  have hl := lv_entry ([.int l0, .int l1]) (n := 3) (Nat.le_of_ble_eq_true rfl)
  rw [lg_entry_eq]
  generalize (lg_sl ([.int l0, .int l1]) ++ List.replicate (3 - (lg_sl ([.int l0, .int l1])).length) Slot.unset).toArray = ls at hl ⊢
  have hl : lv_has ls 3 [(0, .int l0), (1, .int l1)] := hl
  unfold f_J9_floorMod_7cf53 at h
  refine lv_iload_n hx hb dJ9_floorMod_7cf53_0 rfl (lv_at hl 0 rfl) ?_
  refine lv_iload_n hx hb dJ9_floorMod_7cf53_1 rfl (lv_at hl 1 rfl) ?_
  obtain ⟨hz, h⟩ := gd h
  refine lv_irem hx hb dJ9_floorMod_7cf53_2 hz ?_
  refine lv_istore_n (lv' := [(2, .int (l0 - l0 / l1 * l1)), (0, .int l0), (1, .int l1)]) hx hb dJ9_floorMod_7cf53_3 rfl hl (by decide) rfl (fun ls hl => ?_)
  refine lv_iload_n hx hb dJ9_floorMod_7cf53_4 rfl (lv_at hl 1 rfl) ?_
  refine lv_iload_n hx hb dJ9_floorMod_7cf53_5 rfl (lv_at hl 2 rfl) ?_
  refine lv_ixor hx hb dJ9_floorMod_7cf53_6 ?_
  refine lv_if_ge (tgt := 18) hx hb dJ9_floorMod_7cf53_7 (by decide) (fun c9 => ?_) (fun c9 => ?_)
  · have h := (if_pos c9).symm.trans h
    refine lv_iload_n hx hb dJ9_floorMod_7cf53_18 rfl (lv_at hl 0 rfl) ?_
    obtain h09 := rt1 h
    subst o_r
    exact W.iret hx hb hr (fun t ht hW => ⟨⟨_, (), rfl, rfl, by rw [ht]; exact hP, va_K.moved hW.alike hK, hD⟩, hS.F ht⟩) hS.2.2 dJ9_floorMod_7cf53_19
  · have h := (if_neg c9).symm.trans h
    refine lv_iload_n hx hb dJ9_floorMod_7cf53_10 rfl (lv_at hl 0 rfl) ?_
    refine lv_if_eq (tgt := 18) hx hb dJ9_floorMod_7cf53_11 (by decide) (fun c9 => ?_) (fun c9 => ?_)
    · have h := (if_pos c9).symm.trans h
      refine lv_iload_n hx hb dJ9_floorMod_7cf53_18 rfl (lv_at hl 0 rfl) ?_
      obtain h09 := rt1 h
      subst o_r
      exact W.iret hx hb hr (fun t ht hW => ⟨⟨_, (), rfl, rfl, by rw [ht]; exact hP, va_K.moved hW.alike hK, hD⟩, hS.F ht⟩) hS.2.2 dJ9_floorMod_7cf53_19
    · have h := (if_neg c9).symm.trans h
      refine lv_iload_n hx hb dJ9_floorMod_7cf53_14 rfl (lv_at hl 0 rfl) ?_
      refine lv_iload_n hx hb dJ9_floorMod_7cf53_15 rfl (lv_at hl 2 rfl) ?_
      refine lv_iadd hx hb dJ9_floorMod_7cf53_16 ?_
      obtain h09 := rt1 h
      subst o_r
      exact W.iret hx hb hr (fun t ht hW => ⟨⟨_, (), rfl, rfl, by rw [ht]; exact hP, va_K.moved hW.alike hK, hD⟩, hS.F ht⟩) hS.2.2 dJ9_floorMod_7cf53_17
set_option maxHeartbeats 4000000 in
set_option maxRecDepth 100000 in
theorem c_X0_unitOf (l : Launch) (dC : Nat → ClassId) (dI : Nat → Nat → Nat) (a_TENS : Nat)  (sz : Nat) (l0 : Int32)  (o_r : Int64) (h : f_X0_unitOf l0 = some o_r) : Met l yX0_unitOf w_X0_unitOf ({ frames := 1, cells := 0, slots := 0, locals := 22 } : Room) (va_Pc [.int l0] (fun U => U.heap.size = sz ∧ va_P (dC, dI) vwCl ([] : va_W) U.heap ∧ va_K (dC, dI) vwCl [] U ∧ va_D (fun _ => True) ([] : va_W) ∧ va_Z "DoubleText$Decimal" "TENS" "[J" (.ref a_TENS) (va_A ([] : va_W) sz) U U.heap ∧ va_T .long a_TENS 9 TENS_v (va_A ([] : va_W) sz) U U.heap)) (va_Ql (fun r9 (_ : Unit) => r9 = o_r) (fun (_ : Unit) t => va_P (dC, dI) vwCl ([] : va_W) t.heap ∧ va_K (dC, dI) vwCl [] t ∧ va_D (va_A ([] : va_W) sz) ([] : va_W)) (va_A ([] : va_W) sz)) 0 0 (va_A ([] : va_W) sz) := by
  refine Met.ofW (cc := cX0_unitOf) (maxL := 1) (ret := (some .long)) (by decide) rfl ?_
  intro p e s m args below meth c s₁ B hml hv
  obtain ⟨rfl, hsz, hP, hK, hD0, hZ_TENS, hT_TENS⟩ := hv
  have hx := B.exec
  have hb := B.bytes
  have hr := B.returns
  have hws : ∀ w ∈ wsL_law, w.before _ s = true := fun w hw => atoms_spec (ws := w_X0_unitOf) B.pre w (List.mem_cons_of_mem _ hw)
  have hown : s.vm.findClass RX0 = some m.cls := findClass_of_methodNamed B.named
  have hlocks := B.notSynchronized
  subst hsz
  have hD := hD0.self (sz := s.heap.size)
  generalize hAe : va_A ([] : va_W) s.heap.size = A at hD hZ_TENS hT_TENS ⊢
  have hA : ∀ q : Nat, s.heap.size ≤ q → A q := fun q h => by rw [← hAe]; exact Or.inr h
  have hS : va_S A s.heap s.heap [] := va_S.rf
  have hl := lv_entry ([.int l0]) (n := 1) (Nat.le_of_ble_eq_true rfl)
  rw [lg_entry_eq]
  generalize (lg_sl ([.int l0]) ++ List.replicate (1 - (lg_sl ([.int l0])).length) Slot.unset).toArray = ls at hl ⊢
  have hl : lv_has ls 1 [(0, .int l0)] := hl
  unfold f_X0_unitOf at h
  refine va_gets hx hb hZ_TENS hS hown (hws _ ww_142) (fun _ h9 => h9) dX0_unitOf_0 ?_
  refine lv_iload_n hx hb dX0_unitOf_3 rfl (lv_at hl 0 rfl) ?_
  refine lv_bipush (v := 9) hx hb dX0_unitOf_4 (by decide) ?_
  obtain ⟨r6, hc, h⟩ := bd h
  have hPc := hP.sub (ws' := ([] : va_W)) [] rfl
  have hDc := hD.sub (ws' := ([] : va_W)) [] (by decide) rfl
  have hKc := hK.sub (tys' := []) [] rfl
  have hFc := va_free (wc := ([] : va_W)) hD hS hA [] rfl
  refine va_calli (va_runS (As := [.int l0, .int 9]) (rest := [.ref a_TENS]) ⟨hx, hb, hml, hown, hws⟩ (c_J9_floorMod_7cf53 l dC dI   (Array.size s.heap) l0 9  r6 hc) (va_cwS 2 hws (gS ww_143 ww_144 ww_127 ww_145) rfl rfl rfl (by decide +kernel) ⟨Nat.le_of_ble_eq_true rfl, Nat.le_of_ble_eq_true rfl⟩) ⟨(fun a U g mk q => by obtain ⟨q0, q1, qP, qK, qD⟩ := q; exact ⟨q0, q1, qP, va_K.moved (u := U) (U := U.calling g mk a) (Vm.Alike.refl U.vm) qK, qD⟩), (fun U hU hW => ⟨rfl, by rw [hU], by rw [hU]; exact hPc, va_K.moved hW.alike hKc, hDc.weaken (fun _ _ _ _ => trivial)⟩)⟩ rfl rfl hl.1 rfl (lv_room (Nat.le_of_ble_eq_true rfl)) dX0_unitOf_6 ⟨Nat.zero_le _, Nat.zero_le _⟩) hS (fun q _ h => hFc q h) hFc (fun r9 u9 t H1 locs ht hvm hw hB hz1 hk1 hS => ?_)
  obtain ⟨hP1, hK1, hD1⟩ := hB
  rw [ht] at hP1
  subst r9
  obtain ⟨hP, hD⟩ := va_join (wr := []) (w1 := ([] : va_W)) hP hD [] [] rfl rfl (by decide) (by decide) hk1 hFc hP1 hD1
  generalize H1 = H at hP hS ⊢
  have hP : va_P (dC, dI) vwCl ([] : va_W) H := hP.sub [] rfl
  have hD : va_D A ([] : va_W) := hD.sub [] (by decide) rfl
  clear hP1 hK1 hD1 hPc hDc hKc hFc hk1 hz1 ht hvm
  obtain ⟨hi, h⟩ := gd h
  refine va_tl hx hb hT_TENS hS hi rfl dX0_unitOf_9 ?_
  obtain h09 := rt1 h
  subst o_r
  exact W.lret hx hb hr (fun t ht hW => ⟨⟨_, (), rfl, rfl, by rw [ht]; exact hP, va_K.moved hW.alike hK, hD⟩, hS.F ht⟩) hS.2.2 dX0_unitOf_10
set_option maxHeartbeats 4000000 in
set_option maxRecDepth 100000 in
theorem c_X0_setDigit (l : Launch) (dC : Nat → ClassId) (dI : Nat → Nat → Nat) (a_TENS : Nat) (a_this a_limbs : Nat) (c_limbs : ClassId) (sz : Nat) (l1 : Int32) (l2 : Int32) (v_first : Int32) (v_last : Int32) (v_limbs : Nat → Int64) (o_first : Int32) (o_last : Int32) (o_limbs : Nat → Int64) (h : f_X0_setDigit l1 l2 v_first v_last v_limbs = some (o_first, o_last, o_limbs)) : Met l yX0_setDigit w_X0_setDigit ({ frames := 2, cells := 0, slots := 0, locals := 42 } : Room) (va_Pc [.ref a_this, .int l1, .int l2] (fun U => U.heap.size = sz ∧ va_P (dC, dI) vwCl (wd_X0_setDigit a_this a_limbs c_limbs v_first v_last v_limbs) U.heap ∧ va_K (dC, dI) vwCl [(c_limbs, .long)] U ∧ va_D (fun _ => True) (wd_X0_setDigit a_this a_limbs c_limbs v_first v_last v_limbs) ∧ va_Z "DoubleText$Decimal" "TENS" "[J" (.ref a_TENS) (va_A (wd_X0_setDigit a_this a_limbs c_limbs v_first v_last v_limbs) sz) U U.heap ∧ va_T .long a_TENS 9 TENS_v (va_A (wd_X0_setDigit a_this a_limbs c_limbs v_first v_last v_limbs) sz) U U.heap)) (va_Qv (fun (_ : Unit) => True) (fun (_ : Unit) t => va_P (dC, dI) vwCl (wd_X0_setDigit a_this a_limbs c_limbs o_first o_last o_limbs) t.heap ∧ va_K (dC, dI) vwCl [(c_limbs, .long)] t ∧ va_D (va_A (wd_X0_setDigit a_this a_limbs c_limbs v_first v_last v_limbs) sz) (wd_X0_setDigit a_this a_limbs c_limbs o_first o_last o_limbs)) (va_A (wd_X0_setDigit a_this a_limbs c_limbs v_first v_last v_limbs) sz)) 0 0 (va_A (wd_X0_setDigit a_this a_limbs c_limbs v_first v_last v_limbs) sz) := by
  refine Met.ofW (cc := cX0_setDigit) (maxL := 4) (ret := none) (by decide) rfl ?_
  intro p e s m args below meth c s₁ B hml hv
  obtain ⟨rfl, hsz, hP, hK, hD0, hZ_TENS, hT_TENS⟩ := hv
  have hx := B.exec
  have hb := B.bytes
  have hr := B.returns
  have hws : ∀ w ∈ wsL_law, w.before _ s = true := fun w hw => atoms_spec (ws := w_X0_setDigit) B.pre w (List.mem_cons_of_mem _ hw)
  have hown : s.vm.findClass RX0 = some m.cls := findClass_of_methodNamed B.named
  have hlocks := B.notSynchronized
  subst hsz
  have hD := hD0.self (sz := s.heap.size)
  generalize hAe : va_A (wd_X0_setDigit a_this a_limbs c_limbs v_first v_last v_limbs) s.heap.size = A at hD hZ_TENS hT_TENS ⊢
  have hA : ∀ q : Nat, s.heap.size ≤ q → A q := fun q h => by rw [← hAe]; exact Or.inr h
  have hS : va_S A s.heap s.heap [] := va_S.rf
  have hl := lv_entry ([.ref a_this, .int l1, .int l2]) (n := 4) (Nat.le_of_ble_eq_true rfl)
  rw [lg_entry_eq]
  generalize (lg_sl ([.ref a_this, .int l1, .int l2]) ++ List.replicate (4 - (lg_sl ([.ref a_this, .int l1, .int l2])).length) Slot.unset).toArray = ls at hl ⊢
  have hl : lv_has ls 4 [(0, .ref a_this), (1, .int l1), (2, .int l2)] := hl
  unfold f_X0_setDigit at h
  refine lv_iload_n hx hb dX0_setDigit_0 rfl (lv_at hl 1 rfl) ?_
  obtain ⟨r1, hc, h⟩ := bd h
  have hPc := hP.sub (ws' := ([] : va_W)) [] rfl
  have hDc := hD.sub (ws' := ([] : va_W)) [] (by decide) rfl
  have hKc := hK.sub (tys' := []) [] rfl
  have hFc := va_free (wc := ([] : va_W)) hD hS hA [] rfl
  refine va_calli (va_runS (As := [.int l1]) (rest := []) ⟨hx, hb, hml, hown, hws⟩ (c_X0_limbOf l dC dI   (Array.size s.heap) l1  r1 hc) (va_cwS 1 hws (gS ww_132 ww_133 ww_18 ww_134) rfl rfl rfl (by decide +kernel) ⟨Nat.le_of_ble_eq_true rfl, Nat.le_of_ble_eq_true rfl⟩) ⟨(fun a U g mk q => by obtain ⟨q0, q1, qP, qK, qD⟩ := q; exact ⟨q0, q1, qP, va_K.moved (u := U) (U := U.calling g mk a) (Vm.Alike.refl U.vm) qK, qD⟩), (fun U hU hW => ⟨rfl, by rw [hU], by rw [hU]; exact hPc, va_K.moved hW.alike hKc, hDc.weaken (fun _ _ _ _ => trivial)⟩)⟩ rfl rfl hl.1 rfl (lv_room (Nat.le_of_ble_eq_true rfl)) dX0_setDigit_1 ⟨Nat.zero_le _, Nat.zero_le _⟩) hS (fun q _ h => hFc q h) hFc (fun r9 u9 t H1 locs ht hvm hw hB hz1 hk1 hS => ?_)
  obtain ⟨hP1, hK1, hD1⟩ := hB
  rw [ht] at hP1
  subst r9
  obtain ⟨hP, hD⟩ := va_join (wr := [(a_this, .inr (0, [.ref a_limbs, .int v_first, .int v_last])), (a_limbs, .inl (c_limbs, 160, .inr (.inl v_limbs)))]) (w1 := ([] : va_W)) hP hD [] [0, 1] rfl rfl (by decide) (by decide) hk1 hFc hP1 hD1
  generalize H1 = H at hP hS ⊢
  have hP : va_P (dC, dI) vwCl (wd_X0_setDigit a_this a_limbs c_limbs v_first v_last v_limbs) H := hP.sub [0, 1] rfl
  have hD : va_D A (wd_X0_setDigit a_this a_limbs c_limbs v_first v_last v_limbs) := hD.sub [0, 1] (by decide) rfl
  clear hP1 hK1 hD1 hPc hDc hKc hFc hk1 hz1 ht hvm
  refine lv_istore_n (lv' := [(3, .int r1), (0, .ref a_this), (1, .int l1), (2, .int l2)]) hx hb dX0_setDigit_4 rfl hl (by decide) rfl (fun ls hl => ?_)
  refine lv_iload_n hx hb dX0_setDigit_5 rfl (lv_at hl 0 rfl) ?_
  refine lv_if_lt (tgt := 20) hx hb dX0_setDigit_6 (by decide) (fun c9 => ?_) (fun c9 => ?_)
  · have h := (if_pos c9).symm.trans h
    obtain ⟨h09, h19, h29⟩ := rt3 h
    subst o_first
    subst o_last
    subst o_limbs
    exact W.vret hx hb hr (fun t ht hW => ⟨⟨(), rfl, trivial, by rw [ht]; exact hP, va_K.moved hW.alike hK, hD⟩, hS.F ht⟩) hS.2.2 dX0_setDigit_20
  · have h := (if_neg c9).symm.trans h
    refine lv_iload_n hx hb dX0_setDigit_9 rfl (lv_at hl 0 rfl) ?_
    refine lv_sipush (v := 160) hx hb dX0_setDigit_10 (by decide) ?_
    refine lv_icmp_ge (tgt := 20) hx hb dX0_setDigit_13 (by decide) (fun c9 => ?_) (fun c9 => ?_)
    · have h := (if_pos c9).symm.trans h
      obtain ⟨h09, h19, h29⟩ := rt3 h
      subst o_first
      subst o_last
      subst o_limbs
      exact W.vret hx hb hr (fun t ht hW => ⟨⟨(), rfl, trivial, by rw [ht]; exact hP, va_K.moved hW.alike hK, hD⟩, hS.F ht⟩) hS.2.2 dX0_setDigit_20
    · have h := (if_neg c9).symm.trans h
      refine lv_iload_n hx hb dX0_setDigit_16 rfl (lv_at hl 3 rfl) ?_
      refine lv_if_ne (tgt := 21) hx hb dX0_setDigit_17 (by decide) (fun c9 => ?_) (fun c9 => ?_)
      · have h := (if_neg c9).symm.trans h
        refine lv_aload_n hx hb dX0_setDigit_21 rfl (lv_at hl 1 rfl) ?_
        refine va_get (D := (dC, dI)) (ci := 0) (v := .ref a_limbs) (C := RX0) (T := TX0) (N := 3) hx hb hws inlX0 hown hK hP 0 rfl rfl 0 (by decide) (hws _ ww_27) (fun _ h9 => h9) rfl dX0_setDigit_22 ?_
        refine lv_iload_n hx hb dX0_setDigit_25 rfl (lv_at hl 0 rfl) ?_
        refine lv_dup2_11 hx hb dX0_setDigit_26 rfl rfl ?_
        obtain ⟨hi, h⟩ := gd h
        refine va_lald hx hb hK hP 1 0 rfl rfl hi dX0_setDigit_27 ?_
        refine lv_iload_n hx hb dX0_setDigit_28 rfl (lv_at hl 3 rfl) ?_
        refine lv_i2l hx hb dX0_setDigit_29 rfl ?_
        refine lv_iload_n hx hb dX0_setDigit_30 rfl (lv_at hl 2 rfl) ?_
        obtain ⟨r31, hc, h⟩ := bd h
        have hPc := hP.sub (ws' := ([] : va_W)) [] rfl
        have hDc := hD.sub (ws' := ([] : va_W)) [] (by decide) rfl
        have hKc := hK.sub (tys' := []) [] rfl
        have hFc := va_free (wc := ([] : va_W)) hD hS hA [] rfl
        refine va_calll (va_runS (As := [.int l1]) (rest := [.long (Int32.toInt64 l2), .long (v_limbs (Int32.toNatClampNeg r1)), .int r1, .ref a_limbs]) ⟨hx, hb, hml, hown, hws⟩ (c_X0_unitOf l dC dI a_TENS  (Array.size H) l1  r31 hc) (va_cwS 1 hws (gS ww_139 ww_140 ww_18 ww_141) rfl rfl rfl (by decide +kernel) ⟨Nat.le_of_ble_eq_true rfl, Nat.le_of_ble_eq_true rfl⟩) ⟨(fun a U g mk q => by obtain ⟨q0, q1, qP, qK, qD, qhZ_TENS, qhT_TENS⟩ := q; exact ⟨q0, q1, qP, va_K.moved (u := U) (U := U.calling g mk a) (Vm.Alike.refl U.vm) qK, qD, qhZ_TENS.moved (u := U) (U := U.calling g mk a) (Vm.Alike.refl U.vm), qhT_TENS.moved (u := U) (U := U.calling g mk a) (Vm.Alike.refl U.vm)⟩), (fun U hU hW => ⟨rfl, by rw [hU], by rw [hU]; exact hPc, va_K.moved hW.alike hKc, hDc.weaken (fun _ _ _ _ => trivial), by rw [hU]; exact ((hZ_TENS.kept (fun q h1 h2 => hS.2.1 q h1 h2)).narrow hFc).moved hW.alike, by rw [hU]; exact ((hT_TENS.kept (fun q h1 h2 => hS.2.1 q h1 h2)).narrow hFc).moved hW.alike⟩)⟩ rfl rfl hl.1 rfl (lv_room (Nat.le_of_ble_eq_true rfl)) dX0_setDigit_31 ⟨Nat.zero_le _, Nat.zero_le _⟩) hS (fun q _ h => hFc q h) hFc (fun r9 u9 t H1 locs ht hvm hw hB hz1 hk1 hS => ?_)
        obtain ⟨hP1, hK1, hD1⟩ := hB
        rw [ht] at hP1
        subst r9
        obtain ⟨hP, hD⟩ := va_join (wr := [(a_this, .inr (0, [.ref a_limbs, .int v_first, .int v_last])), (a_limbs, .inl (c_limbs, 160, .inr (.inl v_limbs)))]) (w1 := ([] : va_W)) hP hD [] [0, 1] rfl rfl (by decide) (by decide) hk1 hFc hP1 hD1
        generalize H1 = H at hP hS ⊢
        have hP : va_P (dC, dI) vwCl (wd_X0_setDigit a_this a_limbs c_limbs v_first v_last v_limbs) H := hP.sub [0, 1] rfl
        have hD : va_D A (wd_X0_setDigit a_this a_limbs c_limbs v_first v_last v_limbs) := hD.sub [0, 1] (by decide) rfl
        clear hP1 hK1 hD1 hPc hDc hKc hFc hk1 hz1 ht hvm
        refine lv_lmul hx hb dX0_setDigit_34 ?_
        refine lv_ladd hx hb dX0_setDigit_35 ?_
        obtain ⟨hi, h⟩ := gd h
        refine va_last hx hb hK hP hD hS 1 0 rfl rfl hi dX0_setDigit_36 (fun H locs hP hD hS => ?_)
        have hP : va_P (dC, dI) vwCl (wd_X0_setDigit a_this a_limbs c_limbs v_first v_last (vp_updL v_limbs (Int32.toNatClampNeg r1) ((v_limbs (Int32.toNatClampNeg r1)) + ((Int32.toInt64 l2) * r31)))) H := hP
        have hD : va_D A (wd_X0_setDigit a_this a_limbs c_limbs v_first v_last (vp_updL v_limbs (Int32.toNatClampNeg r1) ((v_limbs (Int32.toNatClampNeg r1)) + ((Int32.toInt64 l2) * r31)))) := hD
        refine lv_aload_n hx hb dX0_setDigit_37 rfl (lv_at hl 1 rfl) ?_
        refine lv_aload_n hx hb dX0_setDigit_38 rfl (lv_at hl 1 rfl) ?_
        refine va_get (D := (dC, dI)) (ci := 0) (v := .int v_first) (C := RX0) (T := TX0) (N := 3) hx hb hws inlX0 hown hK hP 0 rfl rfl 1 (by decide) (hws _ ww_28) (fun _ h9 => h9) rfl dX0_setDigit_39 ?_
        refine lv_iload_n hx hb dX0_setDigit_42 rfl (lv_at hl 0 rfl) ?_
        refine va_mmin hx hb (hml.trans hl.1.symm) hown (hws _ ww_125) (hws _ ww_126) (hws _ ww_127) (hws _ ww_128) (Nat.le_of_ble_eq_true rfl) (Nat.le_of_ble_eq_true rfl) (Nat.le_of_ble_eq_true rfl) (Nat.le_of_ble_eq_true rfl) dX0_setDigit_43 ?_
        refine va_put (D := (dC, dI)) (ci := 0) (v := .int (if r1 < v_first then r1 else v_first)) (ty := .int) (C := RX0) (T := TX0) (N := 3) hx hb hws inlX0 tyX0 tyX0_ok nmX0 hown hK hP hD hS 0 rfl rfl 1 (by decide) (hws _ ww_28) (fun _ h9 => h9) rfl (by decide +kernel) rfl rfl (Nat.le_of_ble_eq_true rfl) dX0_setDigit_46 (fun H locs hP hD hS => ?_)
        have hP : va_P (dC, dI) vwCl (wd_X0_setDigit a_this a_limbs c_limbs (if r1 < v_first then r1 else v_first) v_last (vp_updL v_limbs (Int32.toNatClampNeg r1) ((v_limbs (Int32.toNatClampNeg r1)) + ((Int32.toInt64 l2) * r31)))) H := hP
        have hD : va_D A (wd_X0_setDigit a_this a_limbs c_limbs (if r1 < v_first then r1 else v_first) v_last (vp_updL v_limbs (Int32.toNatClampNeg r1) ((v_limbs (Int32.toNatClampNeg r1)) + ((Int32.toInt64 l2) * r31)))) := hD
        refine lv_aload_n hx hb dX0_setDigit_49 rfl (lv_at hl 1 rfl) ?_
        refine lv_aload_n hx hb dX0_setDigit_50 rfl (lv_at hl 1 rfl) ?_
        refine va_get (D := (dC, dI)) (ci := 0) (v := .int v_last) (C := RX0) (T := TX0) (N := 3) hx hb hws inlX0 hown hK hP 0 rfl rfl 2 (by decide) (hws _ ww_29) (fun _ h9 => h9) rfl dX0_setDigit_51 ?_
        refine lv_iload_n hx hb dX0_setDigit_54 rfl (lv_at hl 0 rfl) ?_
        refine va_mmax hx hb (hml.trans hl.1.symm) hown (hws _ ww_129) (hws _ ww_130) (hws _ ww_127) (hws _ ww_131) (Nat.le_of_ble_eq_true rfl) (Nat.le_of_ble_eq_true rfl) (Nat.le_of_ble_eq_true rfl) (Nat.le_of_ble_eq_true rfl) dX0_setDigit_55 ?_
        refine va_put (D := (dC, dI)) (ci := 0) (v := .int (if v_last < r1 then r1 else v_last)) (ty := .int) (C := RX0) (T := TX0) (N := 3) hx hb hws inlX0 tyX0 tyX0_ok nmX0 hown hK hP hD hS 0 rfl rfl 2 (by decide) (hws _ ww_29) (fun _ h9 => h9) rfl (by decide +kernel) rfl rfl (Nat.le_of_ble_eq_true rfl) dX0_setDigit_58 (fun H locs hP hD hS => ?_)
        have hP : va_P (dC, dI) vwCl (wd_X0_setDigit a_this a_limbs c_limbs (if r1 < v_first then r1 else v_first) (if v_last < r1 then r1 else v_last) (vp_updL v_limbs (Int32.toNatClampNeg r1) ((v_limbs (Int32.toNatClampNeg r1)) + ((Int32.toInt64 l2) * r31)))) H := hP
        have hD : va_D A (wd_X0_setDigit a_this a_limbs c_limbs (if r1 < v_first then r1 else v_first) (if v_last < r1 then r1 else v_last) (vp_updL v_limbs (Int32.toNatClampNeg r1) ((v_limbs (Int32.toNatClampNeg r1)) + ((Int32.toInt64 l2) * r31)))) := hD
        obtain ⟨h09, h19, h29⟩ := rt3 h
        subst o_first
        subst o_last
        subst o_limbs
        exact W.vret hx hb hr (fun t ht hW => ⟨⟨(), rfl, trivial, by rw [ht]; exact hP, va_K.moved hW.alike hK, hD⟩, hS.F ht⟩) hS.2.2 dX0_setDigit_61
      · have h := (if_pos c9).symm.trans h
        obtain ⟨h09, h19, h29⟩ := rt3 h
        subst o_first
        subst o_last
        subst o_limbs
        exact W.vret hx hb hr (fun t ht hW => ⟨⟨(), rfl, trivial, by rw [ht]; exact hP, va_K.moved hW.alike hK, hD⟩, hS.F ht⟩) hS.2.2 dX0_setDigit_20
set_option maxHeartbeats 4000000 in
set_option maxRecDepth 100000 in
theorem c_X0_limb (l : Launch) (dC : Nat → ClassId) (dI : Nat → Nat → Nat)  (a_this a_limbs : Nat) (c_limbs : ClassId) (sz : Nat) (l1 : Int32) (v_first : Int32) (v_last : Int32) (v_limbs : Nat → Int64) (o_r : Int64) (h : f_X0_limb l1 v_limbs = some o_r) : Met l yX0_limb w_X0_limb ({ frames := 0, cells := 0, slots := 0, locals := 0 } : Room) (va_Pc [.ref a_this, .int l1] (fun U => U.heap.size = sz ∧ va_P (dC, dI) vwCl (wd_X0_limb a_this a_limbs c_limbs v_first v_last v_limbs) U.heap ∧ va_K (dC, dI) vwCl [(c_limbs, .long)] U ∧ va_D (fun _ => True) (wd_X0_limb a_this a_limbs c_limbs v_first v_last v_limbs))) (va_Ql (fun r9 (_ : Unit) => r9 = o_r) (fun (_ : Unit) t => va_P (dC, dI) vwCl (wd_X0_limb a_this a_limbs c_limbs v_first v_last v_limbs) t.heap ∧ va_K (dC, dI) vwCl [(c_limbs, .long)] t ∧ va_D (va_A (wd_X0_limb a_this a_limbs c_limbs v_first v_last v_limbs) sz) (wd_X0_limb a_this a_limbs c_limbs v_first v_last v_limbs)) (va_A (wd_X0_limb a_this a_limbs c_limbs v_first v_last v_limbs) sz)) 0 0 (va_A (wd_X0_limb a_this a_limbs c_limbs v_first v_last v_limbs) sz) := by
  refine Met.ofW (cc := cX0_limb) (maxL := 2) (ret := (some .long)) (by decide) rfl ?_
  intro p e s m args below meth c s₁ B hml hv
  obtain ⟨rfl, hsz, hP, hK, hD0⟩ := hv
  have hx := B.exec
  have hb := B.bytes
  have hr := B.returns
  have hws : ∀ w ∈ wsL_law, w.before _ s = true := fun w hw => atoms_spec (ws := w_X0_limb) B.pre w (List.mem_cons_of_mem _ hw)
  have hown : s.vm.findClass RX0 = some m.cls := findClass_of_methodNamed B.named
  have hlocks := B.notSynchronized
  subst hsz
  have hD := hD0.self (sz := s.heap.size)
  generalize hAe : va_A (wd_X0_limb a_this a_limbs c_limbs v_first v_last v_limbs) s.heap.size = A at hD ⊢
  have hA : ∀ q : Nat, s.heap.size ≤ q → A q := fun q h => by rw [← hAe]; exact Or.inr h
  have hS : va_S A s.heap s.heap [] := va_S.rf
  have hl := lv_entry ([.ref a_this, .int l1]) (n := 2) (Nat.le_of_ble_eq_true rfl)
  rw [lg_entry_eq]
  generalize (lg_sl ([.ref a_this, .int l1]) ++ List.replicate (2 - (lg_sl ([.ref a_this, .int l1])).length) Slot.unset).toArray = ls at hl ⊢
  have hl : lv_has ls 2 [(0, .ref a_this), (1, .int l1)] := hl
  unfold f_X0_limb at h
  refine lv_iload_n hx hb dX0_limb_0 rfl (lv_at hl 1 rfl) ?_
  refine lv_if_lt (tgt := 20) hx hb dX0_limb_1 (by decide) (fun c9 => ?_) (fun c9 => ?_)
  · have h := (if_pos c9).symm.trans h
    refine lv_lconst (v := 0) hx hb dX0_limb_20 (by decide) ?_
    obtain h09 := rt1 h
    subst o_r
    exact W.lret hx hb hr (fun t ht hW => ⟨⟨_, (), rfl, rfl, by rw [ht]; exact hP, va_K.moved hW.alike hK, hD⟩, hS.F ht⟩) hS.2.2 dX0_limb_21
  · have h := (if_neg c9).symm.trans h
    refine lv_iload_n hx hb dX0_limb_4 rfl (lv_at hl 1 rfl) ?_
    refine lv_sipush (v := 160) hx hb dX0_limb_5 (by decide) ?_
    refine lv_icmp_ge (tgt := 20) hx hb dX0_limb_8 (by decide) (fun c9 => ?_) (fun c9 => ?_)
    · have h := (if_pos c9).symm.trans h
      refine lv_lconst (v := 0) hx hb dX0_limb_20 (by decide) ?_
      obtain h09 := rt1 h
      subst o_r
      exact W.lret hx hb hr (fun t ht hW => ⟨⟨_, (), rfl, rfl, by rw [ht]; exact hP, va_K.moved hW.alike hK, hD⟩, hS.F ht⟩) hS.2.2 dX0_limb_21
    · have h := (if_neg c9).symm.trans h
      refine lv_aload_n hx hb dX0_limb_11 rfl (lv_at hl 0 rfl) ?_
      refine va_get (D := (dC, dI)) (ci := 0) (v := .ref a_limbs) (C := RX0) (T := TX0) (N := 3) hx hb hws inlX0 hown hK hP 0 rfl rfl 0 (by decide) (hws _ ww_27) (fun _ h9 => h9) rfl dX0_limb_12 ?_
      refine lv_iload_n hx hb dX0_limb_15 rfl (lv_at hl 1 rfl) ?_
      obtain ⟨hi, h⟩ := gd h
      refine va_lald hx hb hK hP 1 0 rfl rfl hi dX0_limb_16 ?_
      refine lv_goto (tgt := 21) hx hb dX0_limb_17 (by decide) ?_
      obtain h09 := rt1 h
      subst o_r
      exact W.lret hx hb hr (fun t ht hW => ⟨⟨_, (), rfl, rfl, by rw [ht]; exact hP, va_K.moved hW.alike hK, hD⟩, hS.F ht⟩) hS.2.2 dX0_limb_21
set_option maxHeartbeats 4000000 in
set_option maxRecDepth 100000 in
theorem c_X0_digit (l : Launch) (dC : Nat → ClassId) (dI : Nat → Nat → Nat) (a_TENS : Nat) (a_this a_limbs : Nat) (c_limbs : ClassId) (sz : Nat) (l1 : Int32) (v_first : Int32) (v_last : Int32) (v_limbs : Nat → Int64) (o_r : Int32) (h : f_X0_digit l1 v_limbs = some o_r) : Met l yX0_digit w_X0_digit ({ frames := 2, cells := 0, slots := 0, locals := 42 } : Room) (va_Pc [.ref a_this, .int l1] (fun U => U.heap.size = sz ∧ va_P (dC, dI) vwCl (wd_X0_digit a_this a_limbs c_limbs v_first v_last v_limbs) U.heap ∧ va_K (dC, dI) vwCl [(c_limbs, .long)] U ∧ va_D (fun _ => True) (wd_X0_digit a_this a_limbs c_limbs v_first v_last v_limbs) ∧ va_Z "DoubleText$Decimal" "TENS" "[J" (.ref a_TENS) (va_A (wd_X0_digit a_this a_limbs c_limbs v_first v_last v_limbs) sz) U U.heap ∧ va_T .long a_TENS 9 TENS_v (va_A (wd_X0_digit a_this a_limbs c_limbs v_first v_last v_limbs) sz) U U.heap)) (va_Qi (fun r9 (_ : Unit) => r9 = o_r) (fun (_ : Unit) t => va_P (dC, dI) vwCl (wd_X0_digit a_this a_limbs c_limbs v_first v_last v_limbs) t.heap ∧ va_K (dC, dI) vwCl [(c_limbs, .long)] t ∧ va_D (va_A (wd_X0_digit a_this a_limbs c_limbs v_first v_last v_limbs) sz) (wd_X0_digit a_this a_limbs c_limbs v_first v_last v_limbs)) (va_A (wd_X0_digit a_this a_limbs c_limbs v_first v_last v_limbs) sz)) 0 0 (va_A (wd_X0_digit a_this a_limbs c_limbs v_first v_last v_limbs) sz) := by
  refine Met.ofW (cc := cX0_digit) (maxL := 2) (ret := (some .int)) (by decide) rfl ?_
  intro p e s m args below meth c s₁ B hml hv
  obtain ⟨rfl, hsz, hP, hK, hD0, hZ_TENS, hT_TENS⟩ := hv
  have hx := B.exec
  have hb := B.bytes
  have hr := B.returns
  have hws : ∀ w ∈ wsL_law, w.before _ s = true := fun w hw => atoms_spec (ws := w_X0_digit) B.pre w (List.mem_cons_of_mem _ hw)
  have hown : s.vm.findClass RX0 = some m.cls := findClass_of_methodNamed B.named
  have hlocks := B.notSynchronized
  subst hsz
  have hD := hD0.self (sz := s.heap.size)
  generalize hAe : va_A (wd_X0_digit a_this a_limbs c_limbs v_first v_last v_limbs) s.heap.size = A at hD hZ_TENS hT_TENS ⊢
  have hA : ∀ q : Nat, s.heap.size ≤ q → A q := fun q h => by rw [← hAe]; exact Or.inr h
  have hS : va_S A s.heap s.heap [] := va_S.rf
  have hl := lv_entry ([.ref a_this, .int l1]) (n := 2) (Nat.le_of_ble_eq_true rfl)
  rw [lg_entry_eq]
  generalize (lg_sl ([.ref a_this, .int l1]) ++ List.replicate (2 - (lg_sl ([.ref a_this, .int l1])).length) Slot.unset).toArray = ls at hl ⊢
  have hl : lv_has ls 2 [(0, .ref a_this), (1, .int l1)] := hl
  unfold f_X0_digit at h
  refine lv_aload_n hx hb dX0_digit_0 rfl (lv_at hl 0 rfl) ?_
  refine lv_iload_n hx hb dX0_digit_1 rfl (lv_at hl 1 rfl) ?_
  obtain ⟨r2, hc, h⟩ := bd h
  have hPc := hP.sub (ws' := ([] : va_W)) [] rfl
  have hDc := hD.sub (ws' := ([] : va_W)) [] (by decide) rfl
  have hKc := hK.sub (tys' := []) [] rfl
  have hFc := va_free (wc := ([] : va_W)) hD hS hA [] rfl
  refine va_calli (va_runS (As := [.int l1]) (rest := [.ref a_this]) ⟨hx, hb, hml, hown, hws⟩ (c_X0_limbOf l dC dI   (Array.size s.heap) l1  r2 hc) (va_cwS 1 hws (gS ww_132 ww_133 ww_18 ww_134) rfl rfl rfl (by decide +kernel) ⟨Nat.le_of_ble_eq_true rfl, Nat.le_of_ble_eq_true rfl⟩) ⟨(fun a U g mk q => by obtain ⟨q0, q1, qP, qK, qD⟩ := q; exact ⟨q0, q1, qP, va_K.moved (u := U) (U := U.calling g mk a) (Vm.Alike.refl U.vm) qK, qD⟩), (fun U hU hW => ⟨rfl, by rw [hU], by rw [hU]; exact hPc, va_K.moved hW.alike hKc, hDc.weaken (fun _ _ _ _ => trivial)⟩)⟩ rfl rfl hl.1 rfl (lv_room (Nat.le_of_ble_eq_true rfl)) dX0_digit_2 ⟨Nat.zero_le _, Nat.zero_le _⟩) hS (fun q _ h => hFc q h) hFc (fun r9 u9 t H1 locs ht hvm hw hB hz1 hk1 hS => ?_)
  obtain ⟨hP1, hK1, hD1⟩ := hB
  rw [ht] at hP1
  subst r9
  obtain ⟨hP, hD⟩ := va_join (wr := [(a_this, .inr (0, [.ref a_limbs, .int v_first, .int v_last])), (a_limbs, .inl (c_limbs, 160, .inr (.inl v_limbs)))]) (w1 := ([] : va_W)) hP hD [] [0, 1] rfl rfl (by decide) (by decide) hk1 hFc hP1 hD1
  generalize H1 = H at hP hS ⊢
  have hP : va_P (dC, dI) vwCl (wd_X0_digit a_this a_limbs c_limbs v_first v_last v_limbs) H := hP.sub [0, 1] rfl
  have hD : va_D A (wd_X0_digit a_this a_limbs c_limbs v_first v_last v_limbs) := hD.sub [0, 1] (by decide) rfl
  clear hP1 hK1 hD1 hPc hDc hKc hFc hk1 hz1 ht hvm
  obtain ⟨r5, hc, h⟩ := bd h
  have hPc := hP.sub (ws' := (wd_X0_limb a_this a_limbs c_limbs v_first v_last v_limbs)) [0, 1] rfl
  have hDc := hD.sub (ws' := (wd_X0_limb a_this a_limbs c_limbs v_first v_last v_limbs)) [0, 1] (by decide) rfl
  have hKc := hK.sub (tys' := [(c_limbs, .long)]) [0] rfl
  have hFc := va_free (wc := (wd_X0_limb a_this a_limbs c_limbs v_first v_last v_limbs)) hD hS hA [0, 1] rfl
  refine va_calll (va_runV (As := [.int r2]) (rest := []) ⟨hx, hb, hml, hown, hws⟩ (c_X0_limb l dC dI  a_this a_limbs c_limbs (Array.size H) r2 v_first v_last v_limbs r5 hc) (cwV 1 hws (gV ww_203 ww_204 ww_205 ww_18 ww_206) rfl rfl rfl (by decide +kernel) ⟨Nat.le_of_ble_eq_true rfl, Nat.le_of_ble_eq_true rfl⟩) ⟨(fun a U g mk q => by obtain ⟨q0, q1, qP, qK, qD⟩ := q; exact ⟨q0, q1, qP, va_K.moved (u := U) (U := U.calling g mk a) (Vm.Alike.refl U.vm) qK, qD⟩), va_recv hKc hPc (ci := 0) (q0 := 0) rfl rfl, (fun U hU hW => ⟨rfl, by rw [hU], by rw [hU]; exact hPc, va_K.moved hW.alike hKc, hDc.weaken (fun _ _ _ _ => trivial)⟩)⟩ rfl rfl hl.1 rfl (lv_room (Nat.le_of_ble_eq_true rfl)) dX0_digit_5 ⟨Nat.zero_le _, Nat.zero_le _⟩) hS (fun q _ h => hFc q h) hFc (fun r9 u9 t H1 locs ht hvm hw hB hz1 hk1 hS => ?_)
  obtain ⟨hP1, hK1, hD1⟩ := hB
  rw [ht] at hP1
  subst r9
  obtain ⟨hP, hD⟩ := va_join (wr := []) (w1 := (wd_X0_limb a_this a_limbs c_limbs v_first v_last v_limbs)) hP hD [0, 1] [] rfl rfl (by decide) (by decide) hk1 hFc hP1 hD1
  generalize H1 = H at hP hS ⊢
  have hP : va_P (dC, dI) vwCl (wd_X0_digit a_this a_limbs c_limbs v_first v_last v_limbs) H := hP.sub [0, 1] rfl
  have hD : va_D A (wd_X0_digit a_this a_limbs c_limbs v_first v_last v_limbs) := hD.sub [0, 1] (by decide) rfl
  clear hP1 hK1 hD1 hPc hDc hKc hFc hk1 hz1 ht hvm
  refine lv_iload_n hx hb dX0_digit_8 rfl (lv_at hl 1 rfl) ?_
  obtain ⟨r9, hc, h⟩ := bd h
  have hPc := hP.sub (ws' := ([] : va_W)) [] rfl
  have hDc := hD.sub (ws' := ([] : va_W)) [] (by decide) rfl
  have hKc := hK.sub (tys' := []) [] rfl
  have hFc := va_free (wc := ([] : va_W)) hD hS hA [] rfl
  refine va_calll (va_runS (As := [.int l1]) (rest := [.long r5]) ⟨hx, hb, hml, hown, hws⟩ (c_X0_unitOf l dC dI a_TENS  (Array.size H) l1  r9 hc) (va_cwS 1 hws (gS ww_139 ww_140 ww_18 ww_141) rfl rfl rfl (by decide +kernel) ⟨Nat.le_of_ble_eq_true rfl, Nat.le_of_ble_eq_true rfl⟩) ⟨(fun a U g mk q => by obtain ⟨q0, q1, qP, qK, qD, qhZ_TENS, qhT_TENS⟩ := q; exact ⟨q0, q1, qP, va_K.moved (u := U) (U := U.calling g mk a) (Vm.Alike.refl U.vm) qK, qD, qhZ_TENS.moved (u := U) (U := U.calling g mk a) (Vm.Alike.refl U.vm), qhT_TENS.moved (u := U) (U := U.calling g mk a) (Vm.Alike.refl U.vm)⟩), (fun U hU hW => ⟨rfl, by rw [hU], by rw [hU]; exact hPc, va_K.moved hW.alike hKc, hDc.weaken (fun _ _ _ _ => trivial), by rw [hU]; exact ((hZ_TENS.kept (fun q h1 h2 => hS.2.1 q h1 h2)).narrow hFc).moved hW.alike, by rw [hU]; exact ((hT_TENS.kept (fun q h1 h2 => hS.2.1 q h1 h2)).narrow hFc).moved hW.alike⟩)⟩ rfl rfl hl.1 rfl (lv_room (Nat.le_of_ble_eq_true rfl)) dX0_digit_9 ⟨Nat.zero_le _, Nat.zero_le _⟩) hS (fun q _ h => hFc q h) hFc (fun r9 u9 t H1 locs ht hvm hw hB hz1 hk1 hS => ?_)
  obtain ⟨hP1, hK1, hD1⟩ := hB
  rw [ht] at hP1
  subst r9
  obtain ⟨hP, hD⟩ := va_join (wr := [(a_this, .inr (0, [.ref a_limbs, .int v_first, .int v_last])), (a_limbs, .inl (c_limbs, 160, .inr (.inl v_limbs)))]) (w1 := ([] : va_W)) hP hD [] [0, 1] rfl rfl (by decide) (by decide) hk1 hFc hP1 hD1
  generalize H1 = H at hP hS ⊢
  have hP : va_P (dC, dI) vwCl (wd_X0_digit a_this a_limbs c_limbs v_first v_last v_limbs) H := hP.sub [0, 1] rfl
  have hD : va_D A (wd_X0_digit a_this a_limbs c_limbs v_first v_last v_limbs) := hD.sub [0, 1] (by decide) rfl
  clear hP1 hK1 hD1 hPc hDc hKc hFc hk1 hz1 ht hvm
  obtain ⟨hz, h⟩ := gd h
  refine lv_ldiv hx hb dX0_digit_12 hz ?_
  refine lv_ldc2 (v := 10) hx hb hown (hws _ ww_325) dX0_digit_13 ?_
  refine lv_lrem hx hb dX0_digit_16 (by decide) ?_
  refine lv_l2i hx hb dX0_digit_17 rfl ?_
  obtain h09 := rt1 h
  subst o_r
  exact W.iret hx hb hr (fun t ht hW => ⟨⟨_, (), rfl, rfl, by rw [ht]; exact hP, va_K.moved hW.alike hK, hD⟩, hS.F ht⟩) hS.2.2 dX0_digit_18
set_option maxHeartbeats 4000000 in
set_option maxRecDepth 100000 in
theorem w_X0_topPlace_40 (l : Launch) {p : Program} {e : Env} {s : State} {m : MethodId} {args : Array Value} {below : List Frame} {meth : Method} {c : Code} {A : Nat → Prop} {dC : Nat → ClassId} {dI : Nat → Nat → Nat} (a_this a_limbs : Nat) (c_limbs : ClassId) (hx : p.tables.exec = Jvm.exec) (hb : c.code = cX0_topPlace) (hr : meth.sig.returnType = (some .int)) (hml : c.maxLocals = 4) (hown : s.vm.findClass RX0 = some m.cls) (hws : ∀ w ∈ wsL_law, w.before args s = true) (hlocks : meth.locks = false) (hA : ∀ q : Nat, s.heap.size ≤ q → A q) {a_TENS : Nat} (hZ_TENS : va_Z "DoubleText$Decimal" "TENS" "[J" (.ref a_TENS) A s s.heap) (hT_TENS : va_T .long a_TENS 9 TENS_v A s s.heap) : ∀ (l3 : Int32) (v_first : Int32) (v_last : Int32) (v_limbs : Nat → Int64) (o_r : Int32), f_X0_topPlace_b40 l3 v_first v_limbs = some o_r → ∀ (H : Heap) (locs : List Loc), va_K (dC, dI) vwCl [(c_limbs, .long)] s → va_P (dC, dI) vwCl (wd_X0_topPlace a_this a_limbs c_limbs v_first v_last v_limbs) H → va_D A (wd_X0_topPlace a_this a_limbs c_limbs v_first v_last v_limbs) → va_S A s.heap H locs → ∀ (ls : Array Slot), lv_has ls 4 [(0, .ref a_this), (3, .int l3)] → W p l e (headSpec (w_X0_topPlace) ({ frames := 1, cells := 0, slots := 0, locals := 21 } : Room)).room s m args below meth c H locs 0 0 (MQ below (va_Qi (fun r9 (_ : Unit) => r9 = o_r) (fun (_ : Unit) t => va_P (dC, dI) vwCl (wd_X0_topPlace a_this a_limbs c_limbs v_first v_last v_limbs) t.heap ∧ va_K (dC, dI) vwCl [(c_limbs, .long)] t ∧ va_D A (wd_X0_topPlace a_this a_limbs c_limbs v_first v_last v_limbs)) A) args s 0 0 A) (F0 m 40 ls []) := by
  intro l3 v_first v_last v_limbs o_r h H locs hK hP hD hS ls hl
  unfold f_X0_topPlace_b40 at h
  refine lv_bipush (v := 34) hx hb dX0_topPlace_40 (by decide) ?_
  refine lv_aload_n hx hb dX0_topPlace_42 rfl (lv_at hl 0 rfl) ?_
  refine va_get (D := (dC, dI)) (ci := 0) (v := .int v_first) (C := RX0) (T := TX0) (N := 3) hx hb hws inlX0 hown hK hP 0 rfl rfl 1 (by decide) (hws _ ww_28) (fun _ h9 => h9) rfl dX0_topPlace_43 ?_
  refine lv_isub hx hb dX0_topPlace_46 ?_
  refine lv_bipush (v := 9) hx hb dX0_topPlace_47 (by decide) ?_
  refine lv_imul hx hb dX0_topPlace_49 ?_
  refine lv_iload_n hx hb dX0_topPlace_50 rfl (lv_at hl 1 rfl) ?_
  refine lv_iadd hx hb dX0_topPlace_51 ?_
  obtain h09 := rt1 h
  subst o_r
  exact W.iret hx hb hr (fun t ht hW => ⟨⟨_, (), rfl, rfl, by rw [ht]; exact hP, va_K.moved hW.alike hK, hD⟩, hS.F ht⟩) hS.2.2 dX0_topPlace_52
set_option maxHeartbeats 4000000 in
set_option maxRecDepth 100000 in
theorem w_X0_topPlace_20 (l : Launch) {p : Program} {e : Env} {s : State} {m : MethodId} {args : Array Value} {below : List Frame} {meth : Method} {c : Code} {A : Nat → Prop} {dC : Nat → ClassId} {dI : Nat → Nat → Nat} (a_this a_limbs : Nat) (c_limbs : ClassId) (hx : p.tables.exec = Jvm.exec) (hb : c.code = cX0_topPlace) (hr : meth.sig.returnType = (some .int)) (hml : c.maxLocals = 4) (hown : s.vm.findClass RX0 = some m.cls) (hws : ∀ w ∈ wsL_law, w.before args s = true) (hlocks : meth.locks = false) (hA : ∀ q : Nat, s.heap.size ≤ q → A q) {a_TENS : Nat} (hZ_TENS : va_Z "DoubleText$Decimal" "TENS" "[J" (.ref a_TENS) A s s.heap) (hT_TENS : va_T .long a_TENS 9 TENS_v A s s.heap) : ∀ (n : Nat) (l1 : Int64) (l3 : Int32) (v_first : Int32) (v_last : Int32) (v_limbs : Nat → Int64) (o_r : Int32), f_X0_topPlace_L20 n l1 l3 v_first v_limbs = some o_r → ∀ (H : Heap) (locs : List Loc), va_K (dC, dI) vwCl [(c_limbs, .long)] s → va_P (dC, dI) vwCl (wd_X0_topPlace a_this a_limbs c_limbs v_first v_last v_limbs) H → va_D A (wd_X0_topPlace a_this a_limbs c_limbs v_first v_last v_limbs) → va_S A s.heap H locs → ∀ (ls : Array Slot), lv_has ls 4 [(0, .ref a_this), (1, .long l1), (3, .int l3)] → W p l e (headSpec (w_X0_topPlace) ({ frames := 1, cells := 0, slots := 0, locals := 21 } : Room)).room s m args below meth c H locs 0 0 (MQ below (va_Qi (fun r9 (_ : Unit) => r9 = o_r) (fun (_ : Unit) t => va_P (dC, dI) vwCl (wd_X0_topPlace a_this a_limbs c_limbs v_first v_last v_limbs) t.heap ∧ va_K (dC, dI) vwCl [(c_limbs, .long)] t ∧ va_D A (wd_X0_topPlace a_this a_limbs c_limbs v_first v_last v_limbs)) A) args s 0 0 A) (F0 m 20 ls []) := by
  intro n
  induction n with
  | zero =>
    intro l1 l3 v_first v_last v_limbs o_r h H locs hK hP hD hS ls hl
    exact absurd h (by simp [f_X0_topPlace_L20])
  | succ n ih =>
    intro l1 l3 v_first v_last v_limbs o_r h H locs hK hP hD hS ls hl
    unfold f_X0_topPlace_L20 at h
    refine lv_iload_n hx hb dX0_topPlace_20 rfl (lv_at hl 2 rfl) ?_
    refine lv_if_le (tgt := 40) hx hb dX0_topPlace_21 (by decide) (fun c9 => ?_) (fun c9 => ?_)
    · have h := (if_pos c9).symm.trans h
      exact w_X0_topPlace_40 l a_this a_limbs c_limbs hx hb hr hml hown hws hlocks hA hZ_TENS hT_TENS l3 v_first v_last v_limbs o_r h H locs hK hP hD hS ls (lv_sub hl [0, 2] rfl)
    · have h := (if_neg c9).symm.trans h
      refine lv_lload_n hx hb dX0_topPlace_24 rfl (lv_at hl 1 rfl) ?_
      refine va_gets hx hb hZ_TENS hS hown (hws _ ww_142) (fun _ h9 => h9) dX0_topPlace_25 ?_
      refine lv_iload_n hx hb dX0_topPlace_28 rfl (lv_at hl 2 rfl) ?_
      obtain ⟨hi, h⟩ := gd h
      refine va_tl hx hb hT_TENS hS hi rfl dX0_topPlace_29 ?_
      refine W.lcmp hx hb dX0_topPlace_30 ?_
      refine lv_if_ge (tgt := 40) hx hb dX0_topPlace_31 (by decide) (fun c9 => ?_) (fun c9 => ?_)
      · have h := (if_pos c9).symm.trans h
        exact w_X0_topPlace_40 l a_this a_limbs c_limbs hx hb hr hml hown hws hlocks hA hZ_TENS hT_TENS l3 v_first v_last v_limbs o_r h H locs hK hP hD hS ls (lv_sub hl [0, 2] rfl)
      · have h := (if_neg c9).symm.trans h
        refine lv_iinc (v := (l3 + (-1))) (lv' := [(3, .int (l3 + (-1))), (0, .ref a_this), (1, .long l1)]) hx hb dX0_topPlace_34 hl (k := 2) rfl rfl (by decide) rfl (fun ls hl => ?_)
        refine lv_goto (tgt := 20) hx hb dX0_topPlace_37 (by decide) ?_
        exact ih l1 (l3 + (-1)) v_first v_last v_limbs o_r h H locs hK hP hD hS ls (lv_sub hl [1, 2, 0] rfl)
set_option maxHeartbeats 4000000 in
set_option maxRecDepth 100000 in
theorem c_X0_topPlace (l : Launch) (dC : Nat → ClassId) (dI : Nat → Nat → Nat) (a_TENS : Nat) (a_this a_limbs : Nat) (c_limbs : ClassId) (sz : Nat)  (v_first : Int32) (v_last : Int32) (v_limbs : Nat → Int64) (o_r : Int32) (h : f_X0_topPlace v_first v_limbs = some o_r) : Met l yX0_topPlace w_X0_topPlace ({ frames := 1, cells := 0, slots := 0, locals := 21 } : Room) (va_Pc [.ref a_this] (fun U => U.heap.size = sz ∧ va_P (dC, dI) vwCl (wd_X0_topPlace a_this a_limbs c_limbs v_first v_last v_limbs) U.heap ∧ va_K (dC, dI) vwCl [(c_limbs, .long)] U ∧ va_D (fun _ => True) (wd_X0_topPlace a_this a_limbs c_limbs v_first v_last v_limbs) ∧ va_Z "DoubleText$Decimal" "TENS" "[J" (.ref a_TENS) (va_A (wd_X0_topPlace a_this a_limbs c_limbs v_first v_last v_limbs) sz) U U.heap ∧ va_T .long a_TENS 9 TENS_v (va_A (wd_X0_topPlace a_this a_limbs c_limbs v_first v_last v_limbs) sz) U U.heap)) (va_Qi (fun r9 (_ : Unit) => r9 = o_r) (fun (_ : Unit) t => va_P (dC, dI) vwCl (wd_X0_topPlace a_this a_limbs c_limbs v_first v_last v_limbs) t.heap ∧ va_K (dC, dI) vwCl [(c_limbs, .long)] t ∧ va_D (va_A (wd_X0_topPlace a_this a_limbs c_limbs v_first v_last v_limbs) sz) (wd_X0_topPlace a_this a_limbs c_limbs v_first v_last v_limbs)) (va_A (wd_X0_topPlace a_this a_limbs c_limbs v_first v_last v_limbs) sz)) 0 0 (va_A (wd_X0_topPlace a_this a_limbs c_limbs v_first v_last v_limbs) sz) := by
  refine Met.ofW (cc := cX0_topPlace) (maxL := 4) (ret := (some .int)) (by decide) rfl ?_
  intro p e s m args below meth c s₁ B hml hv
  obtain ⟨rfl, hsz, hP, hK, hD0, hZ_TENS, hT_TENS⟩ := hv
  have hx := B.exec
  have hb := B.bytes
  have hr := B.returns
  have hws : ∀ w ∈ wsL_law, w.before _ s = true := fun w hw => atoms_spec (ws := w_X0_topPlace) B.pre w (List.mem_cons_of_mem _ hw)
  have hown : s.vm.findClass RX0 = some m.cls := findClass_of_methodNamed B.named
  have hlocks := B.notSynchronized
  subst hsz
  have hD := hD0.self (sz := s.heap.size)
  generalize hAe : va_A (wd_X0_topPlace a_this a_limbs c_limbs v_first v_last v_limbs) s.heap.size = A at hD hZ_TENS hT_TENS ⊢
  have hA : ∀ q : Nat, s.heap.size ≤ q → A q := fun q h => by rw [← hAe]; exact Or.inr h
  have hS : va_S A s.heap s.heap [] := va_S.rf
  have hl := lv_entry ([.ref a_this]) (n := 4) (Nat.le_of_ble_eq_true rfl)
  rw [lg_entry_eq]
  generalize (lg_sl ([.ref a_this]) ++ List.replicate (4 - (lg_sl ([.ref a_this])).length) Slot.unset).toArray = ls at hl ⊢
  have hl : lv_has ls 4 [(0, .ref a_this)] := hl
  unfold f_X0_topPlace at h
  refine lv_aload_n hx hb dX0_topPlace_0 rfl (lv_at hl 0 rfl) ?_
  refine lv_aload_n hx hb dX0_topPlace_1 rfl (lv_at hl 0 rfl) ?_
  refine va_get (D := (dC, dI)) (ci := 0) (v := .int v_first) (C := RX0) (T := TX0) (N := 3) hx hb hws inlX0 hown hK hP 0 rfl rfl 1 (by decide) (hws _ ww_28) (fun _ h9 => h9) rfl dX0_topPlace_2 ?_
  obtain ⟨r5, hc, h⟩ := bd h
  have hPc := hP.sub (ws' := (wd_X0_limb a_this a_limbs c_limbs v_first v_last v_limbs)) [0, 1] rfl
  have hDc := hD.sub (ws' := (wd_X0_limb a_this a_limbs c_limbs v_first v_last v_limbs)) [0, 1] (by decide) rfl
  have hKc := hK.sub (tys' := [(c_limbs, .long)]) [0] rfl
  have hFc := va_free (wc := (wd_X0_limb a_this a_limbs c_limbs v_first v_last v_limbs)) hD hS hA [0, 1] rfl
  refine va_calll (va_runV (As := [.int v_first]) (rest := []) ⟨hx, hb, hml, hown, hws⟩ (c_X0_limb l dC dI  a_this a_limbs c_limbs (Array.size s.heap) v_first v_first v_last v_limbs r5 hc) (cwV 1 hws (gV ww_203 ww_204 ww_205 ww_18 ww_206) rfl rfl rfl (by decide +kernel) ⟨Nat.le_of_ble_eq_true rfl, Nat.le_of_ble_eq_true rfl⟩) ⟨(fun a U g mk q => by obtain ⟨q0, q1, qP, qK, qD⟩ := q; exact ⟨q0, q1, qP, va_K.moved (u := U) (U := U.calling g mk a) (Vm.Alike.refl U.vm) qK, qD⟩), va_recv hKc hPc (ci := 0) (q0 := 0) rfl rfl, (fun U hU hW => ⟨rfl, by rw [hU], by rw [hU]; exact hPc, va_K.moved hW.alike hKc, hDc.weaken (fun _ _ _ _ => trivial)⟩)⟩ rfl rfl hl.1 rfl (lv_room (Nat.le_of_ble_eq_true rfl)) dX0_topPlace_5 ⟨Nat.zero_le _, Nat.zero_le _⟩) hS (fun q _ h => hFc q h) hFc (fun r9 u9 t H1 locs ht hvm hw hB hz1 hk1 hS => ?_)
  obtain ⟨hP1, hK1, hD1⟩ := hB
  rw [ht] at hP1
  subst r9
  obtain ⟨hP, hD⟩ := va_join (wr := []) (w1 := (wd_X0_limb a_this a_limbs c_limbs v_first v_last v_limbs)) hP hD [0, 1] [] rfl rfl (by decide) (by decide) hk1 hFc hP1 hD1
  generalize H1 = H at hP hS ⊢
  have hP : va_P (dC, dI) vwCl (wd_X0_topPlace a_this a_limbs c_limbs v_first v_last v_limbs) H := hP.sub [0, 1] rfl
  have hD : va_D A (wd_X0_topPlace a_this a_limbs c_limbs v_first v_last v_limbs) := hD.sub [0, 1] (by decide) rfl
  clear hP1 hK1 hD1 hPc hDc hKc hFc hk1 hz1 ht hvm
  refine lv_lstore_n (lv' := [(1, .long r5), (0, .ref a_this)]) hx hb dX0_topPlace_8 rfl hl (by decide) rfl (fun ls hl => ?_)
  refine lv_lload_n hx hb dX0_topPlace_9 rfl (lv_at hl 0 rfl) ?_
  refine lv_lconst (v := 0) hx hb dX0_topPlace_10 (by decide) ?_
  refine W.lcmp hx hb dX0_topPlace_11 ?_
  refine lv_if_ne (tgt := 17) hx hb dX0_topPlace_12 (by decide) (fun c9 => ?_) (fun c9 => ?_)
  · have h := (if_neg c9).symm.trans h
    refine lv_bipush (v := 8) hx hb dX0_topPlace_17 (by decide) ?_
    refine lv_istore_n (lv' := [(3, .int 8), (1, .long r5), (0, .ref a_this)]) hx hb dX0_topPlace_19 rfl hl (by decide) rfl (fun ls hl => ?_)
    exact w_X0_topPlace_20 l a_this a_limbs c_limbs hx hb hr hml hown hws hlocks hA hZ_TENS hT_TENS FU r5 8 v_first v_last v_limbs o_r h H locs hK hP hD hS ls (lv_sub hl [2, 1, 0] rfl)
  · have h := (if_pos c9).symm.trans h
    refine lv_iconst (v := 0) hx hb dX0_topPlace_15 (by decide) ?_
    obtain h09 := rt1 h
    subst o_r
    exact W.iret hx hb hr (fun t ht hW => ⟨⟨_, (), rfl, rfl, by rw [ht]; exact hP, va_K.moved hW.alike hK, hD⟩, hS.F ht⟩) hS.2.2 dX0_topPlace_16
