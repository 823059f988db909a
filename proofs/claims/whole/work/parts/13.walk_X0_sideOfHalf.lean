set_option maxHeartbeats 4000000 in
set_option maxRecDepth 100000 in
theorem w_X0_sideOfHalf_28 (l : Launch) {p : Program} {e : Env} {s : State} {m : MethodId} {args : Array Value} {below : List Frame} {meth : Method} {c : Code} {A : Nat → Prop} {dC : Nat → ClassId} {dI : Nat → Nat → Nat} (a_this a_limbs : Nat) (c_limbs : ClassId) (hx : p.tables.exec = Jvm.exec) (hb : c.code = cX0_sideOfHalf) (hr : meth.sig.returnType = (some .int)) (hml : c.maxLocals = 8) (hown : s.vm.findClass RX0 = some m.cls) (hws : ∀ w ∈ wsL_law, w.before args s = true) (hlocks : meth.locks = false) (hA : ∀ q : Nat, s.heap.size ≤ q → A q) : ∀ (l4 : Int32) (s0 : Int64) (v_first : Int32) (v_last : Int32) (v_limbs : Nat → Int64) (o_r : Int32), f_X0_sideOfHalf_b28 l4 s0 v_last v_limbs = some o_r → ∀ (H : Heap) (locs : List Loc), va_K (dC, dI) vwCl [(c_limbs, .long)] s → va_P (dC, dI) vwCl (wd_X0_sideOfHalf a_this a_limbs c_limbs v_first v_last v_limbs) H → va_D A (wd_X0_sideOfHalf a_this a_limbs c_limbs v_first v_last v_limbs) → va_S A s.heap H locs → ∀ (ls : Array Slot), lv_has ls 8 [(0, .ref a_this), (4, .int l4)] → W p l e (headSpec (w_X0_sideOfHalf) ({ frames := 1, cells := 0, slots := 0, locals := 23 } : Room)).room s m args below meth c H locs 0 0 (MQ below (va_Qi (fun r9 (_ : Unit) => r9 = o_r) (fun (_ : Unit) t => va_P (dC, dI) vwCl (wd_X0_sideOfHalf a_this a_limbs c_limbs v_first v_last v_limbs) t.heap ∧ va_K (dC, dI) vwCl [(c_limbs, .long)] t ∧ va_D A (wd_X0_sideOfHalf a_this a_limbs c_limbs v_first v_last v_limbs)) A) args s 0 0 A) (F0 m 28 ls [.long s0]) := by
  intro l4 s0 v_first v_last v_limbs o_r h H locs hK hP hD hS ls hl
  unfold f_X0_sideOfHalf_b28 at h
  refine lv_lstore (lv' := [(5, .long s0), (0, .ref a_this), (4, .int l4)]) hx hb dX0_sideOfHalf_28 hl (by decide) rfl (fun ls hl => ?_)
  refine lv_aload_n hx hb dX0_sideOfHalf_30 rfl (lv_at hl 1 rfl) ?_
  refine lv_iload hx hb dX0_sideOfHalf_31 (lv_at hl 2 rfl) ?_
  obtain ⟨r33, hc, h⟩ := bd h
  have hPc := hP.sub (ws' := (wd_X0_limb a_this a_limbs c_limbs v_first v_last v_limbs)) [0, 1] rfl
  have hDc := hD.sub (ws' := (wd_X0_limb a_this a_limbs c_limbs v_first v_last v_limbs)) [0, 1] (by decide) rfl
  have hKc := hK.sub (tys' := [(c_limbs, .long)]) [0] rfl
  have hFc := va_free (wc := (wd_X0_limb a_this a_limbs c_limbs v_first v_last v_limbs)) hD hS hA [0, 1] rfl
  refine va_calll (va_runV (As := [.int l4]) (rest := []) ⟨hx, hb, hml, hown, hws⟩ (c_X0_limb l dC dI  a_this a_limbs c_limbs (Array.size H) l4 v_first v_last v_limbs r33 hc) (cwV 1 hws (gV ww_203 ww_204 ww_205 ww_18 ww_206) rfl rfl rfl (by decide +kernel) ⟨Nat.le_of_ble_eq_true rfl, Nat.le_of_ble_eq_true rfl⟩) ⟨(fun a U g mk q => by obtain ⟨q0, q1, qP, qK, qD⟩ := q; exact ⟨q0, q1, qP, va_K.moved (u := U) (U := U.calling g mk a) (Vm.Alike.refl U.vm) qK, qD⟩), va_recv hKc hPc (ci := 0) (q0 := 0) rfl rfl, (fun U hU hW => ⟨rfl, by rw [hU], by rw [hU]; exact hPc, va_K.moved hW.alike hKc, hDc.weaken (fun _ _ _ _ => trivial)⟩)⟩ rfl rfl hl.1 rfl (lv_room (Nat.le_of_ble_eq_true rfl)) dX0_sideOfHalf_33 ⟨Nat.zero_le _, Nat.zero_le _⟩) hS (fun q _ h => hFc q h) hFc (fun r9 u9 t H1 locs ht hvm hw hB hz1 hk1 hS => ?_)
  obtain ⟨hP1, hK1, hD1⟩ := hB
  rw [ht] at hP1
  subst r9
  obtain ⟨hP, hD⟩ := va_join (wr := []) (w1 := (wd_X0_limb a_this a_limbs c_limbs v_first v_last v_limbs)) hP hD [0, 1] [] rfl rfl (by decide) (by decide) hk1 hFc hP1 hD1
  generalize H1 = H at hP hS ⊢
  have hP : va_P (dC, dI) vwCl (wd_X0_sideOfHalf a_this a_limbs c_limbs v_first v_last v_limbs) H := hP.sub [0, 1] rfl
  have hD : va_D A (wd_X0_sideOfHalf a_this a_limbs c_limbs v_first v_last v_limbs) := hD.sub [0, 1] (by decide) rfl
  clear hP1 hK1 hD1 hPc hDc hKc hFc hk1 hz1 ht hvm
  refine lv_lload hx hb dX0_sideOfHalf_36 (lv_at hl 0 rfl) ?_
  obtain ⟨hz, h⟩ := gd h
  refine lv_lrem hx hb dX0_sideOfHalf_38 hz ?_
  refine lv_lload hx hb dX0_sideOfHalf_39 (lv_at hl 0 rfl) ?_
  refine lv_ldc2 (v := 2) hx hb hown (hws _ ww_198) dX0_sideOfHalf_41 ?_
  refine lv_ldiv hx hb dX0_sideOfHalf_44 (by decide) ?_
  obtain ⟨r45, hc, h⟩ := bd h
  have hPc := hP.sub (ws' := ([] : va_W)) [] rfl
  have hDc := hD.sub (ws' := ([] : va_W)) [] (by decide) rfl
  have hKc := hK.sub (tys' := []) [] rfl
  have hFc := va_free (wc := ([] : va_W)) hD hS hA [] rfl
  refine va_calli (va_runS (As := [.long (r33 - r33 / s0 * s0), .long (s0 / 2)]) (rest := []) ⟨hx, hb, hml, hown, hws⟩ (c_J13_compare_74951 l dC dI   (Array.size H) (r33 - r33 / s0 * s0) (s0 / 2)  r45 hc) (va_cwS 2 hws (gS ww_207 ww_208 ww_182 ww_209) rfl rfl rfl (by decide +kernel) ⟨Nat.le_of_ble_eq_true rfl, Nat.le_of_ble_eq_true rfl⟩) ⟨(fun a U g mk q => by obtain ⟨q0, q1, qP, qK, qD⟩ := q; exact ⟨q0, q1, qP, va_K.moved (u := U) (U := U.calling g mk a) (Vm.Alike.refl U.vm) qK, qD⟩), (fun U hU hW => ⟨rfl, by rw [hU], by rw [hU]; exact hPc, va_K.moved hW.alike hKc, hDc.weaken (fun _ _ _ _ => trivial)⟩)⟩ rfl rfl hl.1 rfl (lv_room (Nat.le_of_ble_eq_true rfl)) dX0_sideOfHalf_45 ⟨Nat.zero_le _, Nat.zero_le _⟩) hS (fun q _ h => hFc q h) hFc (fun r9 u9 t H1 locs ht hvm hw hB hz1 hk1 hS => ?_)
  obtain ⟨hP1, hK1, hD1⟩ := hB
  rw [ht] at hP1
  subst r9
  obtain ⟨hP, hD⟩ := va_join (wr := [(a_this, .inr (0, [.ref a_limbs, .int v_first, .int v_last])), (a_limbs, .inl (c_limbs, 160, .inr (.inl v_limbs)))]) (w1 := ([] : va_W)) hP hD [] [0, 1] rfl rfl (by decide) (by decide) hk1 hFc hP1 hD1
  generalize H1 = H at hP hS ⊢
  have hP : va_P (dC, dI) vwCl (wd_X0_sideOfHalf a_this a_limbs c_limbs v_first v_last v_limbs) H := hP.sub [0, 1] rfl
  have hD : va_D A (wd_X0_sideOfHalf a_this a_limbs c_limbs v_first v_last v_limbs) := hD.sub [0, 1] (by decide) rfl
  clear hP1 hK1 hD1 hPc hDc hKc hFc hk1 hz1 ht hvm
  refine lv_istore (lv' := [(7, .int r45), (5, .long s0), (0, .ref a_this), (4, .int l4)]) hx hb dX0_sideOfHalf_48 hl (by decide) rfl (fun ls hl => ?_)
  refine lv_iload hx hb dX0_sideOfHalf_50 (lv_at hl 0 rfl) ?_
  refine lv_if_ne (tgt := 68) hx hb dX0_sideOfHalf_52 (by decide) (fun c9 => ?_) (fun c9 => ?_)
  · have h := (if_neg c9).symm.trans h
    refine lv_iload hx hb dX0_sideOfHalf_68 (lv_at hl 0 rfl) ?_
    obtain h09 := rt1 h
    subst o_r
    exact W.iret hx hb hr (fun t ht hW => ⟨⟨_, (), rfl, rfl, by rw [ht]; exact hP, va_K.moved hW.alike hK, hD⟩, hS.F ht⟩) hS.2.2 dX0_sideOfHalf_70
  · have h := (if_pos c9).symm.trans h
    refine lv_aload_n hx hb dX0_sideOfHalf_55 rfl (lv_at hl 2 rfl) ?_
    refine va_get (D := (dC, dI)) (ci := 0) (v := .int v_last) (C := RX0) (T := TX0) (N := 3) hx hb hws inlX0 hown hK hP 0 rfl rfl 2 (by decide) (hws _ ww_29) (fun _ h9 => h9) rfl dX0_sideOfHalf_56 ?_
    refine lv_iload hx hb dX0_sideOfHalf_59 (lv_at hl 3 rfl) ?_
    refine lv_icmp_le (tgt := 68) hx hb dX0_sideOfHalf_61 (by decide) (fun c9 => ?_) (fun c9 => ?_)
    · have h := (if_pos c9).symm.trans h
      refine lv_iload hx hb dX0_sideOfHalf_68 (lv_at hl 0 rfl) ?_
      obtain h09 := rt1 h
      subst o_r
      exact W.iret hx hb hr (fun t ht hW => ⟨⟨_, (), rfl, rfl, by rw [ht]; exact hP, va_K.moved hW.alike hK, hD⟩, hS.F ht⟩) hS.2.2 dX0_sideOfHalf_70
    · have h := (if_neg c9).symm.trans h
      refine lv_iconst (v := 1) hx hb dX0_sideOfHalf_64 (by decide) ?_
      refine lv_goto (tgt := 70) hx hb dX0_sideOfHalf_65 (by decide) ?_
      obtain h09 := rt1 h
      subst o_r
      exact W.iret hx hb hr (fun t ht hW => ⟨⟨_, (), rfl, rfl, by rw [ht]; exact hP, va_K.moved hW.alike hK, hD⟩, hS.F ht⟩) hS.2.2 dX0_sideOfHalf_70
set_option maxHeartbeats 4000000 in
set_option maxRecDepth 100000 in
theorem w_X0_sideOfHalf_13 (l : Launch) {p : Program} {e : Env} {s : State} {m : MethodId} {args : Array Value} {below : List Frame} {meth : Method} {c : Code} {A : Nat → Prop} {dC : Nat → ClassId} {dI : Nat → Nat → Nat} (a_this a_limbs : Nat) (c_limbs : ClassId) (hx : p.tables.exec = Jvm.exec) (hb : c.code = cX0_sideOfHalf) (hr : meth.sig.returnType = (some .int)) (hml : c.maxLocals = 8) (hown : s.vm.findClass RX0 = some m.cls) (hws : ∀ w ∈ wsL_law, w.before args s = true) (hlocks : meth.locks = false) (hA : ∀ q : Nat, s.heap.size ≤ q → A q) : ∀ (l2 : Int64) (s0 : Int32) (v_first : Int32) (v_last : Int32) (v_limbs : Nat → Int64) (o_r : Int32), f_X0_sideOfHalf_b13 l2 s0 v_last v_limbs = some o_r → ∀ (H : Heap) (locs : List Loc), va_K (dC, dI) vwCl [(c_limbs, .long)] s → va_P (dC, dI) vwCl (wd_X0_sideOfHalf a_this a_limbs c_limbs v_first v_last v_limbs) H → va_D A (wd_X0_sideOfHalf a_this a_limbs c_limbs v_first v_last v_limbs) → va_S A s.heap H locs → ∀ (ls : Array Slot), lv_has ls 8 [(0, .ref a_this), (2, .long l2)] → W p l e (headSpec (w_X0_sideOfHalf) ({ frames := 1, cells := 0, slots := 0, locals := 23 } : Room)).room s m args below meth c H locs 0 0 (MQ below (va_Qi (fun r9 (_ : Unit) => r9 = o_r) (fun (_ : Unit) t => va_P (dC, dI) vwCl (wd_X0_sideOfHalf a_this a_limbs c_limbs v_first v_last v_limbs) t.heap ∧ va_K (dC, dI) vwCl [(c_limbs, .long)] t ∧ va_D A (wd_X0_sideOfHalf a_this a_limbs c_limbs v_first v_last v_limbs)) A) args s 0 0 A) (F0 m 13 ls [.int s0]) := by
  intro l2 s0 v_first v_last v_limbs o_r h H locs hK hP hD hS ls hl
  unfold f_X0_sideOfHalf_b13 at h
  refine lv_istore (lv' := [(4, .int s0), (0, .ref a_this), (2, .long l2)]) hx hb dX0_sideOfHalf_13 hl (by decide) rfl (fun ls hl => ?_)
  refine lv_lload_n hx hb dX0_sideOfHalf_15 rfl (lv_at hl 2 rfl) ?_
  refine lv_lconst (v := 1) hx hb dX0_sideOfHalf_16 (by decide) ?_
  refine W.lcmp hx hb dX0_sideOfHalf_17 ?_
  refine lv_if_ne (tgt := 27) hx hb dX0_sideOfHalf_18 (by decide) (fun c9 => ?_) (fun c9 => ?_)
  · have h := (if_neg c9).symm.trans h
    refine lv_lload_n hx hb dX0_sideOfHalf_27 rfl (lv_at hl 2 rfl) ?_
    exact w_X0_sideOfHalf_28 l a_this a_limbs c_limbs hx hb hr hml hown hws hlocks hA s0 l2 v_first v_last v_limbs o_r h H locs hK hP hD hS ls (lv_sub hl [1, 0] rfl)
  · have h := (if_pos c9).symm.trans h
    refine lv_ldc2 (v := 1000000000) hx hb hown (hws _ ww_162) dX0_sideOfHalf_21 ?_
    refine lv_goto (tgt := 28) hx hb dX0_sideOfHalf_24 (by decide) ?_
    exact w_X0_sideOfHalf_28 l a_this a_limbs c_limbs hx hb hr hml hown hws hlocks hA s0 1000000000 v_first v_last v_limbs o_r h H locs hK hP hD hS ls (lv_sub hl [1, 0] rfl)
set_option maxHeartbeats 4000000 in
set_option maxRecDepth 100000 in
theorem c_X0_sideOfHalf (l : Launch) (dC : Nat → ClassId) (dI : Nat → Nat → Nat)  (a_this a_limbs : Nat) (c_limbs : ClassId) (sz : Nat) (l1 : Int32) (l2 : Int64) (v_first : Int32) (v_last : Int32) (v_limbs : Nat → Int64) (o_r : Int32) (h : f_X0_sideOfHalf l1 l2 v_last v_limbs = some o_r) : Met l yX0_sideOfHalf w_X0_sideOfHalf ({ frames := 1, cells := 0, slots := 0, locals := 23 } : Room) (va_Pc [.ref a_this, .int l1, .long l2] (fun U => U.heap.size = sz ∧ va_P (dC, dI) vwCl (wd_X0_sideOfHalf a_this a_limbs c_limbs v_first v_last v_limbs) U.heap ∧ va_K (dC, dI) vwCl [(c_limbs, .long)] U ∧ va_D (fun _ => True) (wd_X0_sideOfHalf a_this a_limbs c_limbs v_first v_last v_limbs))) (va_Qi (fun r9 (_ : Unit) => r9 = o_r) (fun (_ : Unit) t => va_P (dC, dI) vwCl (wd_X0_sideOfHalf a_this a_limbs c_limbs v_first v_last v_limbs) t.heap ∧ va_K (dC, dI) vwCl [(c_limbs, .long)] t ∧ va_D (va_A (wd_X0_sideOfHalf a_this a_limbs c_limbs v_first v_last v_limbs) sz) (wd_X0_sideOfHalf a_this a_limbs c_limbs v_first v_last v_limbs)) (va_A (wd_X0_sideOfHalf a_this a_limbs c_limbs v_first v_last v_limbs) sz)) 0 0 (va_A (wd_X0_sideOfHalf a_this a_limbs c_limbs v_first v_last v_limbs) sz) := by
  refine Met.ofW (cc := cX0_sideOfHalf) (maxL := 8) (ret := (some .int)) (by decide) rfl ?_
  intro p e s m args below meth c s₁ B hml hv
  obtain ⟨rfl, hsz, hP, hK, hD0⟩ := hv
  have hx := B.exec
  have hb := B.bytes
  have hr := B.returns
  have hws : ∀ w ∈ wsL_law, w.before _ s = true := fun w hw => atoms_spec (ws := w_X0_sideOfHalf) B.pre w (List.mem_cons_of_mem _ hw)
  have hown : s.vm.findClass RX0 = some m.cls := findClass_of_methodNamed B.named
  have hlocks := B.notSynchronized
  subst hsz
  have hD := hD0.self (sz := s.heap.size)
  generalize hAe : va_A (wd_X0_sideOfHalf a_this a_limbs c_limbs v_first v_last v_limbs) s.heap.size = A at hD ⊢
  have hA : ∀ q : Nat, s.heap.size ≤ q → A q := fun q h => by rw [← hAe]; exact Or.inr h
  have hS : va_S A s.heap s.heap [] := va_S.rf
  have hl := lv_entry ([.ref a_this, .int l1, .long l2]) (n := 8) (Nat.le_of_ble_eq_true rfl)
  rw [lg_entry_eq]
  generalize (lg_sl ([.ref a_this, .int l1, .long l2]) ++ List.replicate (8 - (lg_sl ([.ref a_this, .int l1, .long l2])).length) Slot.unset).toArray = ls at hl ⊢
  have hl : lv_has ls 8 [(0, .ref a_this), (1, .int l1), (2, .long l2)] := hl
  unfold f_X0_sideOfHalf at h
  refine lv_lload_n hx hb dX0_sideOfHalf_0 rfl (lv_at hl 2 rfl) ?_
  refine lv_lconst (v := 1) hx hb dX0_sideOfHalf_1 (by decide) ?_
  refine W.lcmp hx hb dX0_sideOfHalf_2 ?_
  refine lv_if_ne (tgt := 12) hx hb dX0_sideOfHalf_3 (by decide) (fun c9 => ?_) (fun c9 => ?_)
  · have h := (if_neg c9).symm.trans h
    refine lv_iload_n hx hb dX0_sideOfHalf_12 rfl (lv_at hl 1 rfl) ?_
    exact w_X0_sideOfHalf_13 l a_this a_limbs c_limbs hx hb hr hml hown hws hlocks hA l2 l1 v_first v_last v_limbs o_r h s.heap [] hK hP hD hS ls (lv_sub hl [0, 2] rfl)
  · have h := (if_pos c9).symm.trans h
    refine lv_iload_n hx hb dX0_sideOfHalf_6 rfl (lv_at hl 1 rfl) ?_
    refine lv_iconst (v := 1) hx hb dX0_sideOfHalf_7 (by decide) ?_
    refine lv_iadd hx hb dX0_sideOfHalf_8 ?_
    refine lv_goto (tgt := 13) hx hb dX0_sideOfHalf_9 (by decide) ?_
    exact w_X0_sideOfHalf_13 l a_this a_limbs c_limbs hx hb hr hml hown hws hlocks hA l2 (l1 + 1) v_first v_last v_limbs o_r h s.heap [] hK hP hD hS ls (lv_sub hl [0, 2] rfl)
set_option maxHeartbeats 4000000 in
set_option maxRecDepth 100000 in
theorem c_X0_roundsUp (l : Launch) (dC : Nat → ClassId) (dI : Nat → Nat → Nat)  (a_this a_limbs : Nat) (c_limbs : ClassId) (sz : Nat) (l1 : Int32) (l2 : Int64) (v_first : Int32) (v_last : Int32) (v_limbs : Nat → Int64) (o_r : Int32) (h : f_X0_roundsUp l1 l2 v_last v_limbs = some o_r) : Met l yX0_roundsUp w_X0_roundsUp ({ frames := 2, cells := 0, slots := 0, locals := 50 } : Room) (va_Pc [.ref a_this, .int l1, .long l2] (fun U => U.heap.size = sz ∧ va_P (dC, dI) vwCl (wd_X0_roundsUp a_this a_limbs c_limbs v_first v_last v_limbs) U.heap ∧ va_K (dC, dI) vwCl [(c_limbs, .long)] U ∧ va_D (fun _ => True) (wd_X0_roundsUp a_this a_limbs c_limbs v_first v_last v_limbs))) (va_Qi (fun r9 (_ : Unit) => r9 = o_r) (fun (_ : Unit) t => va_P (dC, dI) vwCl (wd_X0_roundsUp a_this a_limbs c_limbs v_first v_last v_limbs) t.heap ∧ va_K (dC, dI) vwCl [(c_limbs, .long)] t ∧ va_D (va_A (wd_X0_roundsUp a_this a_limbs c_limbs v_first v_last v_limbs) sz) (wd_X0_roundsUp a_this a_limbs c_limbs v_first v_last v_limbs)) (va_A (wd_X0_roundsUp a_this a_limbs c_limbs v_first v_last v_limbs) sz)) 0 0 (va_A (wd_X0_roundsUp a_this a_limbs c_limbs v_first v_last v_limbs) sz) := by
  refine Met.ofW (cc := cX0_roundsUp) (maxL := 5) (ret := (some .boolean)) (by decide) rfl ?_
  intro p e s m args below meth c s₁ B hml hv
  obtain ⟨rfl, hsz, hP, hK, hD0⟩ := hv
  have hx := B.exec
  have hb := B.bytes
  have hr := B.returns
  have hws : ∀ w ∈ wsL_law, w.before _ s = true := fun w hw => atoms_spec (ws := w_X0_roundsUp) B.pre w (List.mem_cons_of_mem _ hw)
  have hown : s.vm.findClass RX0 = some m.cls := findClass_of_methodNamed B.named
  have hlocks := B.notSynchronized
  subst hsz
  have hD := hD0.self (sz := s.heap.size)
  generalize hAe : va_A (wd_X0_roundsUp a_this a_limbs c_limbs v_first v_last v_limbs) s.heap.size = A at hD ⊢
  have hA : ∀ q : Nat, s.heap.size ≤ q → A q := fun q h => by rw [← hAe]; exact Or.inr h
  have hS : va_S A s.heap s.heap [] := va_S.rf
  have hl := lv_entry ([.ref a_this, .int l1, .long l2]) (n := 5) (Nat.le_of_ble_eq_true rfl)
  rw [lg_entry_eq]
  generalize (lg_sl ([.ref a_this, .int l1, .long l2]) ++ List.replicate (5 - (lg_sl ([.ref a_this, .int l1, .long l2])).length) Slot.unset).toArray = ls at hl ⊢
  have hl : lv_has ls 5 [(0, .ref a_this), (1, .int l1), (2, .long l2)] := hl
  unfold f_X0_roundsUp at h
  refine lv_aload_n hx hb dX0_roundsUp_0 rfl (lv_at hl 0 rfl) ?_
  refine lv_iload_n hx hb dX0_roundsUp_1 rfl (lv_at hl 1 rfl) ?_
  refine lv_lload_n hx hb dX0_roundsUp_2 rfl (lv_at hl 2 rfl) ?_
  obtain ⟨r3, hc, h⟩ := bd h
  have hPc := hP.sub (ws' := (wd_X0_sideOfHalf a_this a_limbs c_limbs v_first v_last v_limbs)) [0, 1] rfl
  have hDc := hD.sub (ws' := (wd_X0_sideOfHalf a_this a_limbs c_limbs v_first v_last v_limbs)) [0, 1] (by decide) rfl
  have hKc := hK.sub (tys' := [(c_limbs, .long)]) [0] rfl
  have hFc := va_free (wc := (wd_X0_sideOfHalf a_this a_limbs c_limbs v_first v_last v_limbs)) hD hS hA [0, 1] rfl
  refine va_calli (va_runV (As := [.int l1, .long l2]) (rest := []) ⟨hx, hb, hml, hown, hws⟩ (c_X0_sideOfHalf l dC dI  a_this a_limbs c_limbs (Array.size s.heap) l1 l2 v_first v_last v_limbs r3 hc) (cwV 2 hws (gV ww_199 ww_200 ww_201 ww_18 ww_202) rfl rfl rfl (by decide +kernel) ⟨Nat.le_of_ble_eq_true rfl, Nat.le_of_ble_eq_true rfl⟩) ⟨(fun a U g mk q => by obtain ⟨q0, q1, qP, qK, qD⟩ := q; exact ⟨q0, q1, qP, va_K.moved (u := U) (U := U.calling g mk a) (Vm.Alike.refl U.vm) qK, qD⟩), va_recv hKc hPc (ci := 0) (q0 := 0) rfl rfl, (fun U hU hW => ⟨rfl, by rw [hU], by rw [hU]; exact hPc, va_K.moved hW.alike hKc, hDc.weaken (fun _ _ _ _ => trivial)⟩)⟩ rfl rfl hl.1 rfl (lv_room (Nat.le_of_ble_eq_true rfl)) dX0_roundsUp_3 ⟨Nat.zero_le _, Nat.zero_le _⟩) hS (fun q _ h => hFc q h) hFc (fun r9 u9 t H1 locs ht hvm hw hB hz1 hk1 hS => ?_)
  obtain ⟨hP1, hK1, hD1⟩ := hB
  rw [ht] at hP1
  subst r9
  obtain ⟨hP, hD⟩ := va_join (wr := []) (w1 := (wd_X0_sideOfHalf a_this a_limbs c_limbs v_first v_last v_limbs)) hP hD [0, 1] [] rfl rfl (by decide) (by decide) hk1 hFc hP1 hD1
  generalize H1 = H at hP hS ⊢
  have hP : va_P (dC, dI) vwCl (wd_X0_roundsUp a_this a_limbs c_limbs v_first v_last v_limbs) H := hP.sub [0, 1] rfl
  have hD : va_D A (wd_X0_roundsUp a_this a_limbs c_limbs v_first v_last v_limbs) := hD.sub [0, 1] (by decide) rfl
  clear hP1 hK1 hD1 hPc hDc hKc hFc hk1 hz1 ht hvm
  refine lv_istore (lv' := [(4, .int r3), (0, .ref a_this), (1, .int l1), (2, .long l2)]) hx hb dX0_roundsUp_6 hl (by decide) rfl (fun ls hl => ?_)
  refine lv_iload hx hb dX0_roundsUp_8 (lv_at hl 0 rfl) ?_
  refine lv_if_gt (tgt := 34) hx hb dX0_roundsUp_10 (by decide) (fun c9 => ?_) (fun c9 => ?_)
  · have h := (if_pos c9).symm.trans h
    refine lv_iconst (v := 1) hx hb dX0_roundsUp_34 (by decide) ?_
    refine lv_goto (tgt := 39) hx hb dX0_roundsUp_35 (by decide) ?_
    obtain h09 := rt1 h
    subst o_r
    exact W.zret hx hb hr rfl (fun t ht hW => ⟨⟨_, (), rfl, rfl, by rw [ht]; exact hP, va_K.moved hW.alike hK, hD⟩, hS.F ht⟩) hS.2.2 dX0_roundsUp_39
  · have h := (if_neg c9).symm.trans h
    refine lv_iload hx hb dX0_roundsUp_13 (lv_at hl 0 rfl) ?_
    refine lv_if_ne (tgt := 38) hx hb dX0_roundsUp_15 (by decide) (fun c9 => ?_) (fun c9 => ?_)
    · have h := (if_neg c9).symm.trans h
      refine lv_iconst (v := 0) hx hb dX0_roundsUp_38 (by decide) ?_
      obtain h09 := rt1 h
      subst o_r
      exact W.zret hx hb hr rfl (fun t ht hW => ⟨⟨_, (), rfl, rfl, by rw [ht]; exact hP, va_K.moved hW.alike hK, hD⟩, hS.F ht⟩) hS.2.2 dX0_roundsUp_39
    · have h := (if_pos c9).symm.trans h
      refine lv_aload_n hx hb dX0_roundsUp_18 rfl (lv_at hl 1 rfl) ?_
      refine lv_iload_n hx hb dX0_roundsUp_19 rfl (lv_at hl 2 rfl) ?_
      obtain ⟨r20, hc, h⟩ := bd h
      have hPc := hP.sub (ws' := (wd_X0_limb a_this a_limbs c_limbs v_first v_last v_limbs)) [0, 1] rfl
      have hDc := hD.sub (ws' := (wd_X0_limb a_this a_limbs c_limbs v_first v_last v_limbs)) [0, 1] (by decide) rfl
      have hKc := hK.sub (tys' := [(c_limbs, .long)]) [0] rfl
      have hFc := va_free (wc := (wd_X0_limb a_this a_limbs c_limbs v_first v_last v_limbs)) hD hS hA [0, 1] rfl
      refine va_calll (va_runV (As := [.int l1]) (rest := []) ⟨hx, hb, hml, hown, hws⟩ (c_X0_limb l dC dI  a_this a_limbs c_limbs (Array.size H) l1 v_first v_last v_limbs r20 hc) (cwV 1 hws (gV ww_203 ww_204 ww_205 ww_18 ww_206) rfl rfl rfl (by decide +kernel) ⟨Nat.le_of_ble_eq_true rfl, Nat.le_of_ble_eq_true rfl⟩) ⟨(fun a U g mk q => by obtain ⟨q0, q1, qP, qK, qD⟩ := q; exact ⟨q0, q1, qP, va_K.moved (u := U) (U := U.calling g mk a) (Vm.Alike.refl U.vm) qK, qD⟩), va_recv hKc hPc (ci := 0) (q0 := 0) rfl rfl, (fun U hU hW => ⟨rfl, by rw [hU], by rw [hU]; exact hPc, va_K.moved hW.alike hKc, hDc.weaken (fun _ _ _ _ => trivial)⟩)⟩ rfl rfl hl.1 rfl (lv_room (Nat.le_of_ble_eq_true rfl)) dX0_roundsUp_20 ⟨Nat.zero_le _, Nat.zero_le _⟩) hS (fun q _ h => hFc q h) hFc (fun r9 u9 t H1 locs ht hvm hw hB hz1 hk1 hS => ?_)
      obtain ⟨hP1, hK1, hD1⟩ := hB
      rw [ht] at hP1
      subst r9
      obtain ⟨hP, hD⟩ := va_join (wr := []) (w1 := (wd_X0_limb a_this a_limbs c_limbs v_first v_last v_limbs)) hP hD [0, 1] [] rfl rfl (by decide) (by decide) hk1 hFc hP1 hD1
      generalize H1 = H at hP hS ⊢
      have hP : va_P (dC, dI) vwCl (wd_X0_roundsUp a_this a_limbs c_limbs v_first v_last v_limbs) H := hP.sub [0, 1] rfl
      have hD : va_D A (wd_X0_roundsUp a_this a_limbs c_limbs v_first v_last v_limbs) := hD.sub [0, 1] (by decide) rfl
      clear hP1 hK1 hD1 hPc hDc hKc hFc hk1 hz1 ht hvm
      refine lv_lload_n hx hb dX0_roundsUp_23 rfl (lv_at hl 3 rfl) ?_
      obtain ⟨hz, h⟩ := gd h
      refine lv_ldiv hx hb dX0_roundsUp_24 hz ?_
      refine lv_ldc2 (v := 2) hx hb hown (hws _ ww_198) dX0_roundsUp_25 ?_
      refine lv_lrem hx hb dX0_roundsUp_28 (by decide) ?_
      refine lv_lconst (v := 1) hx hb dX0_roundsUp_29 (by decide) ?_
      refine W.lcmp hx hb dX0_roundsUp_30 ?_
      refine lv_if_ne (tgt := 38) hx hb dX0_roundsUp_31 (by decide) (fun c9 => ?_) (fun c9 => ?_)
      · have h := (if_neg c9).symm.trans h
        refine lv_iconst (v := 0) hx hb dX0_roundsUp_38 (by decide) ?_
        obtain h09 := rt1 h
        subst o_r
        exact W.zret hx hb hr rfl (fun t ht hW => ⟨⟨_, (), rfl, rfl, by rw [ht]; exact hP, va_K.moved hW.alike hK, hD⟩, hS.F ht⟩) hS.2.2 dX0_roundsUp_39
      · have h := (if_pos c9).symm.trans h
        refine lv_iconst (v := 1) hx hb dX0_roundsUp_34 (by decide) ?_
        refine lv_goto (tgt := 39) hx hb dX0_roundsUp_35 (by decide) ?_
        obtain h09 := rt1 h
        subst o_r
        exact W.zret hx hb hr rfl (fun t ht hW => ⟨⟨_, (), rfl, rfl, by rw [ht]; exact hP, va_K.moved hW.alike hK, hD⟩, hS.F ht⟩) hS.2.2 dX0_roundsUp_39
set_option maxHeartbeats 4000000 in
set_option maxRecDepth 100000 in
theorem w_X0_countUp_13 (l : Launch) {p : Program} {e : Env} {s : State} {m : MethodId} {args : Array Value} {below : List Frame} {meth : Method} {c : Code} {A : Nat → Prop} {dC : Nat → ClassId} {dI : Nat → Nat → Nat} (a_this a_limbs : Nat) (c_limbs : ClassId) (hx : p.tables.exec = Jvm.exec) (hb : c.code = cX0_countUp) (hr : meth.sig.returnType = none) (hml : c.maxLocals = 5) (hown : s.vm.findClass RX0 = some m.cls) (hws : ∀ w ∈ wsL_law, w.before args s = true) (hlocks : meth.locks = false) (hA : ∀ q : Nat, s.heap.size ≤ q → A q) : ∀ (n : Nat) (l4 : Int32) (v_first : Int32) (v_last : Int32) (v_limbs : Nat → Int64) (o_first : Int32) (o_limbs : Nat → Int64), f_X0_countUp_L13 n l4 v_first v_limbs = some (o_first, o_limbs) → ∀ (H : Heap) (locs : List Loc), va_K (dC, dI) vwCl [(c_limbs, .long)] s → va_P (dC, dI) vwCl (wd_X0_countUp a_this a_limbs c_limbs v_first v_last v_limbs) H → va_D A (wd_X0_countUp a_this a_limbs c_limbs v_first v_last v_limbs) → va_S A s.heap H locs → ∀ (ls : Array Slot), lv_has ls 5 [(0, .ref a_this), (4, .int l4)] → W p l e (headSpec (w_X0_countUp) ({ frames := 1, cells := 0, slots := 0, locals := 21 } : Room)).room s m args below meth c H locs 0 0 (MQ below (va_Qv (fun (_ : Unit) => True) (fun (_ : Unit) t => va_P (dC, dI) vwCl (wd_X0_countUp a_this a_limbs c_limbs o_first v_last o_limbs) t.heap ∧ va_K (dC, dI) vwCl [(c_limbs, .long)] t ∧ va_D A (wd_X0_countUp a_this a_limbs c_limbs o_first v_last o_limbs)) A) args s 0 0 A) (F0 m 13 ls []) := by
  intro n
  induction n with
  | zero =>
    intro l4 v_first v_last v_limbs o_first o_limbs h H locs hK hP hD hS ls hl
    exact absurd h (by simp [f_X0_countUp_L13])
  | succ n ih =>
    intro l4 v_first v_last v_limbs o_first o_limbs h H locs hK hP hD hS ls hl
    unfold f_X0_countUp_L13 at h
    refine lv_iload hx hb dX0_countUp_13 (lv_at hl 1 rfl) ?_
    refine lv_if_le (tgt := 79) hx hb dX0_countUp_15 (by decide) (fun c9 => ?_) (fun c9 => ?_)
    · have h := (if_pos c9).symm.trans h
      obtain ⟨h09, h19⟩ := rt2 h
      subst o_first
      subst o_limbs
      exact W.vret hx hb hr (fun t ht hW => ⟨⟨(), rfl, trivial, by rw [ht]; exact hP, va_K.moved hW.alike hK, hD⟩, hS.F ht⟩) hS.2.2 dX0_countUp_79
    · have h := (if_neg c9).symm.trans h
      refine lv_aload_n hx hb dX0_countUp_18 rfl (lv_at hl 0 rfl) ?_
      refine va_get (D := (dC, dI)) (ci := 0) (v := .ref a_limbs) (C := RX0) (T := TX0) (N := 3) hx hb hws inlX0 hown hK hP 0 rfl rfl 0 (by decide) (hws _ ww_27) (fun _ h9 => h9) rfl dX0_countUp_19 ?_
      refine lv_iload hx hb dX0_countUp_22 (lv_at hl 1 rfl) ?_
      obtain ⟨hi, h⟩ := gd h
      refine va_lald hx hb hK hP 1 0 rfl rfl hi dX0_countUp_24 ?_
      refine lv_ldc2 (v := 1000000000) hx hb hown (hws _ ww_162) dX0_countUp_25 ?_
      refine W.lcmp hx hb dX0_countUp_28 ?_
      refine lv_if_lt (tgt := 79) hx hb dX0_countUp_29 (by decide) (fun c9 => ?_) (fun c9 => ?_)
      · have h := (if_pos c9).symm.trans h
        obtain ⟨h09, h19⟩ := rt2 h
        subst o_first
        subst o_limbs
        exact W.vret hx hb hr (fun t ht hW => ⟨⟨(), rfl, trivial, by rw [ht]; exact hP, va_K.moved hW.alike hK, hD⟩, hS.F ht⟩) hS.2.2 dX0_countUp_79
      · have h := (if_neg c9).symm.trans h
        refine lv_aload_n hx hb dX0_countUp_32 rfl (lv_at hl 0 rfl) ?_
        refine va_get (D := (dC, dI)) (ci := 0) (v := .ref a_limbs) (C := RX0) (T := TX0) (N := 3) hx hb hws inlX0 hown hK hP 0 rfl rfl 0 (by decide) (hws _ ww_27) (fun _ h9 => h9) rfl dX0_countUp_33 ?_
        refine lv_iload hx hb dX0_countUp_36 (lv_at hl 1 rfl) ?_
        refine lv_dup2_11 hx hb dX0_countUp_38 rfl rfl ?_
        obtain ⟨hi, h⟩ := gd h
        refine va_lald hx hb hK hP 1 0 rfl rfl hi dX0_countUp_39 ?_
        refine lv_ldc2 (v := 1000000000) hx hb hown (hws _ ww_162) dX0_countUp_40 ?_
        refine lv_lsub hx hb dX0_countUp_43 ?_
        obtain ⟨hi, h⟩ := gd h
        refine va_last hx hb hK hP hD hS 1 0 rfl rfl hi dX0_countUp_44 (fun H locs hP hD hS => ?_)
        have hP : va_P (dC, dI) vwCl (wd_X0_countUp a_this a_limbs c_limbs v_first v_last (vp_updL v_limbs (Int32.toNatClampNeg l4) ((v_limbs (Int32.toNatClampNeg l4)) - 1000000000))) H := hP
        have hD : va_D A (wd_X0_countUp a_this a_limbs c_limbs v_first v_last (vp_updL v_limbs (Int32.toNatClampNeg l4) ((v_limbs (Int32.toNatClampNeg l4)) - 1000000000))) := hD
        refine lv_aload_n hx hb dX0_countUp_45 rfl (lv_at hl 0 rfl) ?_
        refine va_get (D := (dC, dI)) (ci := 0) (v := .ref a_limbs) (C := RX0) (T := TX0) (N := 3) hx hb hws inlX0 hown hK hP 0 rfl rfl 0 (by decide) (hws _ ww_27) (fun _ h9 => h9) rfl dX0_countUp_46 ?_
        refine lv_iload hx hb dX0_countUp_49 (lv_at hl 1 rfl) ?_
        refine lv_iconst (v := 1) hx hb dX0_countUp_51 (by decide) ?_
        refine lv_isub hx hb dX0_countUp_52 ?_
        refine lv_dup2_11 hx hb dX0_countUp_53 rfl rfl ?_
        obtain ⟨hi, h⟩ := gd h
        refine va_lald hx hb hK hP 1 0 rfl rfl hi dX0_countUp_54 ?_
        refine lv_lconst (v := 1) hx hb dX0_countUp_55 (by decide) ?_
        refine lv_ladd hx hb dX0_countUp_56 ?_
        obtain ⟨hi, h⟩ := gd h
        refine va_last hx hb hK hP hD hS 1 0 rfl rfl hi dX0_countUp_57 (fun H locs hP hD hS => ?_)
        have hP : va_P (dC, dI) vwCl (wd_X0_countUp a_this a_limbs c_limbs v_first v_last (vp_updL (vp_updL v_limbs (Int32.toNatClampNeg l4) ((v_limbs (Int32.toNatClampNeg l4)) - 1000000000)) (Int32.toNatClampNeg (l4 - 1)) (((vp_updL v_limbs (Int32.toNatClampNeg l4) ((v_limbs (Int32.toNatClampNeg l4)) - 1000000000)) (Int32.toNatClampNeg (l4 - 1))) + 1))) H := hP
        have hD : va_D A (wd_X0_countUp a_this a_limbs c_limbs v_first v_last (vp_updL (vp_updL v_limbs (Int32.toNatClampNeg l4) ((v_limbs (Int32.toNatClampNeg l4)) - 1000000000)) (Int32.toNatClampNeg (l4 - 1)) (((vp_updL v_limbs (Int32.toNatClampNeg l4) ((v_limbs (Int32.toNatClampNeg l4)) - 1000000000)) (Int32.toNatClampNeg (l4 - 1))) + 1))) := hD
        refine lv_aload_n hx hb dX0_countUp_58 rfl (lv_at hl 0 rfl) ?_
        refine lv_aload_n hx hb dX0_countUp_59 rfl (lv_at hl 0 rfl) ?_
        refine va_get (D := (dC, dI)) (ci := 0) (v := .int v_first) (C := RX0) (T := TX0) (N := 3) hx hb hws inlX0 hown hK hP 0 rfl rfl 1 (by decide) (hws _ ww_28) (fun _ h9 => h9) rfl dX0_countUp_60 ?_
        refine lv_iload hx hb dX0_countUp_63 (lv_at hl 1 rfl) ?_
        refine lv_iconst (v := 1) hx hb dX0_countUp_65 (by decide) ?_
        refine lv_isub hx hb dX0_countUp_66 ?_
        refine va_mmin hx hb (hml.trans hl.1.symm) hown (hws _ ww_125) (hws _ ww_126) (hws _ ww_127) (hws _ ww_128) (Nat.le_of_ble_eq_true rfl) (Nat.le_of_ble_eq_true rfl) (Nat.le_of_ble_eq_true rfl) (Nat.le_of_ble_eq_true rfl) dX0_countUp_67 ?_
        refine va_put (D := (dC, dI)) (ci := 0) (v := .int (if (l4 - 1) < v_first then (l4 - 1) else v_first)) (ty := .int) (C := RX0) (T := TX0) (N := 3) hx hb hws inlX0 tyX0 tyX0_ok nmX0 hown hK hP hD hS 0 rfl rfl 1 (by decide) (hws _ ww_28) (fun _ h9 => h9) rfl (by decide +kernel) rfl rfl (Nat.le_of_ble_eq_true rfl) dX0_countUp_70 (fun H locs hP hD hS => ?_)
        have hP : va_P (dC, dI) vwCl (wd_X0_countUp a_this a_limbs c_limbs (if (l4 - 1) < v_first then (l4 - 1) else v_first) v_last (vp_updL (vp_updL v_limbs (Int32.toNatClampNeg l4) ((v_limbs (Int32.toNatClampNeg l4)) - 1000000000)) (Int32.toNatClampNeg (l4 - 1)) (((vp_updL v_limbs (Int32.toNatClampNeg l4) ((v_limbs (Int32.toNatClampNeg l4)) - 1000000000)) (Int32.toNatClampNeg (l4 - 1))) + 1))) H := hP
        have hD : va_D A (wd_X0_countUp a_this a_limbs c_limbs (if (l4 - 1) < v_first then (l4 - 1) else v_first) v_last (vp_updL (vp_updL v_limbs (Int32.toNatClampNeg l4) ((v_limbs (Int32.toNatClampNeg l4)) - 1000000000)) (Int32.toNatClampNeg (l4 - 1)) (((vp_updL v_limbs (Int32.toNatClampNeg l4) ((v_limbs (Int32.toNatClampNeg l4)) - 1000000000)) (Int32.toNatClampNeg (l4 - 1))) + 1))) := hD
        refine lv_iinc (v := (l4 + (-1))) (lv' := [(4, .int (l4 + (-1))), (0, .ref a_this)]) hx hb dX0_countUp_73 hl (k := 1) rfl rfl (by decide) rfl (fun ls hl => ?_)
        refine lv_goto (tgt := 13) hx hb dX0_countUp_76 (by decide) ?_
        exact ih (l4 + (-1)) (if (l4 - 1) < v_first then (l4 - 1) else v_first) v_last (vp_updL (vp_updL v_limbs (Int32.toNatClampNeg l4) ((v_limbs (Int32.toNatClampNeg l4)) - 1000000000)) (Int32.toNatClampNeg (l4 - 1)) (((vp_updL v_limbs (Int32.toNatClampNeg l4) ((v_limbs (Int32.toNatClampNeg l4)) - 1000000000)) (Int32.toNatClampNeg (l4 - 1))) + 1)) o_first o_limbs h H locs hK hP hD hS ls (lv_sub hl [1, 0] rfl)
set_option maxHeartbeats 4000000 in
set_option maxRecDepth 100000 in
theorem c_X0_countUp (l : Launch) (dC : Nat → ClassId) (dI : Nat → Nat → Nat)  (a_this a_limbs : Nat) (c_limbs : ClassId) (sz : Nat) (l1 : Int32) (l2 : Int64) (v_first : Int32) (v_last : Int32) (v_limbs : Nat → Int64) (o_first : Int32) (o_limbs : Nat → Int64) (h : f_X0_countUp l1 l2 v_first v_limbs = some (o_first, o_limbs)) : Met l yX0_countUp w_X0_countUp ({ frames := 1, cells := 0, slots := 0, locals := 21 } : Room) (va_Pc [.ref a_this, .int l1, .long l2] (fun U => U.heap.size = sz ∧ va_P (dC, dI) vwCl (wd_X0_countUp a_this a_limbs c_limbs v_first v_last v_limbs) U.heap ∧ va_K (dC, dI) vwCl [(c_limbs, .long)] U ∧ va_D (fun _ => True) (wd_X0_countUp a_this a_limbs c_limbs v_first v_last v_limbs))) (va_Qv (fun (_ : Unit) => True) (fun (_ : Unit) t => va_P (dC, dI) vwCl (wd_X0_countUp a_this a_limbs c_limbs o_first v_last o_limbs) t.heap ∧ va_K (dC, dI) vwCl [(c_limbs, .long)] t ∧ va_D (va_A (wd_X0_countUp a_this a_limbs c_limbs v_first v_last v_limbs) sz) (wd_X0_countUp a_this a_limbs c_limbs o_first v_last o_limbs)) (va_A (wd_X0_countUp a_this a_limbs c_limbs v_first v_last v_limbs) sz)) 0 0 (va_A (wd_X0_countUp a_this a_limbs c_limbs v_first v_last v_limbs) sz) := by
  refine Met.ofW (cc := cX0_countUp) (maxL := 5) (ret := none) (by decide) rfl ?_
  intro p e s m args below meth c s₁ B hml hv
  obtain ⟨rfl, hsz, hP, hK, hD0⟩ := hv
  have hx := B.exec
  have hb := B.bytes
  have hr := B.returns
  have hws : ∀ w ∈ wsL_law, w.before _ s = true := fun w hw => atoms_spec (ws := w_X0_countUp) B.pre w (List.mem_cons_of_mem _ hw)
  have hown : s.vm.findClass RX0 = some m.cls := findClass_of_methodNamed B.named
  have hlocks := B.notSynchronized
  subst hsz
  have hD := hD0.self (sz := s.heap.size)
  generalize hAe : va_A (wd_X0_countUp a_this a_limbs c_limbs v_first v_last v_limbs) s.heap.size = A at hD ⊢
  have hA : ∀ q : Nat, s.heap.size ≤ q → A q := fun q h => by rw [← hAe]; exact Or.inr h
  have hS : va_S A s.heap s.heap [] := va_S.rf
  have hl := lv_entry ([.ref a_this, .int l1, .long l2]) (n := 5) (Nat.le_of_ble_eq_true rfl)
  rw [lg_entry_eq]
  generalize (lg_sl ([.ref a_this, .int l1, .long l2]) ++ List.replicate (5 - (lg_sl ([.ref a_this, .int l1, .long l2])).length) Slot.unset).toArray = ls at hl ⊢
  have hl : lv_has ls 5 [(0, .ref a_this), (1, .int l1), (2, .long l2)] := hl
  unfold f_X0_countUp at h
  refine lv_aload_n hx hb dX0_countUp_0 rfl (lv_at hl 0 rfl) ?_
  refine va_get (D := (dC, dI)) (ci := 0) (v := .ref a_limbs) (C := RX0) (T := TX0) (N := 3) hx hb hws inlX0 hown hK hP 0 rfl rfl 0 (by decide) (hws _ ww_27) (fun _ h9 => h9) rfl dX0_countUp_1 ?_
  refine lv_iload_n hx hb dX0_countUp_4 rfl (lv_at hl 1 rfl) ?_
  refine lv_dup2_11 hx hb dX0_countUp_5 rfl rfl ?_
  obtain ⟨hi, h⟩ := gd h
  refine va_lald hx hb hK hP 1 0 rfl rfl hi dX0_countUp_6 ?_
  refine lv_lload_n hx hb dX0_countUp_7 rfl (lv_at hl 2 rfl) ?_
  refine lv_ladd hx hb dX0_countUp_8 ?_
  obtain ⟨hi, h⟩ := gd h
  refine va_last hx hb hK hP hD hS 1 0 rfl rfl hi dX0_countUp_9 (fun H locs hP hD hS => ?_)
  have hP : va_P (dC, dI) vwCl (wd_X0_countUp a_this a_limbs c_limbs v_first v_last (vp_updL v_limbs (Int32.toNatClampNeg l1) ((v_limbs (Int32.toNatClampNeg l1)) + l2))) H := hP
  have hD : va_D A (wd_X0_countUp a_this a_limbs c_limbs v_first v_last (vp_updL v_limbs (Int32.toNatClampNeg l1) ((v_limbs (Int32.toNatClampNeg l1)) + l2))) := hD
  refine lv_iload_n hx hb dX0_countUp_10 rfl (lv_at hl 1 rfl) ?_
  refine lv_istore (lv' := [(4, .int l1), (0, .ref a_this), (1, .int l1), (2, .long l2)]) hx hb dX0_countUp_11 hl (by decide) rfl (fun ls hl => ?_)
  exact w_X0_countUp_13 l a_this a_limbs c_limbs hx hb hr hml hown hws hlocks hA FU l1 v_first v_last (vp_updL v_limbs (Int32.toNatClampNeg l1) ((v_limbs (Int32.toNatClampNeg l1)) + l2)) o_first o_limbs h H locs hK hP hD hS ls (lv_sub hl [1, 0] rfl)
