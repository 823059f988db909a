set_option maxHeartbeats 4000000 in
set_option maxRecDepth 100000 in
theorem c_X2_whole (l : Launch) (dC : Nat → ClassId) (dI : Nat → Nat → Nat)   (sz : Nat) (l0 : Int64)  (o_r : Int64) (h : f_X2_whole l0 = some o_r) : Met l yX2_whole w_X2_whole ({ frames := 0, cells := 0, slots := 0, locals := 0 } : Room) (va_Pc [.long l0] (fun U => U.heap.size = sz ∧ va_P (dC, dI) vwCl ([] : va_W) U.heap ∧ va_K (dC, dI) vwCl [] U ∧ va_D (fun _ => True) ([] : va_W))) (va_Ql (fun r9 (_ : Unit) => r9 = o_r) (fun (_ : Unit) t => va_P (dC, dI) vwCl ([] : va_W) t.heap ∧ va_K (dC, dI) vwCl [] t ∧ va_D (va_A ([] : va_W) sz) ([] : va_W)) (va_A ([] : va_W) sz)) 0 0 (va_A ([] : va_W) sz) := by
  refine Met.ofW (cc := cX2_whole) (maxL := 2) (ret := (some .long)) (by decide) rfl ?_
  intro p e s m args below meth c s₁ B hml hv
  obtain ⟨rfl, hsz, hP, hK, hD0⟩ := hv
  have hx := B.exec
  have hb := B.bytes
  have hr := B.returns
  have hws : ∀ w ∈ wsL_law, w.before _ s = true := fun w hw => atoms_spec (ws := w_X2_whole) B.pre w (List.mem_cons_of_mem _ hw)
  have hown : s.vm.findClass RX2 = some m.cls := findClass_of_methodNamed B.named
  have hlocks := B.notSynchronized
  subst hsz
  have hD := hD0.self (sz := s.heap.size)
  generalize hAe : va_A ([] : va_W) s.heap.size = A at hD ⊢
  have hA : ∀ q : Nat, s.heap.size ≤ q → A q := fun q h => by rw [← hAe]; exact Or.inr h
  have hS : va_S A s.heap s.heap [] := va_S.rf
  have hl := lv_entry ([.long l0]) (n := 2) (Nat.le_of_ble_eq_true rfl)
  rw [lg_entry_eq]
  generalize (lg_sl ([.long l0]) ++ List.replicate (2 - (lg_sl ([.long l0])).length) Slot.unset).toArray = ls at hl ⊢
  have hl : lv_has ls 2 [(0, .long l0)] := hl
  unfold f_X2_whole at h
  refine lv_lload_n hx hb dX2_whole_0 rfl (lv_at hl 0 rfl) ?_
  refine lv_bipush (v := 52) hx hb dX2_whole_1 (by decide) ?_
  refine lv_lushr hx hb dX2_whole_3 rfl ?_
  refine lv_lconst (v := 0) hx hb dX2_whole_4 (by decide) ?_
  refine W.lcmp hx hb dX2_whole_5 ?_
  refine lv_if_ne (tgt := 13) hx hb dX2_whole_6 (by decide) (fun c9 => ?_) (fun c9 => ?_)
  · have h := (if_neg c9).symm.trans h
    refine lv_lload_n hx hb dX2_whole_13 rfl (lv_at hl 0 rfl) ?_
    refine lv_ldc2 (v := 4503599627370495) hx hb hown (hws _ ww_257) dX2_whole_14 ?_
    refine lv_land hx hb dX2_whole_17 ?_
    refine lv_ldc2 (v := 4503599627370496) hx hb hown (hws _ ww_258) dX2_whole_18 ?_
    refine lv_lor hx hb dX2_whole_21 ?_
    obtain h09 := rt1 h
    subst o_r
    exact W.lret hx hb hr (fun t ht hW => ⟨⟨_, (), rfl, rfl, by rw [ht]; exact hP, va_K.moved hW.alike hK, hD⟩, hS.F ht⟩) hS.2.2 dX2_whole_22
  · have h := (if_pos c9).symm.trans h
    refine lv_lload_n hx hb dX2_whole_9 rfl (lv_at hl 0 rfl) ?_
    refine lv_goto (tgt := 22) hx hb dX2_whole_10 (by decide) ?_
    obtain h09 := rt1 h
    subst o_r
    exact W.lret hx hb hr (fun t ht hW => ⟨⟨_, (), rfl, rfl, by rw [ht]; exact hP, va_K.moved hW.alike hK, hD⟩, hS.F ht⟩) hS.2.2 dX2_whole_22
set_option maxHeartbeats 4000000 in
set_option maxRecDepth 100000 in
theorem c_X2_two (l : Launch) (dC : Nat → ClassId) (dI : Nat → Nat → Nat)   (sz : Nat) (l0 : Int64)  (o_r : Int32) (h : f_X2_two l0 = some o_r) : Met l yX2_two w_X2_two ({ frames := 0, cells := 0, slots := 0, locals := 0 } : Room) (va_Pc [.long l0] (fun U => U.heap.size = sz ∧ va_P (dC, dI) vwCl ([] : va_W) U.heap ∧ va_K (dC, dI) vwCl [] U ∧ va_D (fun _ => True) ([] : va_W))) (va_Qi (fun r9 (_ : Unit) => r9 = o_r) (fun (_ : Unit) t => va_P (dC, dI) vwCl ([] : va_W) t.heap ∧ va_K (dC, dI) vwCl [] t ∧ va_D (va_A ([] : va_W) sz) ([] : va_W)) (va_A ([] : va_W) sz)) 0 0 (va_A ([] : va_W) sz) := by
  refine Met.ofW (cc := cX2_two) (maxL := 2) (ret := (some .int)) (by decide) rfl ?_
  intro p e s m args below meth c s₁ B hml hv
  obtain ⟨rfl, hsz, hP, hK, hD0⟩ := hv
  have hx := B.exec
  have hb := B.bytes
  have hr := B.returns
  have hws : ∀ w ∈ wsL_law, w.before _ s = true := fun w hw => atoms_spec (ws := w_X2_two) B.pre w (List.mem_cons_of_mem _ hw)
  have hown : s.vm.findClass RX2 = some m.cls := findClass_of_methodNamed B.named
  have hlocks := B.notSynchronized
  subst hsz
  have hD := hD0.self (sz := s.heap.size)
  generalize hAe : va_A ([] : va_W) s.heap.size = A at hD ⊢
  have hA : ∀ q : Nat, s.heap.size ≤ q → A q := fun q h => by rw [← hAe]; exact Or.inr h
  have hS : va_S A s.heap s.heap [] := va_S.rf
  have hl := lv_entry ([.long l0]) (n := 2) (Nat.le_of_ble_eq_true rfl)
  rw [lg_entry_eq]
  generalize (lg_sl ([.long l0]) ++ List.replicate (2 - (lg_sl ([.long l0])).length) Slot.unset).toArray = ls at hl ⊢
  have hl : lv_has ls 2 [(0, .long l0)] := hl
  unfold f_X2_two at h
  refine lv_lload_n hx hb dX2_two_0 rfl (lv_at hl 0 rfl) ?_
  refine lv_bipush (v := 52) hx hb dX2_two_1 (by decide) ?_
  refine lv_lushr hx hb dX2_two_3 rfl ?_
  refine lv_lconst (v := 0) hx hb dX2_two_4 (by decide) ?_
  refine W.lcmp hx hb dX2_two_5 ?_
  refine lv_if_ne (tgt := 15) hx hb dX2_two_6 (by decide) (fun c9 => ?_) (fun c9 => ?_)
  · have h := (if_neg c9).symm.trans h
    refine lv_lload_n hx hb dX2_two_15 rfl (lv_at hl 0 rfl) ?_
    refine lv_bipush (v := 52) hx hb dX2_two_16 (by decide) ?_
    refine lv_lushr hx hb dX2_two_18 rfl ?_
    refine lv_l2i hx hb dX2_two_19 rfl ?_
    refine lv_sipush (v := 1075) hx hb dX2_two_20 (by decide) ?_
    refine lv_isub hx hb dX2_two_23 ?_
    obtain h09 := rt1 h
    subst o_r
    exact W.iret hx hb hr (fun t ht hW => ⟨⟨_, (), rfl, rfl, by rw [ht]; exact hP, va_K.moved hW.alike hK, hD⟩, hS.F ht⟩) hS.2.2 dX2_two_24
  · have h := (if_pos c9).symm.trans h
    refine lv_sipush (v := (-1074)) hx hb dX2_two_9 (by decide) ?_
    refine lv_goto (tgt := 24) hx hb dX2_two_12 (by decide) ?_
    obtain h09 := rt1 h
    subst o_r
    exact W.iret hx hb hr (fun t ht hW => ⟨⟨_, (), rfl, rfl, by rw [ht]; exact hP, va_K.moved hW.alike hK, hD⟩, hS.F ht⟩) hS.2.2 dX2_two_24
set_option maxHeartbeats 4000000 in
set_option maxRecDepth 100000 in
theorem c_X2_rowOf (l : Launch) (dC : Nat → ClassId) (dI : Nat → Nat → Nat)  (a_this a_text a_d a_n a_power a_limbs : Nat) (c_d c_n c_power c_limbs : ClassId) (sz : Nat) (l1 : Int64) (l3 : Int32) (v_thrown : Int32) (v_size : Int32) (v_used : Int32) (v_at : Int32) (v_d : Nat → Int32) (v_n : Nat → Int32) (v_power : Nat → Int32) (v_limbs : Nat → Int64) (o_used : Int32) (o_d : Nat → Int32) (o_n : Nat → Int32) (o_power : Nat → Int32) (o_limbs : Nat → Int64) (h : f_X2_rowOf l1 l3 v_used v_d v_n v_power v_limbs = some (o_used, o_d, o_n, o_power, o_limbs)) : Met l yX2_rowOf w_X2_rowOf ({ frames := 2, cells := 0, slots := 0, locals := 52 } : Room) (va_Pc [.ref a_this, .long l1, .int l3] (fun U => U.heap.size = sz ∧ va_P (dC, dI) vwCl (wd_X2_rowOf a_this a_text a_d a_n a_power a_limbs c_d c_n c_power c_limbs v_thrown v_size v_used v_at v_d v_n v_power v_limbs) U.heap ∧ va_K (dC, dI) vwCl [(c_d, .int), (c_n, .int), (c_power, .int), (c_limbs, .long)] U ∧ va_D (fun _ => True) (wd_X2_rowOf a_this a_text a_d a_n a_power a_limbs c_d c_n c_power c_limbs v_thrown v_size v_used v_at v_d v_n v_power v_limbs))) (va_Qv (fun (_ : Unit) => True) (fun (_ : Unit) t => va_P (dC, dI) vwCl (wd_X2_rowOf a_this a_text a_d a_n a_power a_limbs c_d c_n c_power c_limbs v_thrown v_size o_used v_at o_d o_n o_power o_limbs) t.heap ∧ va_K (dC, dI) vwCl [(c_d, .int), (c_n, .int), (c_power, .int), (c_limbs, .long)] t ∧ va_D (va_A (wd_X2_rowOf a_this a_text a_d a_n a_power a_limbs c_d c_n c_power c_limbs v_thrown v_size v_used v_at v_d v_n v_power v_limbs) sz) (wd_X2_rowOf a_this a_text a_d a_n a_power a_limbs c_d c_n c_power c_limbs v_thrown v_size o_used v_at o_d o_n o_power o_limbs)) (va_A (wd_X2_rowOf a_this a_text a_d a_n a_power a_limbs c_d c_n c_power c_limbs v_thrown v_size v_used v_at v_d v_n v_power v_limbs) sz)) 0 0 (va_A (wd_X2_rowOf a_this a_text a_d a_n a_power a_limbs c_d c_n c_power c_limbs v_thrown v_size v_used v_at v_d v_n v_power v_limbs) sz) := by
  refine Met.ofW (cc := cX2_rowOf) (maxL := 4) (ret := none) (by decide) rfl ?_
  intro p e s m args below meth c s₁ B hml hv
  obtain ⟨rfl, hsz, hP, hK, hD0⟩ := hv
  have hx := B.exec
  have hb := B.bytes
  have hr := B.returns
  have hws : ∀ w ∈ wsL_law, w.before _ s = true := fun w hw => atoms_spec (ws := w_X2_rowOf) B.pre w (List.mem_cons_of_mem _ hw)
  have hown : s.vm.findClass RX2 = some m.cls := findClass_of_methodNamed B.named
  have hlocks := B.notSynchronized
  subst hsz
  have hD := hD0.self (sz := s.heap.size)
  generalize hAe : va_A (wd_X2_rowOf a_this a_text a_d a_n a_power a_limbs c_d c_n c_power c_limbs v_thrown v_size v_used v_at v_d v_n v_power v_limbs) s.heap.size = A at hD ⊢
  have hA : ∀ q : Nat, s.heap.size ≤ q → A q := fun q h => by rw [← hAe]; exact Or.inr h
  have hS : va_S A s.heap s.heap [] := va_S.rf
  have hl := lv_entry ([.ref a_this, .long l1, .int l3]) (n := 4) (Nat.le_of_ble_eq_true rfl)
  rw [lg_entry_eq]
  generalize (lg_sl ([.ref a_this, .long l1, .int l3]) ++ List.replicate (4 - (lg_sl ([.ref a_this, .long l1, .int l3])).length) Slot.unset).toArray = ls at hl ⊢
  have hl : lv_has ls 4 [(0, .ref a_this), (1, .long l1), (3, .int l3)] := hl
  unfold f_X2_rowOf at h
  refine lv_aload_n hx hb dX2_rowOf_0 rfl (lv_at hl 0 rfl) ?_
  refine lv_lload_n hx hb dX2_rowOf_1 rfl (lv_at hl 1 rfl) ?_
  obtain ⟨r2, hc, h⟩ := bd h
  have hPc := hP.sub (ws' := ([] : va_W)) [] rfl
  have hDc := hD.sub (ws' := ([] : va_W)) [] (by decide) rfl
  have hKc := hK.sub (tys' := []) [] rfl
  have hFc := va_free (wc := ([] : va_W)) hD hS hA [] rfl
  refine va_calll (va_runS (As := [.long l1]) (rest := [.ref a_this]) ⟨hx, hb, hml, hown, hws⟩ (c_X2_whole l dC dI   (Array.size s.heap) l1  r2 hc) (va_cwS 1 hws (gS ww_254 ww_255 ww_5 ww_256) rfl rfl rfl (by decide +kernel) ⟨Nat.le_of_ble_eq_true rfl, Nat.le_of_ble_eq_true rfl⟩) ⟨(fun a U g mk q => by obtain ⟨q0, q1, qP, qK, qD⟩ := q; exact ⟨q0, q1, qP, va_K.moved (u := U) (U := U.calling g mk a) (Vm.Alike.refl U.vm) qK, qD⟩), (fun U hU hW => ⟨rfl, by rw [hU], by rw [hU]; exact hPc, va_K.moved hW.alike hKc, hDc.weaken (fun _ _ _ _ => trivial)⟩)⟩ rfl rfl hl.1 rfl (lv_room (Nat.le_of_ble_eq_true rfl)) dX2_rowOf_2 ⟨Nat.zero_le _, Nat.zero_le _⟩) hS (fun q _ h => hFc q h) hFc (fun r9 u9 t H1 locs ht hvm hw hB hz1 hk1 hS => ?_)
  obtain ⟨hP1, hK1, hD1⟩ := hB
  rw [ht] at hP1
  subst r9
  obtain ⟨hP, hD⟩ := va_join (wr := [(a_this, .inr (2, [.int v_thrown, .ref a_text, .int v_size, .ref a_d, .ref a_n, .ref a_power, .ref a_limbs, .int v_used, .int v_at])), (a_d, .inl (c_d, 7000, .inl v_d)), (a_n, .inl (c_n, 7000, .inl v_n)), (a_power, .inl (c_power, 7000, .inl v_power)), (a_limbs, .inl (c_limbs, 160, .inr (.inl v_limbs)))]) (w1 := ([] : va_W)) hP hD [] [0, 1, 2, 3, 4] rfl rfl (by decide) (by decide) hk1 hFc hP1 hD1
  generalize H1 = H at hP hS ⊢
  have hP : va_P (dC, dI) vwCl (wd_X2_rowOf a_this a_text a_d a_n a_power a_limbs c_d c_n c_power c_limbs v_thrown v_size v_used v_at v_d v_n v_power v_limbs) H := hP.sub [0, 1, 2, 3, 4] rfl
  have hD : va_D A (wd_X2_rowOf a_this a_text a_d a_n a_power a_limbs c_d c_n c_power c_limbs v_thrown v_size v_used v_at v_d v_n v_power v_limbs) := hD.sub [0, 1, 2, 3, 4] (by decide) rfl
  clear hP1 hK1 hD1 hPc hDc hKc hFc hk1 hz1 ht hvm
  refine lv_lload_n hx hb dX2_rowOf_5 rfl (lv_at hl 1 rfl) ?_
  obtain ⟨r6, hc, h⟩ := bd h
  have hPc := hP.sub (ws' := ([] : va_W)) [] rfl
  have hDc := hD.sub (ws' := ([] : va_W)) [] (by decide) rfl
  have hKc := hK.sub (tys' := []) [] rfl
  have hFc := va_free (wc := ([] : va_W)) hD hS hA [] rfl
  refine va_calli (va_runS (As := [.long l1]) (rest := [.long r2, .ref a_this]) ⟨hx, hb, hml, hown, hws⟩ (c_X2_two l dC dI   (Array.size H) l1  r6 hc) (va_cwS 1 hws (gS ww_259 ww_260 ww_5 ww_261) rfl rfl rfl (by decide +kernel) ⟨Nat.le_of_ble_eq_true rfl, Nat.le_of_ble_eq_true rfl⟩) ⟨(fun a U g mk q => by obtain ⟨q0, q1, qP, qK, qD⟩ := q; exact ⟨q0, q1, qP, va_K.moved (u := U) (U := U.calling g mk a) (Vm.Alike.refl U.vm) qK, qD⟩), (fun U hU hW => ⟨rfl, by rw [hU], by rw [hU]; exact hPc, va_K.moved hW.alike hKc, hDc.weaken (fun _ _ _ _ => trivial)⟩)⟩ rfl rfl hl.1 rfl (lv_room (Nat.le_of_ble_eq_true rfl)) dX2_rowOf_6 ⟨Nat.zero_le _, Nat.zero_le _⟩) hS (fun q _ h => hFc q h) hFc (fun r9 u9 t H1 locs ht hvm hw hB hz1 hk1 hS => ?_)
  obtain ⟨hP1, hK1, hD1⟩ := hB
  rw [ht] at hP1
  subst r9
  obtain ⟨hP, hD⟩ := va_join (wr := [(a_this, .inr (2, [.int v_thrown, .ref a_text, .int v_size, .ref a_d, .ref a_n, .ref a_power, .ref a_limbs, .int v_used, .int v_at])), (a_d, .inl (c_d, 7000, .inl v_d)), (a_n, .inl (c_n, 7000, .inl v_n)), (a_power, .inl (c_power, 7000, .inl v_power)), (a_limbs, .inl (c_limbs, 160, .inr (.inl v_limbs)))]) (w1 := ([] : va_W)) hP hD [] [0, 1, 2, 3, 4] rfl rfl (by decide) (by decide) hk1 hFc hP1 hD1
  generalize H1 = H at hP hS ⊢
  have hP : va_P (dC, dI) vwCl (wd_X2_rowOf a_this a_text a_d a_n a_power a_limbs c_d c_n c_power c_limbs v_thrown v_size v_used v_at v_d v_n v_power v_limbs) H := hP.sub [0, 1, 2, 3, 4] rfl
  have hD : va_D A (wd_X2_rowOf a_this a_text a_d a_n a_power a_limbs c_d c_n c_power c_limbs v_thrown v_size v_used v_at v_d v_n v_power v_limbs) := hD.sub [0, 1, 2, 3, 4] (by decide) rfl
  clear hP1 hK1 hD1 hPc hDc hKc hFc hk1 hz1 ht hvm
  refine lv_iload_n hx hb dX2_rowOf_9 rfl (lv_at hl 2 rfl) ?_
  obtain ⟨⟨v_used_10, v_d_10, v_n_10, v_power_10, v_limbs_10⟩, hc, h⟩ := bd h
  dsimp only at h
  have hPc := hP.sub (ws' := (wd_X2_row a_this a_text a_d a_n a_power a_limbs c_d c_n c_power c_limbs v_thrown v_size v_used v_at v_d v_n v_power v_limbs)) [0, 1, 2, 3, 4] rfl
  have hDc := hD.sub (ws' := (wd_X2_row a_this a_text a_d a_n a_power a_limbs c_d c_n c_power c_limbs v_thrown v_size v_used v_at v_d v_n v_power v_limbs)) [0, 1, 2, 3, 4] (by decide) rfl
  have hKc := hK.sub (tys' := [(c_d, .int), (c_n, .int), (c_power, .int), (c_limbs, .long)]) [0, 1, 2, 3] rfl
  have hFc := va_free (wc := (wd_X2_row a_this a_text a_d a_n a_power a_limbs c_d c_n c_power c_limbs v_thrown v_size v_used v_at v_d v_n v_power v_limbs)) hD hS hA [0, 1, 2, 3, 4] rfl
  refine va_callv (va_runV (As := [.long r2, .int r6, .int l3]) (rest := []) ⟨hx, hb, hml, hown, hws⟩ (c_X2_row l dC dI  a_this a_text a_d a_n a_power a_limbs c_d c_n c_power c_limbs (Array.size H) r2 r6 l3 v_thrown v_size v_used v_at v_d v_n v_power v_limbs v_used_10 v_d_10 v_n_10 v_power_10 v_limbs_10 hc) (cwV 3 hws (gV ww_262 ww_263 ww_264 ww_5 ww_265) rfl rfl rfl (by decide +kernel) ⟨Nat.le_of_ble_eq_true rfl, Nat.le_of_ble_eq_true rfl⟩) ⟨(fun a U g mk q => by obtain ⟨q0, q1, qP, qK, qD⟩ := q; exact ⟨q0, q1, qP, va_K.moved (u := U) (U := U.calling g mk a) (Vm.Alike.refl U.vm) qK, qD⟩), va_recv hKc hPc (ci := 2) (q0 := 0) rfl rfl, (fun U hU hW => ⟨rfl, by rw [hU], by rw [hU]; exact hPc, va_K.moved hW.alike hKc, hDc.weaken (fun _ _ _ _ => trivial)⟩)⟩ rfl rfl hl.1 rfl (lv_room (Nat.le_of_ble_eq_true rfl)) dX2_rowOf_10 ⟨Nat.zero_le _, Nat.zero_le _⟩) hS (fun q _ h => hFc q h) hFc (fun u9 t H1 locs ht hvm hw hB hz1 hk1 hS => ?_)
  obtain ⟨hP1, hK1, hD1⟩ := hB
  rw [ht] at hP1
  obtain ⟨hP, hD⟩ := va_join (wr := []) (w1 := (wd_X2_row a_this a_text a_d a_n a_power a_limbs c_d c_n c_power c_limbs v_thrown v_size v_used_10 v_at v_d_10 v_n_10 v_power_10 v_limbs_10)) hP hD [0, 1, 2, 3, 4] [] rfl rfl (by decide) (by decide) hk1 hFc hP1 hD1
  generalize H1 = H at hP hS ⊢
  have hP : va_P (dC, dI) vwCl (wd_X2_rowOf a_this a_text a_d a_n a_power a_limbs c_d c_n c_power c_limbs v_thrown v_size v_used_10 v_at v_d_10 v_n_10 v_power_10 v_limbs_10) H := hP.sub [0, 1, 2, 3, 4] rfl
  have hD : va_D A (wd_X2_rowOf a_this a_text a_d a_n a_power a_limbs c_d c_n c_power c_limbs v_thrown v_size v_used_10 v_at v_d_10 v_n_10 v_power_10 v_limbs_10) := hD.sub [0, 1, 2, 3, 4] (by decide) rfl
  clear hP1 hK1 hD1 hPc hDc hKc hFc hk1 hz1 ht hvm
  obtain ⟨h09, h19, h29, h39, h49⟩ := rt5 h
  subst o_used
  subst o_d
  subst o_n
  subst o_power
  subst o_limbs
  exact W.vret hx hb hr (fun t ht hW => ⟨⟨(), rfl, trivial, by rw [ht]; exact hP, va_K.moved hW.alike hK, hD⟩, hS.F ht⟩) hS.2.2 dX2_rowOf_13
set_option maxHeartbeats 4000000 in
set_option maxRecDepth 100000 in
theorem c_X2_is (l : Launch) (dC : Nat → ClassId) (dI : Nat → Nat → Nat)  (a_this a_text a_d a_n a_power a_limbs : Nat) (c_text : ClassId) (sz : Nat) (l1 : Int32) (v_thrown : Int32) (v_size : Int32) (v_used : Int32) (v_at : Int32) (v_text : Nat → Int32) (o_r : Int32) (h : f_X2_is l1 v_size v_at v_text = some o_r) : Met l yX2_is w_X2_is ({ frames := 0, cells := 0, slots := 0, locals := 0 } : Room) (va_Pc [.ref a_this, .int l1] (fun U => U.heap.size = sz ∧ va_P (dC, dI) vwCl (wd_X2_is a_this a_text a_d a_n a_power a_limbs c_text v_thrown v_size v_used v_at v_text) U.heap ∧ va_K (dC, dI) vwCl [(c_text, .int)] U ∧ va_D (fun _ => True) (wd_X2_is a_this a_text a_d a_n a_power a_limbs c_text v_thrown v_size v_used v_at v_text))) (va_Qi (fun r9 (_ : Unit) => r9 = o_r) (fun (_ : Unit) t => va_P (dC, dI) vwCl (wd_X2_is a_this a_text a_d a_n a_power a_limbs c_text v_thrown v_size v_used v_at v_text) t.heap ∧ va_K (dC, dI) vwCl [(c_text, .int)] t ∧ va_D (va_A (wd_X2_is a_this a_text a_d a_n a_power a_limbs c_text v_thrown v_size v_used v_at v_text) sz) (wd_X2_is a_this a_text a_d a_n a_power a_limbs c_text v_thrown v_size v_used v_at v_text)) (va_A (wd_X2_is a_this a_text a_d a_n a_power a_limbs c_text v_thrown v_size v_used v_at v_text) sz)) 0 0 (va_A (wd_X2_is a_this a_text a_d a_n a_power a_limbs c_text v_thrown v_size v_used v_at v_text) sz) := by
  refine Met.ofW (cc := cX2_is) (maxL := 2) (ret := (some .boolean)) (by decide) rfl ?_
  intro p e s m args below meth c s₁ B hml hv
  obtain ⟨rfl, hsz, hP, hK, hD0⟩ := hv
  have hx := B.exec
  have hb := B.bytes
  have hr := B.returns
  have hws : ∀ w ∈ wsL_law, w.before _ s = true := fun w hw => atoms_spec (ws := w_X2_is) B.pre w (List.mem_cons_of_mem _ hw)
  have hown : s.vm.findClass RX2 = some m.cls := findClass_of_methodNamed B.named
  have hlocks := B.notSynchronized
  subst hsz
  have hD := hD0.self (sz := s.heap.size)
  generalize hAe : va_A (wd_X2_is a_this a_text a_d a_n a_power a_limbs c_text v_thrown v_size v_used v_at v_text) s.heap.size = A at hD ⊢
  have hA : ∀ q : Nat, s.heap.size ≤ q → A q := fun q h => by rw [← hAe]; exact Or.inr h
  have hS : va_S A s.heap s.heap [] := va_S.rf
  have hl := lv_entry ([.ref a_this, .int l1]) (n := 2) (Nat.le_of_ble_eq_true rfl)
  rw [lg_entry_eq]
  generalize (lg_sl ([.ref a_this, .int l1]) ++ List.replicate (2 - (lg_sl ([.ref a_this, .int l1])).length) Slot.unset).toArray = ls at hl ⊢
  have hl : lv_has ls 2 [(0, .ref a_this), (1, .int l1)] := hl
  unfold f_X2_is at h
  refine lv_aload_n hx hb dX2_is_0 rfl (lv_at hl 0 rfl) ?_
  refine va_get (D := (dC, dI)) (ci := 2) (v := .int v_at) (C := RX2) (T := TX2) (N := 9) hx hb hws inlX2 hown hK hP 0 rfl rfl 8 (by decide) (hws _ ww_221) (fun _ h9 => h9) rfl dX2_is_1 ?_
  refine lv_aload_n hx hb dX2_is_4 rfl (lv_at hl 0 rfl) ?_
  refine va_get (D := (dC, dI)) (ci := 2) (v := .int v_size) (C := RX2) (T := TX2) (N := 9) hx hb hws inlX2 hown hK hP 0 rfl rfl 2 (by decide) (hws _ ww_49) (fun _ h9 => h9) rfl dX2_is_5 ?_
  refine lv_icmp_ge (tgt := 28) hx hb dX2_is_8 (by decide) (fun c9 => ?_) (fun c9 => ?_)
  · have h := (if_pos c9).symm.trans h
    refine lv_iconst (v := 0) hx hb dX2_is_28 (by decide) ?_
    obtain h09 := rt1 h
    subst o_r
    exact W.zret hx hb hr rfl (fun t ht hW => ⟨⟨_, (), rfl, rfl, by rw [ht]; exact hP, va_K.moved hW.alike hK, hD⟩, hS.F ht⟩) hS.2.2 dX2_is_29
  · have h := (if_neg c9).symm.trans h
    refine lv_aload_n hx hb dX2_is_11 rfl (lv_at hl 0 rfl) ?_
    refine va_get (D := (dC, dI)) (ci := 2) (v := .ref a_text) (C := RX2) (T := TX2) (N := 9) hx hb hws inlX2 hown hK hP 0 rfl rfl 1 (by decide) (hws _ ww_34) (fun _ h9 => h9) rfl dX2_is_12 ?_
    refine lv_aload_n hx hb dX2_is_15 rfl (lv_at hl 0 rfl) ?_
    refine va_get (D := (dC, dI)) (ci := 2) (v := .int v_at) (C := RX2) (T := TX2) (N := 9) hx hb hws inlX2 hown hK hP 0 rfl rfl 8 (by decide) (hws _ ww_221) (fun _ h9 => h9) rfl dX2_is_16 ?_
    obtain ⟨hi, h⟩ := gd h
    refine va_iald hx hb hK hP 1 0 rfl rfl hi dX2_is_19 ?_
    refine lv_iload_n hx hb dX2_is_20 rfl (lv_at hl 1 rfl) ?_
    refine lv_icmp_ne (tgt := 28) hx hb dX2_is_21 (by decide) (fun c9 => ?_) (fun c9 => ?_)
    · have h := (if_neg c9).symm.trans h
      refine lv_iconst (v := 0) hx hb dX2_is_28 (by decide) ?_
      obtain h09 := rt1 h
      subst o_r
      exact W.zret hx hb hr rfl (fun t ht hW => ⟨⟨_, (), rfl, rfl, by rw [ht]; exact hP, va_K.moved hW.alike hK, hD⟩, hS.F ht⟩) hS.2.2 dX2_is_29
    · have h := (if_pos c9).symm.trans h
      refine lv_iconst (v := 1) hx hb dX2_is_24 (by decide) ?_
      refine lv_goto (tgt := 29) hx hb dX2_is_25 (by decide) ?_
      obtain h09 := rt1 h
      subst o_r
      exact W.zret hx hb hr rfl (fun t ht hW => ⟨⟨_, (), rfl, rfl, by rw [ht]; exact hP, va_K.moved hW.alike hK, hD⟩, hS.F ht⟩) hS.2.2 dX2_is_29
set_option maxHeartbeats 4000000 in
set_option maxRecDepth 100000 in
theorem c_X2_isDigit (l : Launch) (dC : Nat → ClassId) (dI : Nat → Nat → Nat)  (a_this a_text a_d a_n a_power a_limbs : Nat) (c_text : ClassId) (sz : Nat)  (v_thrown : Int32) (v_size : Int32) (v_used : Int32) (v_at : Int32) (v_text : Nat → Int32) (o_r : Int32) (h : f_X2_isDigit v_size v_at v_text = some o_r) : Met l yX2_isDigit w_X2_isDigit ({ frames := 0, cells := 0, slots := 0, locals := 0 } : Room) (va_Pc [.ref a_this] (fun U => U.heap.size = sz ∧ va_P (dC, dI) vwCl (wd_X2_isDigit a_this a_text a_d a_n a_power a_limbs c_text v_thrown v_size v_used v_at v_text) U.heap ∧ va_K (dC, dI) vwCl [(c_text, .int)] U ∧ va_D (fun _ => True) (wd_X2_isDigit a_this a_text a_d a_n a_power a_limbs c_text v_thrown v_size v_used v_at v_text))) (va_Qi (fun r9 (_ : Unit) => r9 = o_r) (fun (_ : Unit) t => va_P (dC, dI) vwCl (wd_X2_isDigit a_this a_text a_d a_n a_power a_limbs c_text v_thrown v_size v_used v_at v_text) t.heap ∧ va_K (dC, dI) vwCl [(c_text, .int)] t ∧ va_D (va_A (wd_X2_isDigit a_this a_text a_d a_n a_power a_limbs c_text v_thrown v_size v_used v_at v_text) sz) (wd_X2_isDigit a_this a_text a_d a_n a_power a_limbs c_text v_thrown v_size v_used v_at v_text)) (va_A (wd_X2_isDigit a_this a_text a_d a_n a_power a_limbs c_text v_thrown v_size v_used v_at v_text) sz)) 0 0 (va_A (wd_X2_isDigit a_this a_text a_d a_n a_power a_limbs c_text v_thrown v_size v_used v_at v_text) sz) := by
  refine Met.ofW (cc := cX2_isDigit) (maxL := 1) (ret := (some .boolean)) (by decide) rfl ?_
  intro p e s m args below meth c s₁ B hml hv
  obtain ⟨rfl, hsz, hP, hK, hD0⟩ := hv
  have hx := B.exec
  have hb := B.bytes
  have hr := B.returns
  have hws : ∀ w ∈ wsL_law, w.before _ s = true := fun w hw => atoms_spec (ws := w_X2_isDigit) B.pre w (List.mem_cons_of_mem _ hw)
  have hown : s.vm.findClass RX2 = some m.cls := findClass_of_methodNamed B.named
  have hlocks := B.notSynchronized
  subst hsz
  have hD := hD0.self (sz := s.heap.size)
  generalize hAe : va_A (wd_X2_isDigit a_this a_text a_d a_n a_power a_limbs c_text v_thrown v_size v_used v_at v_text) s.heap.size = A at hD ⊢
  have hA : ∀ q : Nat, s.heap.size ≤ q → A q := fun q h => by rw [← hAe]; exact Or.inr h
  have hS : va_S A s.heap s.heap [] := va_S.rf
  have hl := lv_entry ([.ref a_this]) (n := 1) (Nat.le_of_ble_eq_true rfl)
  rw [lg_entry_eq]
  generalize (lg_sl ([.ref a_this]) ++ List.replicate (1 - (lg_sl ([.ref a_this])).length) Slot.unset).toArray = ls at hl ⊢
  have hl : lv_has ls 1 [(0, .ref a_this)] := hl
  unfold f_X2_isDigit at h
  refine lv_aload_n hx hb dX2_isDigit_0 rfl (lv_at hl 0 rfl) ?_
  refine va_get (D := (dC, dI)) (ci := 2) (v := .int v_at) (C := RX2) (T := TX2) (N := 9) hx hb hws inlX2 hown hK hP 0 rfl rfl 8 (by decide) (hws _ ww_221) (fun _ h9 => h9) rfl dX2_isDigit_1 ?_
  refine lv_aload_n hx hb dX2_isDigit_4 rfl (lv_at hl 0 rfl) ?_
  refine va_get (D := (dC, dI)) (ci := 2) (v := .int v_size) (C := RX2) (T := TX2) (N := 9) hx hb hws inlX2 hown hK hP 0 rfl rfl 2 (by decide) (hws _ ww_49) (fun _ h9 => h9) rfl dX2_isDigit_5 ?_
  refine lv_icmp_ge (tgt := 43) hx hb dX2_isDigit_8 (by decide) (fun c9 => ?_) (fun c9 => ?_)
  · have h := (if_pos c9).symm.trans h
    refine lv_iconst (v := 0) hx hb dX2_isDigit_43 (by decide) ?_
    obtain h09 := rt1 h
    subst o_r
    exact W.zret hx hb hr rfl (fun t ht hW => ⟨⟨_, (), rfl, rfl, by rw [ht]; exact hP, va_K.moved hW.alike hK, hD⟩, hS.F ht⟩) hS.2.2 dX2_isDigit_44
  · have h := (if_neg c9).symm.trans h
    refine lv_aload_n hx hb dX2_isDigit_11 rfl (lv_at hl 0 rfl) ?_
    refine va_get (D := (dC, dI)) (ci := 2) (v := .ref a_text) (C := RX2) (T := TX2) (N := 9) hx hb hws inlX2 hown hK hP 0 rfl rfl 1 (by decide) (hws _ ww_34) (fun _ h9 => h9) rfl dX2_isDigit_12 ?_
    refine lv_aload_n hx hb dX2_isDigit_15 rfl (lv_at hl 0 rfl) ?_
    refine va_get (D := (dC, dI)) (ci := 2) (v := .int v_at) (C := RX2) (T := TX2) (N := 9) hx hb hws inlX2 hown hK hP 0 rfl rfl 8 (by decide) (hws _ ww_221) (fun _ h9 => h9) rfl dX2_isDigit_16 ?_
    obtain ⟨hi, h⟩ := gd h
    refine va_iald hx hb hK hP 1 0 rfl rfl hi dX2_isDigit_19 ?_
    refine lv_bipush (v := 48) hx hb dX2_isDigit_20 (by decide) ?_
    refine lv_icmp_lt (tgt := 43) hx hb dX2_isDigit_22 (by decide) (fun c9 => ?_) (fun c9 => ?_)
    · have h := (if_pos c9).symm.trans h
      refine lv_iconst (v := 0) hx hb dX2_isDigit_43 (by decide) ?_
      obtain h09 := rt1 h
      subst o_r
      exact W.zret hx hb hr rfl (fun t ht hW => ⟨⟨_, (), rfl, rfl, by rw [ht]; exact hP, va_K.moved hW.alike hK, hD⟩, hS.F ht⟩) hS.2.2 dX2_isDigit_44
    · have h := (if_neg c9).symm.trans h
      refine lv_aload_n hx hb dX2_isDigit_25 rfl (lv_at hl 0 rfl) ?_
      refine va_get (D := (dC, dI)) (ci := 2) (v := .ref a_text) (C := RX2) (T := TX2) (N := 9) hx hb hws inlX2 hown hK hP 0 rfl rfl 1 (by decide) (hws _ ww_34) (fun _ h9 => h9) rfl dX2_isDigit_26 ?_
      refine lv_aload_n hx hb dX2_isDigit_29 rfl (lv_at hl 0 rfl) ?_
      refine va_get (D := (dC, dI)) (ci := 2) (v := .int v_at) (C := RX2) (T := TX2) (N := 9) hx hb hws inlX2 hown hK hP 0 rfl rfl 8 (by decide) (hws _ ww_221) (fun _ h9 => h9) rfl dX2_isDigit_30 ?_
      obtain ⟨hi, h⟩ := gd h
      refine va_iald hx hb hK hP 1 0 rfl rfl hi dX2_isDigit_33 ?_
      refine lv_bipush (v := 57) hx hb dX2_isDigit_34 (by decide) ?_
      refine lv_icmp_gt (tgt := 43) hx hb dX2_isDigit_36 (by decide) (fun c9 => ?_) (fun c9 => ?_)
      · have h := (if_pos c9).symm.trans h
        refine lv_iconst (v := 0) hx hb dX2_isDigit_43 (by decide) ?_
        obtain h09 := rt1 h
        subst o_r
        exact W.zret hx hb hr rfl (fun t ht hW => ⟨⟨_, (), rfl, rfl, by rw [ht]; exact hP, va_K.moved hW.alike hK, hD⟩, hS.F ht⟩) hS.2.2 dX2_isDigit_44
      · have h := (if_neg c9).symm.trans h
        refine lv_iconst (v := 1) hx hb dX2_isDigit_39 (by decide) ?_
        refine lv_goto (tgt := 44) hx hb dX2_isDigit_40 (by decide) ?_
        obtain h09 := rt1 h
        subst o_r
        exact W.zret hx hb hr rfl (fun t ht hW => ⟨⟨_, (), rfl, rfl, by rw [ht]; exact hP, va_K.moved hW.alike hK, hD⟩, hS.F ht⟩) hS.2.2 dX2_isDigit_44
