set_option maxHeartbeats 4000000 in
set_option maxRecDepth 100000 in
theorem c_X2_begins (l : Launch) (dC : Nat → ClassId) (dI : Nat → Nat → Nat)  (a_this a_text a_d a_n a_power a_limbs : Nat) (c_text : ClassId) (sz : Nat) (l1 : Int64) (v_thrown : Int32) (v_size : Int32) (v_used : Int32) (v_at : Int32) (v_text : Nat → Int32) (o_r : Int32) (o_size : Int32) (o_text : Nat → Int32) (h : f_X2_begins l1 v_size v_text = some (o_r, o_size, o_text)) : Met l yX2_begins w_X2_begins ({ frames := 1, cells := 0, slots := 0, locals := 21 } : Room) (va_Pc [.ref a_this, .long l1] (fun U => U.heap.size = sz ∧ va_P (dC, dI) vwCl (wd_X2_begins a_this a_text a_d a_n a_power a_limbs c_text v_thrown v_size v_used v_at v_text) U.heap ∧ va_K (dC, dI) vwCl [(c_text, .int)] U ∧ va_D (fun _ => True) (wd_X2_begins a_this a_text a_d a_n a_power a_limbs c_text v_thrown v_size v_used v_at v_text))) (va_Qi (fun r9 (_ : Unit) => r9 = o_r) (fun (_ : Unit) t => va_P (dC, dI) vwCl (wd_X2_begins a_this a_text a_d a_n a_power a_limbs c_text v_thrown o_size v_used v_at o_text) t.heap ∧ va_K (dC, dI) vwCl [(c_text, .int)] t ∧ va_D (va_A (wd_X2_begins a_this a_text a_d a_n a_power a_limbs c_text v_thrown v_size v_used v_at v_text) sz) (wd_X2_begins a_this a_text a_d a_n a_power a_limbs c_text v_thrown o_size v_used v_at o_text)) (va_A (wd_X2_begins a_this a_text a_d a_n a_power a_limbs c_text v_thrown v_size v_used v_at v_text) sz)) 0 0 (va_A (wd_X2_begins a_this a_text a_d a_n a_power a_limbs c_text v_thrown v_size v_used v_at v_text) sz) := by
  refine Met.ofW (cc := cX2_begins) (maxL := 3) (ret := (some .boolean)) (by decide) rfl ?_
  intro p e s m args below meth c s₁ B hml hv
  obtain ⟨rfl, hsz, hP, hK, hD0⟩ := hv
  have hx := B.exec
  have hb := B.bytes
  have hr := B.returns
  have hws : ∀ w ∈ wsL_law, w.before _ s = true := fun w hw => atoms_spec (ws := w_X2_begins) B.pre w (List.mem_cons_of_mem _ hw)
  have hown : s.vm.findClass RX2 = some m.cls := findClass_of_methodNamed B.named
  have hlocks := B.notSynchronized
  subst hsz
  have hD := hD0.self (sz := s.heap.size)
  generalize hAe : va_A (wd_X2_begins a_this a_text a_d a_n a_power a_limbs c_text v_thrown v_size v_used v_at v_text) s.heap.size = A at hD ⊢
  have hA : ∀ q : Nat, s.heap.size ≤ q → A q := fun q h => by rw [← hAe]; exact Or.inr h
  have hS : va_S A s.heap s.heap [] := va_S.rf
  have hl := lv_entry ([.ref a_this, .long l1]) (n := 3) (Nat.le_of_ble_eq_true rfl)
  rw [lg_entry_eq]
  generalize (lg_sl ([.ref a_this, .long l1]) ++ List.replicate (3 - (lg_sl ([.ref a_this, .long l1])).length) Slot.unset).toArray = ls at hl ⊢
  have hl : lv_has ls 3 [(0, .ref a_this), (1, .long l1)] := hl
  unfold f_X2_begins at h
  refine lv_lload_n hx hb dX2_begins_0 rfl (lv_at hl 1 rfl) ?_
  refine lv_ldc2 (v := 9218868437227405312) hx hb hown (hws _ ww_247) dX2_begins_1 ?_
  refine lv_land hx hb dX2_begins_4 ?_
  refine lv_ldc2 (v := 9218868437227405312) hx hb hown (hws _ ww_247) dX2_begins_5 ?_
  refine W.lcmp hx hb dX2_begins_8 ?_
  refine lv_if_ne (tgt := 14) hx hb dX2_begins_9 (by decide) (fun c9 => ?_) (fun c9 => ?_)
  · have h := (if_neg c9).symm.trans h
    refine lv_aload_n hx hb dX2_begins_14 rfl (lv_at hl 0 rfl) ?_
    refine lv_iconst (v := 0) hx hb dX2_begins_15 (by decide) ?_
    refine va_put (D := (dC, dI)) (ci := 2) (v := .int 0) (ty := .int) (C := RX2) (T := TX2) (N := 9) hx hb hws inlX2 tyX2 tyX2_ok nmX2 hown hK hP hD hS 0 rfl rfl 2 (by decide) (hws _ ww_49) (fun _ h9 => h9) rfl (by decide +kernel) rfl rfl (Nat.le_of_ble_eq_true rfl) dX2_begins_16 (fun H locs hP hD hS => ?_)
    have hP : va_P (dC, dI) vwCl (wd_X2_begins a_this a_text a_d a_n a_power a_limbs c_text v_thrown 0 v_used v_at v_text) H := hP
    have hD : va_D A (wd_X2_begins a_this a_text a_d a_n a_power a_limbs c_text v_thrown 0 v_used v_at v_text) := hD
    refine lv_lload_n hx hb dX2_begins_19 rfl (lv_at hl 1 rfl) ?_
    refine lv_lconst (v := 0) hx hb dX2_begins_20 (by decide) ?_
    refine W.lcmp hx hb dX2_begins_21 ?_
    refine lv_if_ge (tgt := 31) hx hb dX2_begins_22 (by decide) (fun c9 => ?_) (fun c9 => ?_)
    · have h := (if_pos c9).symm.trans h
      refine lv_iconst (v := 1) hx hb dX2_begins_31 (by decide) ?_
      obtain ⟨h09, h19, h29⟩ := rt3 h
      subst o_r
      subst o_size
      subst o_text
      exact W.zret hx hb hr rfl (fun t ht hW => ⟨⟨_, (), rfl, rfl, by rw [ht]; exact hP, va_K.moved hW.alike hK, hD⟩, hS.F ht⟩) hS.2.2 dX2_begins_32
    · have h := (if_neg c9).symm.trans h
      refine lv_aload_n hx hb dX2_begins_25 rfl (lv_at hl 0 rfl) ?_
      refine lv_bipush (v := 45) hx hb dX2_begins_26 (by decide) ?_
      obtain ⟨⟨v_size_28, v_text_28⟩, hc, h⟩ := bd h
      dsimp only at h
      have hPc := hP.sub (ws' := (wd_X2_put a_this a_text a_d a_n a_power a_limbs c_text v_thrown 0 v_used v_at v_text)) [0, 1] rfl
      have hDc := hD.sub (ws' := (wd_X2_put a_this a_text a_d a_n a_power a_limbs c_text v_thrown 0 v_used v_at v_text)) [0, 1] (by decide) rfl
      have hKc := hK.sub (tys' := [(c_text, .int)]) [0] rfl
      have hFc := va_free (wc := (wd_X2_put a_this a_text a_d a_n a_power a_limbs c_text v_thrown 0 v_used v_at v_text)) hD hS hA [0, 1] rfl
      refine va_callv (va_runV (As := [.int 45]) (rest := []) ⟨hx, hb, hml, hown, hws⟩ (c_X2_put l dC dI  a_this a_text a_d a_n a_power a_limbs c_text (Array.size H) 45 v_thrown 0 v_used v_at v_text v_size_28 v_text_28 hc) (cwV 1 hws (gV ww_335 ww_336 ww_337 ww_5 ww_338) rfl rfl rfl (by decide +kernel) ⟨Nat.le_of_ble_eq_true rfl, Nat.le_of_ble_eq_true rfl⟩) ⟨(fun a U g mk q => by obtain ⟨q0, q1, qP, qK, qD⟩ := q; exact ⟨q0, q1, qP, va_K.moved (u := U) (U := U.calling g mk a) (Vm.Alike.refl U.vm) qK, qD⟩), va_recv hKc hPc (ci := 2) (q0 := 0) rfl rfl, (fun U hU hW => ⟨rfl, by rw [hU], by rw [hU]; exact hPc, va_K.moved hW.alike hKc, hDc.weaken (fun _ _ _ _ => trivial)⟩)⟩ rfl rfl hl.1 rfl (lv_room (Nat.le_of_ble_eq_true rfl)) dX2_begins_28 ⟨Nat.zero_le _, Nat.zero_le _⟩) hS (fun q _ h => hFc q h) hFc (fun u9 t H1 locs ht hvm hw hB hz1 hk1 hS => ?_)
      obtain ⟨hP1, hK1, hD1⟩ := hB
      rw [ht] at hP1
      obtain ⟨hP, hD⟩ := va_join (wr := []) (w1 := (wd_X2_put a_this a_text a_d a_n a_power a_limbs c_text v_thrown v_size_28 v_used v_at v_text_28)) hP hD [0, 1] [] rfl rfl (by decide) (by decide) hk1 hFc hP1 hD1
      generalize H1 = H at hP hS ⊢
      have hP : va_P (dC, dI) vwCl (wd_X2_begins a_this a_text a_d a_n a_power a_limbs c_text v_thrown v_size_28 v_used v_at v_text_28) H := hP.sub [0, 1] rfl
      have hD : va_D A (wd_X2_begins a_this a_text a_d a_n a_power a_limbs c_text v_thrown v_size_28 v_used v_at v_text_28) := hD.sub [0, 1] (by decide) rfl
      clear hP1 hK1 hD1 hPc hDc hKc hFc hk1 hz1 ht hvm
      refine lv_iconst (v := 1) hx hb dX2_begins_31 (by decide) ?_
      obtain ⟨h09, h19, h29⟩ := rt3 h
      subst o_r
      subst o_size
      subst o_text
      exact W.zret hx hb hr rfl (fun t ht hW => ⟨⟨_, (), rfl, rfl, by rw [ht]; exact hP, va_K.moved hW.alike hK, hD⟩, hS.F ht⟩) hS.2.2 dX2_begins_32
  · have h := (if_pos c9).symm.trans h
    refine lv_iconst (v := 0) hx hb dX2_begins_12 (by decide) ?_
    obtain ⟨h09, h19, h29⟩ := rt3 h
    subst o_r
    subst o_size
    subst o_text
    exact W.zret hx hb hr rfl (fun t ht hW => ⟨⟨_, (), rfl, rfl, by rw [ht]; exact hP, va_K.moved hW.alike hK, hD⟩, hS.F ht⟩) hS.2.2 dX2_begins_13
set_option maxHeartbeats 4000000 in
set_option maxRecDepth 100000 in
theorem w_X2_print_146 (l : Launch) {p : Program} {e : Env} {s : State} {m : MethodId} {args : Array Value} {below : List Frame} {meth : Method} {c : Code} {A : Nat → Prop} {dC : Nat → ClassId} {dI : Nat → Nat → Nat} (a_this a_text a_d a_n a_power a_limbs : Nat) (c_text c_d c_n c_power c_limbs : ClassId) (hx : p.tables.exec = Jvm.exec) (hb : c.code = cX2_print) (hr : meth.sig.returnType = (some .int)) (hml : c.maxLocals = 5) (hown : s.vm.findClass RX2 = some m.cls) (hws : ∀ w ∈ wsL_law, w.before args s = true) (hlocks : meth.locks = false) (hA : ∀ q : Nat, s.heap.size ≤ q → A q) : ∀ (n : Nat) (l3 : Int32) (l4 : Int32) (v_thrown : Int32) (v_size : Int32) (v_used : Int32) (v_at : Int32) (v_text : Nat → Int32) (v_d : Nat → Int32) (v_n : Nat → Int32) (v_power : Nat → Int32) (v_limbs : Nat → Int64) (o_r : Int32) (o_thrown : Int32) (o_size : Int32) (o_used : Int32) (o_text : Nat → Int32) (o_d : Nat → Int32) (o_n : Nat → Int32) (o_power : Nat → Int32) (o_limbs : Nat → Int64), f_X2_print_L146 n l3 l4 v_thrown v_size v_used v_text v_d v_n v_power v_limbs = some (o_r, o_thrown, o_size, o_used, o_text, o_d, o_n, o_power, o_limbs) → ∀ (H : Heap) (locs : List Loc), va_K (dC, dI) vwCl [(c_text, .int), (c_d, .int), (c_n, .int), (c_power, .int), (c_limbs, .long)] s → va_P (dC, dI) vwCl (wd_X2_print a_this a_text a_d a_n a_power a_limbs c_text c_d c_n c_power c_limbs v_thrown v_size v_used v_at v_text v_d v_n v_power v_limbs) H → va_D A (wd_X2_print a_this a_text a_d a_n a_power a_limbs c_text c_d c_n c_power c_limbs v_thrown v_size v_used v_at v_text v_d v_n v_power v_limbs) → va_S A s.heap H locs → ∀ (ls : Array Slot), lv_has ls 5 [(0, .ref a_this), (3, .int l3), (4, .int l4)] → W p l e (headSpec (w_X2_print) ({ frames := 3, cells := 0, slots := 0, locals := 75 } : Room)).room s m args below meth c H locs 0 0 (MQ below (va_Qi (fun r9 (_ : Unit) => r9 = o_r) (fun (_ : Unit) t => va_P (dC, dI) vwCl (wd_X2_print a_this a_text a_d a_n a_power a_limbs c_text c_d c_n c_power c_limbs o_thrown o_size o_used v_at o_text o_d o_n o_power o_limbs) t.heap ∧ va_K (dC, dI) vwCl [(c_text, .int), (c_d, .int), (c_n, .int), (c_power, .int), (c_limbs, .long)] t ∧ va_D A (wd_X2_print a_this a_text a_d a_n a_power a_limbs c_text c_d c_n c_power c_limbs o_thrown o_size o_used v_at o_text o_d o_n o_power o_limbs)) A) args s 0 0 A) (F0 m 146 ls []) := by
  intro n
  induction n with
  | zero =>
    intro l3 l4 v_thrown v_size v_used v_at v_text v_d v_n v_power v_limbs o_r o_thrown o_size o_used o_text o_d o_n o_power o_limbs h H locs hK hP hD hS ls hl
    exact absurd h (by simp [f_X2_print_L146])
  | succ n ih =>
    intro l3 l4 v_thrown v_size v_used v_at v_text v_d v_n v_power v_limbs o_r o_thrown o_size o_used o_text o_d o_n o_power o_limbs h H locs hK hP hD hS ls hl
    unfold f_X2_print_L146 at h
    refine lv_iload hx hb dX2_print_146 (lv_at hl 2 rfl) ?_
    refine lv_iload_n hx hb dX2_print_148 rfl (lv_at hl 1 rfl) ?_
    refine lv_icmp_ge (tgt := 183) hx hb dX2_print_149 (by decide) (fun c9 => ?_) (fun c9 => ?_)
    · have h := (if_pos c9).symm.trans h
      refine lv_aload_n hx hb dX2_print_183 rfl (lv_at hl 0 rfl) ?_
      refine va_get (D := (dC, dI)) (ci := 2) (v := .int v_size) (C := RX2) (T := TX2) (N := 9) hx hb hws inlX2 hown hK hP 0 rfl rfl 2 (by decide) (hws _ ww_49) (fun _ h9 => h9) rfl dX2_print_184 ?_
      obtain ⟨h09, h19, h29, h39, h49, h59, h69, h79, h89⟩ := rt9 h
      subst o_r
      subst o_thrown
      subst o_size
      subst o_used
      subst o_text
      subst o_d
      subst o_n
      subst o_power
      subst o_limbs
      exact W.iret hx hb hr (fun t ht hW => ⟨⟨_, (), rfl, rfl, by rw [ht]; exact hP, va_K.moved hW.alike hK, hD⟩, hS.F ht⟩) hS.2.2 dX2_print_187
    · have h := (if_neg c9).symm.trans h
      refine lv_aload_n hx hb dX2_print_152 rfl (lv_at hl 0 rfl) ?_
      refine lv_bipush (v := 48) hx hb dX2_print_153 (by decide) ?_
      refine lv_aload_n hx hb dX2_print_155 rfl (lv_at hl 0 rfl) ?_
      refine lv_sipush (v := 2800) hx hb dX2_print_156 (by decide) ?_
      refine lv_aload_n hx hb dX2_print_159 rfl (lv_at hl 0 rfl) ?_
      refine va_get (D := (dC, dI)) (ci := 2) (v := .ref a_power) (C := RX2) (T := TX2) (N := 9) hx hb hws inlX2 hown hK hP 0 rfl rfl 5 (by decide) (hws _ ww_37) (fun _ h9 => h9) rfl dX2_print_160 ?_
      refine lv_sipush (v := 2800) hx hb dX2_print_163 (by decide) ?_
      have hi : vp_in 2800 7000 := by unfold vp_in; decide +kernel
      refine va_iald hx hb hK hP 4 3 rfl rfl hi dX2_print_166 ?_
      refine lv_iload hx hb dX2_print_167 (lv_at hl 2 rfl) ?_
      refine lv_iadd hx hb dX2_print_169 ?_
      obtain ⟨r170, hc, h⟩ := bd h
      have hPc := hP.sub (ws' := (wd_X2_digit a_this a_text a_d a_n a_power a_limbs c_d c_n v_thrown v_size v_used v_at v_d v_n)) [0, 2, 3] rfl
      have hDc := hD.sub (ws' := (wd_X2_digit a_this a_text a_d a_n a_power a_limbs c_d c_n v_thrown v_size v_used v_at v_d v_n)) [0, 2, 3] (by decide) rfl
      have hKc := hK.sub (tys' := [(c_d, .int), (c_n, .int)]) [1, 2] rfl
      have hFc := va_free (wc := (wd_X2_digit a_this a_text a_d a_n a_power a_limbs c_d c_n v_thrown v_size v_used v_at v_d v_n)) hD hS hA [0, 2, 3] rfl
      refine va_calli (va_runV (As := [.int 2800, .int ((v_power (Int32.toNatClampNeg 2800)) + l4)]) (rest := [.int 48, .ref a_this]) ⟨hx, hb, hml, hown, hws⟩ (c_X2_digit l dC dI  a_this a_text a_d a_n a_power a_limbs c_d c_n (Array.size H) 2800 ((v_power (Int32.toNatClampNeg 2800)) + l4) v_thrown v_size v_used v_at v_d v_n r170 hc) (cwV 2 hws (gV ww_281 ww_282 ww_283 ww_5 ww_284) rfl rfl rfl (by decide +kernel) ⟨Nat.le_of_ble_eq_true rfl, Nat.le_of_ble_eq_true rfl⟩) ⟨(fun a U g mk q => by obtain ⟨q0, q1, qP, qK, qD⟩ := q; exact ⟨q0, q1, qP, va_K.moved (u := U) (U := U.calling g mk a) (Vm.Alike.refl U.vm) qK, qD⟩), va_recv hKc hPc (ci := 2) (q0 := 0) rfl rfl, (fun U hU hW => ⟨rfl, by rw [hU], by rw [hU]; exact hPc, va_K.moved hW.alike hKc, hDc.weaken (fun _ _ _ _ => trivial)⟩)⟩ rfl rfl hl.1 rfl (lv_room (Nat.le_of_ble_eq_true rfl)) dX2_print_170 ⟨Nat.zero_le _, Nat.zero_le _⟩) hS (fun q _ h => hFc q h) hFc (fun r9 u9 t H1 locs ht hvm hw hB hz1 hk1 hS => ?_)
      obtain ⟨hP1, hK1, hD1⟩ := hB
      rw [ht] at hP1
      subst r9
      obtain ⟨hP, hD⟩ := va_join (wr := [(a_text, .inl (c_text, 400, .inl v_text)), (a_power, .inl (c_power, 7000, .inl v_power)), (a_limbs, .inl (c_limbs, 160, .inr (.inl v_limbs)))]) (w1 := (wd_X2_digit a_this a_text a_d a_n a_power a_limbs c_d c_n v_thrown v_size v_used v_at v_d v_n)) hP hD [0, 2, 3] [1, 4, 5] rfl rfl (by decide) (by decide) hk1 hFc hP1 hD1
      generalize H1 = H at hP hS ⊢
      have hP : va_P (dC, dI) vwCl (wd_X2_print a_this a_text a_d a_n a_power a_limbs c_text c_d c_n c_power c_limbs v_thrown v_size v_used v_at v_text v_d v_n v_power v_limbs) H := hP.sub [3, 0, 4, 5, 1, 2] rfl
      have hD : va_D A (wd_X2_print a_this a_text a_d a_n a_power a_limbs c_text c_d c_n c_power c_limbs v_thrown v_size v_used v_at v_text v_d v_n v_power v_limbs) := hD.sub [3, 0, 4, 5, 1, 2] (by decide) rfl
      clear hP1 hK1 hD1 hPc hDc hKc hFc hk1 hz1 ht hvm
      refine lv_iadd hx hb dX2_print_173 ?_
      obtain ⟨⟨v_size_174, v_text_174⟩, hc, h⟩ := bd h
      dsimp only at h
      have hPc := hP.sub (ws' := (wd_X2_put a_this a_text a_d a_n a_power a_limbs c_text v_thrown v_size v_used v_at v_text)) [0, 1] rfl
      have hDc := hD.sub (ws' := (wd_X2_put a_this a_text a_d a_n a_power a_limbs c_text v_thrown v_size v_used v_at v_text)) [0, 1] (by decide) rfl
      have hKc := hK.sub (tys' := [(c_text, .int)]) [0] rfl
      have hFc := va_free (wc := (wd_X2_put a_this a_text a_d a_n a_power a_limbs c_text v_thrown v_size v_used v_at v_text)) hD hS hA [0, 1] rfl
      refine va_callv (va_runV (As := [.int (48 + r170)]) (rest := []) ⟨hx, hb, hml, hown, hws⟩ (c_X2_put l dC dI  a_this a_text a_d a_n a_power a_limbs c_text (Array.size H) (48 + r170) v_thrown v_size v_used v_at v_text v_size_174 v_text_174 hc) (cwV 1 hws (gV ww_335 ww_336 ww_337 ww_5 ww_338) rfl rfl rfl (by decide +kernel) ⟨Nat.le_of_ble_eq_true rfl, Nat.le_of_ble_eq_true rfl⟩) ⟨(fun a U g mk q => by obtain ⟨q0, q1, qP, qK, qD⟩ := q; exact ⟨q0, q1, qP, va_K.moved (u := U) (U := U.calling g mk a) (Vm.Alike.refl U.vm) qK, qD⟩), va_recv hKc hPc (ci := 2) (q0 := 0) rfl rfl, (fun U hU hW => ⟨rfl, by rw [hU], by rw [hU]; exact hPc, va_K.moved hW.alike hKc, hDc.weaken (fun _ _ _ _ => trivial)⟩)⟩ rfl rfl hl.1 rfl (lv_room (Nat.le_of_ble_eq_true rfl)) dX2_print_174 ⟨Nat.zero_le _, Nat.zero_le _⟩) hS (fun q _ h => hFc q h) hFc (fun u9 t H1 locs ht hvm hw hB hz1 hk1 hS => ?_)
      obtain ⟨hP1, hK1, hD1⟩ := hB
      rw [ht] at hP1
      obtain ⟨hP, hD⟩ := va_join (wr := [(a_d, .inl (c_d, 7000, .inl v_d)), (a_n, .inl (c_n, 7000, .inl v_n)), (a_power, .inl (c_power, 7000, .inl v_power)), (a_limbs, .inl (c_limbs, 160, .inr (.inl v_limbs)))]) (w1 := (wd_X2_put a_this a_text a_d a_n a_power a_limbs c_text v_thrown v_size_174 v_used v_at v_text_174)) hP hD [0, 1] [2, 3, 4, 5] rfl rfl (by decide) (by decide) hk1 hFc hP1 hD1
      generalize H1 = H at hP hS ⊢
      have hP : va_P (dC, dI) vwCl (wd_X2_print a_this a_text a_d a_n a_power a_limbs c_text c_d c_n c_power c_limbs v_thrown v_size_174 v_used v_at v_text_174 v_d v_n v_power v_limbs) H := hP.sub [4, 5, 0, 1, 2, 3] rfl
      have hD : va_D A (wd_X2_print a_this a_text a_d a_n a_power a_limbs c_text c_d c_n c_power c_limbs v_thrown v_size_174 v_used v_at v_text_174 v_d v_n v_power v_limbs) := hD.sub [4, 5, 0, 1, 2, 3] (by decide) rfl
      clear hP1 hK1 hD1 hPc hDc hKc hFc hk1 hz1 ht hvm
      refine lv_iinc (v := (l4 + 1)) (lv' := [(4, .int (l4 + 1)), (0, .ref a_this), (3, .int l3)]) hx hb dX2_print_177 hl (k := 2) rfl rfl (by decide) rfl (fun ls hl => ?_)
      refine lv_goto (tgt := 146) hx hb dX2_print_180 (by decide) ?_
      exact ih l3 (l4 + 1) v_thrown v_size_174 v_used v_at v_text_174 v_d v_n v_power v_limbs o_r o_thrown o_size o_used o_text o_d o_n o_power o_limbs h H locs hK hP hD hS ls (lv_sub hl [1, 2, 0] rfl)
set_option maxHeartbeats 4000000 in
set_option maxRecDepth 100000 in
theorem w_X2_print_133 (l : Launch) {p : Program} {e : Env} {s : State} {m : MethodId} {args : Array Value} {below : List Frame} {meth : Method} {c : Code} {A : Nat → Prop} {dC : Nat → ClassId} {dI : Nat → Nat → Nat} (a_this a_text a_d a_n a_power a_limbs : Nat) (c_text c_d c_n c_power c_limbs : ClassId) (hx : p.tables.exec = Jvm.exec) (hb : c.code = cX2_print) (hr : meth.sig.returnType = (some .int)) (hml : c.maxLocals = 5) (hown : s.vm.findClass RX2 = some m.cls) (hws : ∀ w ∈ wsL_law, w.before args s = true) (hlocks : meth.locks = false) (hA : ∀ q : Nat, s.heap.size ≤ q → A q) : ∀ (l3 : Int32) (v_thrown : Int32) (v_size : Int32) (v_used : Int32) (v_at : Int32) (v_text : Nat → Int32) (v_d : Nat → Int32) (v_n : Nat → Int32) (v_power : Nat → Int32) (v_limbs : Nat → Int64) (o_r : Int32) (o_thrown : Int32) (o_size : Int32) (o_used : Int32) (o_text : Nat → Int32) (o_d : Nat → Int32) (o_n : Nat → Int32) (o_power : Nat → Int32) (o_limbs : Nat → Int64), f_X2_print_b133 l3 v_thrown v_size v_used v_text v_d v_n v_power v_limbs = some (o_r, o_thrown, o_size, o_used, o_text, o_d, o_n, o_power, o_limbs) → ∀ (H : Heap) (locs : List Loc), va_K (dC, dI) vwCl [(c_text, .int), (c_d, .int), (c_n, .int), (c_power, .int), (c_limbs, .long)] s → va_P (dC, dI) vwCl (wd_X2_print a_this a_text a_d a_n a_power a_limbs c_text c_d c_n c_power c_limbs v_thrown v_size v_used v_at v_text v_d v_n v_power v_limbs) H → va_D A (wd_X2_print a_this a_text a_d a_n a_power a_limbs c_text c_d c_n c_power c_limbs v_thrown v_size v_used v_at v_text v_d v_n v_power v_limbs) → va_S A s.heap H locs → ∀ (ls : Array Slot), lv_has ls 5 [(0, .ref a_this), (3, .int l3)] → W p l e (headSpec (w_X2_print) ({ frames := 3, cells := 0, slots := 0, locals := 75 } : Room)).room s m args below meth c H locs 0 0 (MQ below (va_Qi (fun r9 (_ : Unit) => r9 = o_r) (fun (_ : Unit) t => va_P (dC, dI) vwCl (wd_X2_print a_this a_text a_d a_n a_power a_limbs c_text c_d c_n c_power c_limbs o_thrown o_size o_used v_at o_text o_d o_n o_power o_limbs) t.heap ∧ va_K (dC, dI) vwCl [(c_text, .int), (c_d, .int), (c_n, .int), (c_power, .int), (c_limbs, .long)] t ∧ va_D A (wd_X2_print a_this a_text a_d a_n a_power a_limbs c_text c_d c_n c_power c_limbs o_thrown o_size o_used v_at o_text o_d o_n o_power o_limbs)) A) args s 0 0 A) (F0 m 133 ls []) := by
  intro l3 v_thrown v_size v_used v_at v_text v_d v_n v_power v_limbs o_r o_thrown o_size o_used o_text o_d o_n o_power o_limbs h H locs hK hP hD hS ls hl
  unfold f_X2_print_b133 at h
  refine lv_iload_n hx hb dX2_print_133 rfl (lv_at hl 1 rfl) ?_
  refine lv_if_le (tgt := 143) hx hb dX2_print_134 (by decide) (fun c9 => ?_) (fun c9 => ?_)
  · have h := (if_pos c9).symm.trans h
    refine lv_iconst (v := 0) hx hb dX2_print_143 (by decide) ?_
    refine lv_istore (lv' := [(4, .int 0), (0, .ref a_this), (3, .int l3)]) hx hb dX2_print_144 hl (by decide) rfl (fun ls hl => ?_)
    exact w_X2_print_146 l a_this a_text a_d a_n a_power a_limbs c_text c_d c_n c_power c_limbs hx hb hr hml hown hws hlocks hA FU l3 0 v_thrown v_size v_used v_at v_text v_d v_n v_power v_limbs o_r o_thrown o_size o_used o_text o_d o_n o_power o_limbs h H locs hK hP hD hS ls (lv_sub hl [1, 2, 0] rfl)
  · have h := (if_neg c9).symm.trans h
    refine lv_aload_n hx hb dX2_print_137 rfl (lv_at hl 0 rfl) ?_
    refine lv_bipush (v := 46) hx hb dX2_print_138 (by decide) ?_
    obtain ⟨⟨v_size_140, v_text_140⟩, hc, h⟩ := bd h
    dsimp only at h
    have hPc := hP.sub (ws' := (wd_X2_put a_this a_text a_d a_n a_power a_limbs c_text v_thrown v_size v_used v_at v_text)) [0, 1] rfl
    have hDc := hD.sub (ws' := (wd_X2_put a_this a_text a_d a_n a_power a_limbs c_text v_thrown v_size v_used v_at v_text)) [0, 1] (by decide) rfl
    have hKc := hK.sub (tys' := [(c_text, .int)]) [0] rfl
    have hFc := va_free (wc := (wd_X2_put a_this a_text a_d a_n a_power a_limbs c_text v_thrown v_size v_used v_at v_text)) hD hS hA [0, 1] rfl
    refine va_callv (va_runV (As := [.int 46]) (rest := []) ⟨hx, hb, hml, hown, hws⟩ (c_X2_put l dC dI  a_this a_text a_d a_n a_power a_limbs c_text (Array.size H) 46 v_thrown v_size v_used v_at v_text v_size_140 v_text_140 hc) (cwV 1 hws (gV ww_335 ww_336 ww_337 ww_5 ww_338) rfl rfl rfl (by decide +kernel) ⟨Nat.le_of_ble_eq_true rfl, Nat.le_of_ble_eq_true rfl⟩) ⟨(fun a U g mk q => by obtain ⟨q0, q1, qP, qK, qD⟩ := q; exact ⟨q0, q1, qP, va_K.moved (u := U) (U := U.calling g mk a) (Vm.Alike.refl U.vm) qK, qD⟩), va_recv hKc hPc (ci := 2) (q0 := 0) rfl rfl, (fun U hU hW => ⟨rfl, by rw [hU], by rw [hU]; exact hPc, va_K.moved hW.alike hKc, hDc.weaken (fun _ _ _ _ => trivial)⟩)⟩ rfl rfl hl.1 rfl (lv_room (Nat.le_of_ble_eq_true rfl)) dX2_print_140 ⟨Nat.zero_le _, Nat.zero_le _⟩) hS (fun q _ h => hFc q h) hFc (fun u9 t H1 locs ht hvm hw hB hz1 hk1 hS => ?_)
    obtain ⟨hP1, hK1, hD1⟩ := hB
    rw [ht] at hP1
    obtain ⟨hP, hD⟩ := va_join (wr := [(a_d, .inl (c_d, 7000, .inl v_d)), (a_n, .inl (c_n, 7000, .inl v_n)), (a_power, .inl (c_power, 7000, .inl v_power)), (a_limbs, .inl (c_limbs, 160, .inr (.inl v_limbs)))]) (w1 := (wd_X2_put a_this a_text a_d a_n a_power a_limbs c_text v_thrown v_size_140 v_used v_at v_text_140)) hP hD [0, 1] [2, 3, 4, 5] rfl rfl (by decide) (by decide) hk1 hFc hP1 hD1
    generalize H1 = H at hP hS ⊢
    have hP : va_P (dC, dI) vwCl (wd_X2_print a_this a_text a_d a_n a_power a_limbs c_text c_d c_n c_power c_limbs v_thrown v_size_140 v_used v_at v_text_140 v_d v_n v_power v_limbs) H := hP.sub [4, 5, 0, 1, 2, 3] rfl
    have hD : va_D A (wd_X2_print a_this a_text a_d a_n a_power a_limbs c_text c_d c_n c_power c_limbs v_thrown v_size_140 v_used v_at v_text_140 v_d v_n v_power v_limbs) := hD.sub [4, 5, 0, 1, 2, 3] (by decide) rfl
    clear hP1 hK1 hD1 hPc hDc hKc hFc hk1 hz1 ht hvm
    refine lv_iconst (v := 0) hx hb dX2_print_143 (by decide) ?_
    refine lv_istore (lv' := [(4, .int 0), (0, .ref a_this), (3, .int l3)]) hx hb dX2_print_144 hl (by decide) rfl (fun ls hl => ?_)
    exact w_X2_print_146 l a_this a_text a_d a_n a_power a_limbs c_text c_d c_n c_power c_limbs hx hb hr hml hown hws hlocks hA FU l3 0 v_thrown v_size_140 v_used v_at v_text_140 v_d v_n v_power v_limbs o_r o_thrown o_size o_used o_text o_d o_n o_power o_limbs h H locs hK hP hD hS ls (lv_sub hl [1, 2, 0] rfl)
set_option maxHeartbeats 4000000 in
set_option maxRecDepth 100000 in
theorem w_X2_print_81 (l : Launch) {p : Program} {e : Env} {s : State} {m : MethodId} {args : Array Value} {below : List Frame} {meth : Method} {c : Code} {A : Nat → Prop} {dC : Nat → ClassId} {dI : Nat → Nat → Nat} (a_this a_text a_d a_n a_power a_limbs : Nat) (c_text c_d c_n c_power c_limbs : ClassId) (hx : p.tables.exec = Jvm.exec) (hb : c.code = cX2_print) (hr : meth.sig.returnType = (some .int)) (hml : c.maxLocals = 5) (hown : s.vm.findClass RX2 = some m.cls) (hws : ∀ w ∈ wsL_law, w.before args s = true) (hlocks : meth.locks = false) (hA : ∀ q : Nat, s.heap.size ≤ q → A q) : ∀ (n : Nat) (l3 : Int32) (l4 : Int32) (v_thrown : Int32) (v_size : Int32) (v_used : Int32) (v_at : Int32) (v_text : Nat → Int32) (v_d : Nat → Int32) (v_n : Nat → Int32) (v_power : Nat → Int32) (v_limbs : Nat → Int64) (o_r : Int32) (o_thrown : Int32) (o_size : Int32) (o_used : Int32) (o_text : Nat → Int32) (o_d : Nat → Int32) (o_n : Nat → Int32) (o_power : Nat → Int32) (o_limbs : Nat → Int64), f_X2_print_L81 n l3 l4 v_thrown v_size v_used v_text v_d v_n v_power v_limbs = some (o_r, o_thrown, o_size, o_used, o_text, o_d, o_n, o_power, o_limbs) → ∀ (H : Heap) (locs : List Loc), va_K (dC, dI) vwCl [(c_text, .int), (c_d, .int), (c_n, .int), (c_power, .int), (c_limbs, .long)] s → va_P (dC, dI) vwCl (wd_X2_print a_this a_text a_d a_n a_power a_limbs c_text c_d c_n c_power c_limbs v_thrown v_size v_used v_at v_text v_d v_n v_power v_limbs) H → va_D A (wd_X2_print a_this a_text a_d a_n a_power a_limbs c_text c_d c_n c_power c_limbs v_thrown v_size v_used v_at v_text v_d v_n v_power v_limbs) → va_S A s.heap H locs → ∀ (ls : Array Slot), lv_has ls 5 [(0, .ref a_this), (3, .int l3), (4, .int l4)] → W p l e (headSpec (w_X2_print) ({ frames := 3, cells := 0, slots := 0, locals := 75 } : Room)).room s m args below meth c H locs 0 0 (MQ below (va_Qi (fun r9 (_ : Unit) => r9 = o_r) (fun (_ : Unit) t => va_P (dC, dI) vwCl (wd_X2_print a_this a_text a_d a_n a_power a_limbs c_text c_d c_n c_power c_limbs o_thrown o_size o_used v_at o_text o_d o_n o_power o_limbs) t.heap ∧ va_K (dC, dI) vwCl [(c_text, .int), (c_d, .int), (c_n, .int), (c_power, .int), (c_limbs, .long)] t ∧ va_D A (wd_X2_print a_this a_text a_d a_n a_power a_limbs c_text c_d c_n c_power c_limbs o_thrown o_size o_used v_at o_text o_d o_n o_power o_limbs)) A) args s 0 0 A) (F0 m 81 ls []) := by
  intro n
  induction n with
  | zero =>
    intro l3 l4 v_thrown v_size v_used v_at v_text v_d v_n v_power v_limbs o_r o_thrown o_size o_used o_text o_d o_n o_power o_limbs h H locs hK hP hD hS ls hl
    exact absurd h (by simp [f_X2_print_L81])
  | succ n ih =>
    intro l3 l4 v_thrown v_size v_used v_at v_text v_d v_n v_power v_limbs o_r o_thrown o_size o_used o_text o_d o_n o_power o_limbs h H locs hK hP hD hS ls hl
    unfold f_X2_print_L81 at h
    refine lv_iload hx hb dX2_print_81 (lv_at hl 2 rfl) ?_
    refine lv_aload_n hx hb dX2_print_83 rfl (lv_at hl 0 rfl) ?_
    refine va_get (D := (dC, dI)) (ci := 2) (v := .ref a_power) (C := RX2) (T := TX2) (N := 9) hx hb hws inlX2 hown hK hP 0 rfl rfl 5 (by decide) (hws _ ww_37) (fun _ h9 => h9) rfl dX2_print_84 ?_
    refine lv_sipush (v := 2800) hx hb dX2_print_87 (by decide) ?_
    have hi : vp_in 2800 7000 := by unfold vp_in; decide +kernel
    refine va_iald hx hb hK hP 4 3 rfl rfl hi dX2_print_90 ?_
    refine lv_icmp_ge (tgt := 116) hx hb dX2_print_91 (by decide) (fun c9 => ?_) (fun c9 => ?_)
    · have h := (if_pos c9).symm.trans h
      refine lv_aload_n hx hb dX2_print_116 rfl (lv_at hl 0 rfl) ?_
      refine va_get (D := (dC, dI)) (ci := 2) (v := .ref a_power) (C := RX2) (T := TX2) (N := 9) hx hb hws inlX2 hown hK hP 0 rfl rfl 5 (by decide) (hws _ ww_37) (fun _ h9 => h9) rfl dX2_print_117 ?_
      refine lv_sipush (v := 2800) hx hb dX2_print_120 (by decide) ?_
      have hi : vp_in 2800 7000 := by unfold vp_in; decide +kernel
      refine va_iald hx hb hK hP 4 3 rfl rfl hi dX2_print_123 ?_
      refine lv_if_gt (tgt := 133) hx hb dX2_print_124 (by decide) (fun c9 => ?_) (fun c9 => ?_)
      · have h := (if_pos c9).symm.trans h
        exact w_X2_print_133 l a_this a_text a_d a_n a_power a_limbs c_text c_d c_n c_power c_limbs hx hb hr hml hown hws hlocks hA l3 v_thrown v_size v_used v_at v_text v_d v_n v_power v_limbs o_r o_thrown o_size o_used o_text o_d o_n o_power o_limbs h H locs hK hP hD hS ls (lv_sub hl [0, 1] rfl)
      · have h := (if_neg c9).symm.trans h
        refine lv_aload_n hx hb dX2_print_127 rfl (lv_at hl 0 rfl) ?_
        refine lv_bipush (v := 48) hx hb dX2_print_128 (by decide) ?_
        obtain ⟨⟨v_size_130, v_text_130⟩, hc, h⟩ := bd h
        dsimp only at h
        have hPc := hP.sub (ws' := (wd_X2_put a_this a_text a_d a_n a_power a_limbs c_text v_thrown v_size v_used v_at v_text)) [0, 1] rfl
        have hDc := hD.sub (ws' := (wd_X2_put a_this a_text a_d a_n a_power a_limbs c_text v_thrown v_size v_used v_at v_text)) [0, 1] (by decide) rfl
        have hKc := hK.sub (tys' := [(c_text, .int)]) [0] rfl
        have hFc := va_free (wc := (wd_X2_put a_this a_text a_d a_n a_power a_limbs c_text v_thrown v_size v_used v_at v_text)) hD hS hA [0, 1] rfl
        refine va_callv (va_runV (As := [.int 48]) (rest := []) ⟨hx, hb, hml, hown, hws⟩ (c_X2_put l dC dI  a_this a_text a_d a_n a_power a_limbs c_text (Array.size H) 48 v_thrown v_size v_used v_at v_text v_size_130 v_text_130 hc) (cwV 1 hws (gV ww_335 ww_336 ww_337 ww_5 ww_338) rfl rfl rfl (by decide +kernel) ⟨Nat.le_of_ble_eq_true rfl, Nat.le_of_ble_eq_true rfl⟩) ⟨(fun a U g mk q => by obtain ⟨q0, q1, qP, qK, qD⟩ := q; exact ⟨q0, q1, qP, va_K.moved (u := U) (U := U.calling g mk a) (Vm.Alike.refl U.vm) qK, qD⟩), va_recv hKc hPc (ci := 2) (q0 := 0) rfl rfl, (fun U hU hW => ⟨rfl, by rw [hU], by rw [hU]; exact hPc, va_K.moved hW.alike hKc, hDc.weaken (fun _ _ _ _ => trivial)⟩)⟩ rfl rfl hl.1 rfl (lv_room (Nat.le_of_ble_eq_true rfl)) dX2_print_130 ⟨Nat.zero_le _, Nat.zero_le _⟩) hS (fun q _ h => hFc q h) hFc (fun u9 t H1 locs ht hvm hw hB hz1 hk1 hS => ?_)
        obtain ⟨hP1, hK1, hD1⟩ := hB
        rw [ht] at hP1
        obtain ⟨hP, hD⟩ := va_join (wr := [(a_d, .inl (c_d, 7000, .inl v_d)), (a_n, .inl (c_n, 7000, .inl v_n)), (a_power, .inl (c_power, 7000, .inl v_power)), (a_limbs, .inl (c_limbs, 160, .inr (.inl v_limbs)))]) (w1 := (wd_X2_put a_this a_text a_d a_n a_power a_limbs c_text v_thrown v_size_130 v_used v_at v_text_130)) hP hD [0, 1] [2, 3, 4, 5] rfl rfl (by decide) (by decide) hk1 hFc hP1 hD1
        generalize H1 = H at hP hS ⊢
        have hP : va_P (dC, dI) vwCl (wd_X2_print a_this a_text a_d a_n a_power a_limbs c_text c_d c_n c_power c_limbs v_thrown v_size_130 v_used v_at v_text_130 v_d v_n v_power v_limbs) H := hP.sub [4, 5, 0, 1, 2, 3] rfl
        have hD : va_D A (wd_X2_print a_this a_text a_d a_n a_power a_limbs c_text c_d c_n c_power c_limbs v_thrown v_size_130 v_used v_at v_text_130 v_d v_n v_power v_limbs) := hD.sub [4, 5, 0, 1, 2, 3] (by decide) rfl
        clear hP1 hK1 hD1 hPc hDc hKc hFc hk1 hz1 ht hvm
        exact w_X2_print_133 l a_this a_text a_d a_n a_power a_limbs c_text c_d c_n c_power c_limbs hx hb hr hml hown hws hlocks hA l3 v_thrown v_size_130 v_used v_at v_text_130 v_d v_n v_power v_limbs o_r o_thrown o_size o_used o_text o_d o_n o_power o_limbs h H locs hK hP hD hS ls (lv_sub hl [0, 1] rfl)
    · have h := (if_neg c9).symm.trans h
      refine lv_aload_n hx hb dX2_print_94 rfl (lv_at hl 0 rfl) ?_
      refine lv_bipush (v := 48) hx hb dX2_print_95 (by decide) ?_
      refine lv_aload_n hx hb dX2_print_97 rfl (lv_at hl 0 rfl) ?_
      refine lv_sipush (v := 2800) hx hb dX2_print_98 (by decide) ?_
      refine lv_iload hx hb dX2_print_101 (lv_at hl 2 rfl) ?_
      obtain ⟨r103, hc, h⟩ := bd h
      have hPc := hP.sub (ws' := (wd_X2_digit a_this a_text a_d a_n a_power a_limbs c_d c_n v_thrown v_size v_used v_at v_d v_n)) [0, 2, 3] rfl
      have hDc := hD.sub (ws' := (wd_X2_digit a_this a_text a_d a_n a_power a_limbs c_d c_n v_thrown v_size v_used v_at v_d v_n)) [0, 2, 3] (by decide) rfl
      have hKc := hK.sub (tys' := [(c_d, .int), (c_n, .int)]) [1, 2] rfl
      have hFc := va_free (wc := (wd_X2_digit a_this a_text a_d a_n a_power a_limbs c_d c_n v_thrown v_size v_used v_at v_d v_n)) hD hS hA [0, 2, 3] rfl
      refine va_calli (va_runV (As := [.int 2800, .int l4]) (rest := [.int 48, .ref a_this]) ⟨hx, hb, hml, hown, hws⟩ (c_X2_digit l dC dI  a_this a_text a_d a_n a_power a_limbs c_d c_n (Array.size H) 2800 l4 v_thrown v_size v_used v_at v_d v_n r103 hc) (cwV 2 hws (gV ww_281 ww_282 ww_283 ww_5 ww_284) rfl rfl rfl (by decide +kernel) ⟨Nat.le_of_ble_eq_true rfl, Nat.le_of_ble_eq_true rfl⟩) ⟨(fun a U g mk q => by obtain ⟨q0, q1, qP, qK, qD⟩ := q; exact ⟨q0, q1, qP, va_K.moved (u := U) (U := U.calling g mk a) (Vm.Alike.refl U.vm) qK, qD⟩), va_recv hKc hPc (ci := 2) (q0 := 0) rfl rfl, (fun U hU hW => ⟨rfl, by rw [hU], by rw [hU]; exact hPc, va_K.moved hW.alike hKc, hDc.weaken (fun _ _ _ _ => trivial)⟩)⟩ rfl rfl hl.1 rfl (lv_room (Nat.le_of_ble_eq_true rfl)) dX2_print_103 ⟨Nat.zero_le _, Nat.zero_le _⟩) hS (fun q _ h => hFc q h) hFc (fun r9 u9 t H1 locs ht hvm hw hB hz1 hk1 hS => ?_)
      obtain ⟨hP1, hK1, hD1⟩ := hB
      rw [ht] at hP1
      subst r9
      obtain ⟨hP, hD⟩ := va_join (wr := [(a_text, .inl (c_text, 400, .inl v_text)), (a_power, .inl (c_power, 7000, .inl v_power)), (a_limbs, .inl (c_limbs, 160, .inr (.inl v_limbs)))]) (w1 := (wd_X2_digit a_this a_text a_d a_n a_power a_limbs c_d c_n v_thrown v_size v_used v_at v_d v_n)) hP hD [0, 2, 3] [1, 4, 5] rfl rfl (by decide) (by decide) hk1 hFc hP1 hD1
      generalize H1 = H at hP hS ⊢
      have hP : va_P (dC, dI) vwCl (wd_X2_print a_this a_text a_d a_n a_power a_limbs c_text c_d c_n c_power c_limbs v_thrown v_size v_used v_at v_text v_d v_n v_power v_limbs) H := hP.sub [3, 0, 4, 5, 1, 2] rfl
      have hD : va_D A (wd_X2_print a_this a_text a_d a_n a_power a_limbs c_text c_d c_n c_power c_limbs v_thrown v_size v_used v_at v_text v_d v_n v_power v_limbs) := hD.sub [3, 0, 4, 5, 1, 2] (by decide) rfl
      clear hP1 hK1 hD1 hPc hDc hKc hFc hk1 hz1 ht hvm
      refine lv_iadd hx hb dX2_print_106 ?_
      obtain ⟨⟨v_size_107, v_text_107⟩, hc, h⟩ := bd h
      dsimp only at h
      have hPc := hP.sub (ws' := (wd_X2_put a_this a_text a_d a_n a_power a_limbs c_text v_thrown v_size v_used v_at v_text)) [0, 1] rfl
      have hDc := hD.sub (ws' := (wd_X2_put a_this a_text a_d a_n a_power a_limbs c_text v_thrown v_size v_used v_at v_text)) [0, 1] (by decide) rfl
      have hKc := hK.sub (tys' := [(c_text, .int)]) [0] rfl
      have hFc := va_free (wc := (wd_X2_put a_this a_text a_d a_n a_power a_limbs c_text v_thrown v_size v_used v_at v_text)) hD hS hA [0, 1] rfl
      refine va_callv (va_runV (As := [.int (48 + r103)]) (rest := []) ⟨hx, hb, hml, hown, hws⟩ (c_X2_put l dC dI  a_this a_text a_d a_n a_power a_limbs c_text (Array.size H) (48 + r103) v_thrown v_size v_used v_at v_text v_size_107 v_text_107 hc) (cwV 1 hws (gV ww_335 ww_336 ww_337 ww_5 ww_338) rfl rfl rfl (by decide +kernel) ⟨Nat.le_of_ble_eq_true rfl, Nat.le_of_ble_eq_true rfl⟩) ⟨(fun a U g mk q => by obtain ⟨q0, q1, qP, qK, qD⟩ := q; exact ⟨q0, q1, qP, va_K.moved (u := U) (U := U.calling g mk a) (Vm.Alike.refl U.vm) qK, qD⟩), va_recv hKc hPc (ci := 2) (q0 := 0) rfl rfl, (fun U hU hW => ⟨rfl, by rw [hU], by rw [hU]; exact hPc, va_K.moved hW.alike hKc, hDc.weaken (fun _ _ _ _ => trivial)⟩)⟩ rfl rfl hl.1 rfl (lv_room (Nat.le_of_ble_eq_true rfl)) dX2_print_107 ⟨Nat.zero_le _, Nat.zero_le _⟩) hS (fun q _ h => hFc q h) hFc (fun u9 t H1 locs ht hvm hw hB hz1 hk1 hS => ?_)
      obtain ⟨hP1, hK1, hD1⟩ := hB
      rw [ht] at hP1
      obtain ⟨hP, hD⟩ := va_join (wr := [(a_d, .inl (c_d, 7000, .inl v_d)), (a_n, .inl (c_n, 7000, .inl v_n)), (a_power, .inl (c_power, 7000, .inl v_power)), (a_limbs, .inl (c_limbs, 160, .inr (.inl v_limbs)))]) (w1 := (wd_X2_put a_this a_text a_d a_n a_power a_limbs c_text v_thrown v_size_107 v_used v_at v_text_107)) hP hD [0, 1] [2, 3, 4, 5] rfl rfl (by decide) (by decide) hk1 hFc hP1 hD1
      generalize H1 = H at hP hS ⊢
      have hP : va_P (dC, dI) vwCl (wd_X2_print a_this a_text a_d a_n a_power a_limbs c_text c_d c_n c_power c_limbs v_thrown v_size_107 v_used v_at v_text_107 v_d v_n v_power v_limbs) H := hP.sub [4, 5, 0, 1, 2, 3] rfl
      have hD : va_D A (wd_X2_print a_this a_text a_d a_n a_power a_limbs c_text c_d c_n c_power c_limbs v_thrown v_size_107 v_used v_at v_text_107 v_d v_n v_power v_limbs) := hD.sub [4, 5, 0, 1, 2, 3] (by decide) rfl
      clear hP1 hK1 hD1 hPc hDc hKc hFc hk1 hz1 ht hvm
      refine lv_iinc (v := (l4 + 1)) (lv' := [(4, .int (l4 + 1)), (0, .ref a_this), (3, .int l3)]) hx hb dX2_print_110 hl (k := 2) rfl rfl (by decide) rfl (fun ls hl => ?_)
      refine lv_goto (tgt := 81) hx hb dX2_print_113 (by decide) ?_
      exact ih l3 (l4 + 1) v_thrown v_size_107 v_used v_at v_text_107 v_d v_n v_power v_limbs o_r o_thrown o_size o_used o_text o_d o_n o_power o_limbs h H locs hK hP hD hS ls (lv_sub hl [1, 2, 0] rfl)
set_option maxHeartbeats 4000000 in
set_option maxRecDepth 100000 in
theorem w_X2_print_32 (l : Launch) {p : Program} {e : Env} {s : State} {m : MethodId} {args : Array Value} {below : List Frame} {meth : Method} {c : Code} {A : Nat → Prop} {dC : Nat → ClassId} {dI : Nat → Nat → Nat} (a_this a_text a_d a_n a_power a_limbs : Nat) (c_text c_d c_n c_power c_limbs : ClassId) (hx : p.tables.exec = Jvm.exec) (hb : c.code = cX2_print) (hr : meth.sig.returnType = (some .int)) (hml : c.maxLocals = 5) (hown : s.vm.findClass RX2 = some m.cls) (hws : ∀ w ∈ wsL_law, w.before args s = true) (hlocks : meth.locks = false) (hA : ∀ q : Nat, s.heap.size ≤ q → A q) : ∀ (l1 : Int64) (l3 : Int32) (s1 : Int32) (v_thrown : Int32) (v_size : Int32) (v_used : Int32) (v_at : Int32) (v_text : Nat → Int32) (v_d : Nat → Int32) (v_n : Nat → Int32) (v_power : Nat → Int32) (v_limbs : Nat → Int64) (o_r : Int32) (o_thrown : Int32) (o_size : Int32) (o_used : Int32) (o_text : Nat → Int32) (o_d : Nat → Int32) (o_n : Nat → Int32) (o_power : Nat → Int32) (o_limbs : Nat → Int64), f_X2_print_b32 l1 l3 s1 v_thrown v_size v_used v_text v_d v_n v_power v_limbs = some (o_r, o_thrown, o_size, o_used, o_text, o_d, o_n, o_power, o_limbs) → ∀ (H : Heap) (locs : List Loc), va_K (dC, dI) vwCl [(c_text, .int), (c_d, .int), (c_n, .int), (c_power, .int), (c_limbs, .long)] s → va_P (dC, dI) vwCl (wd_X2_print a_this a_text a_d a_n a_power a_limbs c_text c_d c_n c_power c_limbs v_thrown v_size v_used v_at v_text v_d v_n v_power v_limbs) H → va_D A (wd_X2_print a_this a_text a_d a_n a_power a_limbs c_text c_d c_n c_power c_limbs v_thrown v_size v_used v_at v_text v_d v_n v_power v_limbs) → va_S A s.heap H locs → ∀ (ls : Array Slot), lv_has ls 5 [(0, .ref a_this), (1, .long l1), (3, .int l3)] → W p l e (headSpec (w_X2_print) ({ frames := 3, cells := 0, slots := 0, locals := 75 } : Room)).room s m args below meth c H locs 0 0 (MQ below (va_Qi (fun r9 (_ : Unit) => r9 = o_r) (fun (_ : Unit) t => va_P (dC, dI) vwCl (wd_X2_print a_this a_text a_d a_n a_power a_limbs c_text c_d c_n c_power c_limbs o_thrown o_size o_used v_at o_text o_d o_n o_power o_limbs) t.heap ∧ va_K (dC, dI) vwCl [(c_text, .int), (c_d, .int), (c_n, .int), (c_power, .int), (c_limbs, .long)] t ∧ va_D A (wd_X2_print a_this a_text a_d a_n a_power a_limbs c_text c_d c_n c_power c_limbs o_thrown o_size o_used v_at o_text o_d o_n o_power o_limbs)) A) args s 0 0 A) (F0 m 32 ls [.int s1, .ref a_this]) := by
  intro l1 l3 s1 v_thrown v_size v_used v_at v_text v_d v_n v_power v_limbs o_r o_thrown o_size o_used o_text o_d o_n o_power o_limbs h H locs hK hP hD hS ls hl
  unfold f_X2_print_b32 at h
  refine va_put (D := (dC, dI)) (ci := 2) (v := .int s1) (ty := .int) (C := RX2) (T := TX2) (N := 9) hx hb hws inlX2 tyX2 tyX2_ok nmX2 hown hK hP hD hS 0 rfl rfl 0 (by decide) (hws _ ww_48) (fun _ h9 => h9) rfl (by decide +kernel) rfl rfl (Nat.le_of_ble_eq_true rfl) dX2_print_32 (fun H locs hP hD hS => ?_)
  have hP : va_P (dC, dI) vwCl (wd_X2_print a_this a_text a_d a_n a_power a_limbs c_text c_d c_n c_power c_limbs s1 v_size v_used v_at v_text v_d v_n v_power v_limbs) H := hP
  have hD : va_D A (wd_X2_print a_this a_text a_d a_n a_power a_limbs c_text c_d c_n c_power c_limbs s1 v_size v_used v_at v_text v_d v_n v_power v_limbs) := hD
  refine lv_aload_n hx hb dX2_print_35 rfl (lv_at hl 0 rfl) ?_
  refine va_get (D := (dC, dI)) (ci := 2) (v := .int s1) (C := RX2) (T := TX2) (N := 9) hx hb hws inlX2 hown hK hP 0 rfl rfl 0 (by decide) (hws _ ww_48) (fun _ h9 => h9) rfl dX2_print_36 ?_
  refine lv_if_ne (tgt := 50) hx hb dX2_print_39 (by decide) (fun c9 => ?_) (fun c9 => ?_)
  · have h := (if_neg c9).symm.trans h
    refine lv_iconst (v := 0) hx hb dX2_print_50 (by decide) ?_
    obtain ⟨h09, h19, h29, h39, h49, h59, h69, h79, h89⟩ := rt9 h
    subst o_r
    subst o_thrown
    subst o_size
    subst o_used
    subst o_text
    subst o_d
    subst o_n
    subst o_power
    subst o_limbs
    exact W.iret hx hb hr (fun t ht hW => ⟨⟨_, (), rfl, rfl, by rw [ht]; exact hP, va_K.moved hW.alike hK, hD⟩, hS.F ht⟩) hS.2.2 dX2_print_51
  · have h := (if_pos c9).symm.trans h
    refine lv_aload_n hx hb dX2_print_42 rfl (lv_at hl 0 rfl) ?_
    refine lv_lload_n hx hb dX2_print_43 rfl (lv_at hl 1 rfl) ?_
    obtain ⟨⟨r44, v_size_44, v_text_44⟩, hc, h⟩ := bd h
    dsimp only at h
    have hPc := hP.sub (ws' := (wd_X2_begins a_this a_text a_d a_n a_power a_limbs c_text s1 v_size v_used v_at v_text)) [0, 1] rfl
    have hDc := hD.sub (ws' := (wd_X2_begins a_this a_text a_d a_n a_power a_limbs c_text s1 v_size v_used v_at v_text)) [0, 1] (by decide) rfl
    have hKc := hK.sub (tys' := [(c_text, .int)]) [0] rfl
    have hFc := va_free (wc := (wd_X2_begins a_this a_text a_d a_n a_power a_limbs c_text s1 v_size v_used v_at v_text)) hD hS hA [0, 1] rfl
    refine va_calli (va_runV (As := [.long l1]) (rest := []) ⟨hx, hb, hml, hown, hws⟩ (c_X2_begins l dC dI  a_this a_text a_d a_n a_power a_limbs c_text (Array.size H) l1 s1 v_size v_used v_at v_text r44 v_size_44 v_text_44 hc) (cwV 1 hws (gV ww_331 ww_332 ww_333 ww_5 ww_334) rfl rfl rfl (by decide +kernel) ⟨Nat.le_of_ble_eq_true rfl, Nat.le_of_ble_eq_true rfl⟩) ⟨(fun a U g mk q => by obtain ⟨q0, q1, qP, qK, qD⟩ := q; exact ⟨q0, q1, qP, va_K.moved (u := U) (U := U.calling g mk a) (Vm.Alike.refl U.vm) qK, qD⟩), va_recv hKc hPc (ci := 2) (q0 := 0) rfl rfl, (fun U hU hW => ⟨rfl, by rw [hU], by rw [hU]; exact hPc, va_K.moved hW.alike hKc, hDc.weaken (fun _ _ _ _ => trivial)⟩)⟩ rfl rfl hl.1 rfl (lv_room (Nat.le_of_ble_eq_true rfl)) dX2_print_44 ⟨Nat.zero_le _, Nat.zero_le _⟩) hS (fun q _ h => hFc q h) hFc (fun r9 u9 t H1 locs ht hvm hw hB hz1 hk1 hS => ?_)
    obtain ⟨hP1, hK1, hD1⟩ := hB
    rw [ht] at hP1
    subst r9
    obtain ⟨hP, hD⟩ := va_join (wr := [(a_d, .inl (c_d, 7000, .inl v_d)), (a_n, .inl (c_n, 7000, .inl v_n)), (a_power, .inl (c_power, 7000, .inl v_power)), (a_limbs, .inl (c_limbs, 160, .inr (.inl v_limbs)))]) (w1 := (wd_X2_begins a_this a_text a_d a_n a_power a_limbs c_text s1 v_size_44 v_used v_at v_text_44)) hP hD [0, 1] [2, 3, 4, 5] rfl rfl (by decide) (by decide) hk1 hFc hP1 hD1
    generalize H1 = H at hP hS ⊢
    have hP : va_P (dC, dI) vwCl (wd_X2_print a_this a_text a_d a_n a_power a_limbs c_text c_d c_n c_power c_limbs s1 v_size_44 v_used v_at v_text_44 v_d v_n v_power v_limbs) H := hP.sub [4, 5, 0, 1, 2, 3] rfl
    have hD : va_D A (wd_X2_print a_this a_text a_d a_n a_power a_limbs c_text c_d c_n c_power c_limbs s1 v_size_44 v_used v_at v_text_44 v_d v_n v_power v_limbs) := hD.sub [4, 5, 0, 1, 2, 3] (by decide) rfl
    clear hP1 hK1 hD1 hPc hDc hKc hFc hk1 hz1 ht hvm
    refine lv_if_ne (tgt := 52) hx hb dX2_print_47 (by decide) (fun c9 => ?_) (fun c9 => ?_)
    · have h := (if_neg c9).symm.trans h
      refine lv_aload_n hx hb dX2_print_52 rfl (lv_at hl 0 rfl) ?_
      refine lv_lload_n hx hb dX2_print_53 rfl (lv_at hl 1 rfl) ?_
      refine lv_ldc2 (v := 9223372036854775807) hx hb hown (hws _ ww_330) dX2_print_54 ?_
      refine lv_land hx hb dX2_print_57 ?_
      refine lv_sipush (v := 1400) hx hb dX2_print_58 (by decide) ?_
      obtain ⟨⟨v_used_61, v_d_61, v_n_61, v_power_61, v_limbs_61⟩, hc, h⟩ := bd h
      dsimp only at h
      have hPc := hP.sub (ws' := (wd_X2_rowOf a_this a_text a_d a_n a_power a_limbs c_d c_n c_power c_limbs s1 v_size_44 v_used v_at v_d v_n v_power v_limbs)) [0, 2, 3, 4, 5] rfl
      have hDc := hD.sub (ws' := (wd_X2_rowOf a_this a_text a_d a_n a_power a_limbs c_d c_n c_power c_limbs s1 v_size_44 v_used v_at v_d v_n v_power v_limbs)) [0, 2, 3, 4, 5] (by decide) rfl
      have hKc := hK.sub (tys' := [(c_d, .int), (c_n, .int), (c_power, .int), (c_limbs, .long)]) [1, 2, 3, 4] rfl
      have hFc := va_free (wc := (wd_X2_rowOf a_this a_text a_d a_n a_power a_limbs c_d c_n c_power c_limbs s1 v_size_44 v_used v_at v_d v_n v_power v_limbs)) hD hS hA [0, 2, 3, 4, 5] rfl
      refine va_callv (va_runV (As := [.long (l1 &&& 9223372036854775807), .int 1400]) (rest := []) ⟨hx, hb, hml, hown, hws⟩ (c_X2_rowOf l dC dI  a_this a_text a_d a_n a_power a_limbs c_d c_n c_power c_limbs (Array.size H) (l1 &&& 9223372036854775807) 1400 s1 v_size_44 v_used v_at v_d v_n v_power v_limbs v_used_61 v_d_61 v_n_61 v_power_61 v_limbs_61 hc) (cwV 2 hws (gV ww_250 ww_251 ww_252 ww_5 ww_253) rfl rfl rfl (by decide +kernel) ⟨Nat.le_of_ble_eq_true rfl, Nat.le_of_ble_eq_true rfl⟩) ⟨(fun a U g mk q => by obtain ⟨q0, q1, qP, qK, qD⟩ := q; exact ⟨q0, q1, qP, va_K.moved (u := U) (U := U.calling g mk a) (Vm.Alike.refl U.vm) qK, qD⟩), va_recv hKc hPc (ci := 2) (q0 := 0) rfl rfl, (fun U hU hW => ⟨rfl, by rw [hU], by rw [hU]; exact hPc, va_K.moved hW.alike hKc, hDc.weaken (fun _ _ _ _ => trivial)⟩)⟩ rfl rfl hl.1 rfl (lv_room (Nat.le_of_ble_eq_true rfl)) dX2_print_61 ⟨Nat.zero_le _, Nat.zero_le _⟩) hS (fun q _ h => hFc q h) hFc (fun u9 t H1 locs ht hvm hw hB hz1 hk1 hS => ?_)
      obtain ⟨hP1, hK1, hD1⟩ := hB
      rw [ht] at hP1
      obtain ⟨hP, hD⟩ := va_join (wr := [(a_text, .inl (c_text, 400, .inl v_text_44))]) (w1 := (wd_X2_rowOf a_this a_text a_d a_n a_power a_limbs c_d c_n c_power c_limbs s1 v_size_44 v_used_61 v_at v_d_61 v_n_61 v_power_61 v_limbs_61)) hP hD [0, 2, 3, 4, 5] [1] rfl rfl (by decide) (by decide) hk1 hFc hP1 hD1
      generalize H1 = H at hP hS ⊢
      have hP : va_P (dC, dI) vwCl (wd_X2_print a_this a_text a_d a_n a_power a_limbs c_text c_d c_n c_power c_limbs s1 v_size_44 v_used_61 v_at v_text_44 v_d_61 v_n_61 v_power_61 v_limbs_61) H := hP.sub [1, 0, 2, 3, 4, 5] rfl
      have hD : va_D A (wd_X2_print a_this a_text a_d a_n a_power a_limbs c_text c_d c_n c_power c_limbs s1 v_size_44 v_used_61 v_at v_text_44 v_d_61 v_n_61 v_power_61 v_limbs_61) := hD.sub [1, 0, 2, 3, 4, 5] (by decide) rfl
      clear hP1 hK1 hD1 hPc hDc hKc hFc hk1 hz1 ht hvm
      refine lv_aload_n hx hb dX2_print_64 rfl (lv_at hl 0 rfl) ?_
      refine lv_aload_n hx hb dX2_print_65 rfl (lv_at hl 0 rfl) ?_
      refine va_get (D := (dC, dI)) (ci := 2) (v := .ref a_power) (C := RX2) (T := TX2) (N := 9) hx hb hws inlX2 hown hK hP 0 rfl rfl 5 (by decide) (hws _ ww_37) (fun _ h9 => h9) rfl dX2_print_66 ?_
      refine lv_sipush (v := 1400) hx hb dX2_print_69 (by decide) ?_
      have hi : vp_in 1400 7000 := by unfold vp_in; decide +kernel
      refine va_iald hx hb hK hP 4 3 rfl rfl hi dX2_print_72 ?_
      refine lv_iload_n hx hb dX2_print_73 rfl (lv_at hl 2 rfl) ?_
      refine lv_iadd hx hb dX2_print_74 ?_
      obtain ⟨⟨v_d_75, v_n_75, v_power_75⟩, hc, h⟩ := bd h
      dsimp only at h
      have hPc := hP.sub (ws' := (wd_X2_round a_this a_text a_d a_n a_power a_limbs c_d c_n c_power s1 v_size_44 v_used_61 v_at v_d_61 v_n_61 v_power_61)) [0, 2, 3, 4] rfl
      have hDc := hD.sub (ws' := (wd_X2_round a_this a_text a_d a_n a_power a_limbs c_d c_n c_power s1 v_size_44 v_used_61 v_at v_d_61 v_n_61 v_power_61)) [0, 2, 3, 4] (by decide) rfl
      have hKc := hK.sub (tys' := [(c_d, .int), (c_n, .int), (c_power, .int)]) [1, 2, 3] rfl
      have hFc := va_free (wc := (wd_X2_round a_this a_text a_d a_n a_power a_limbs c_d c_n c_power s1 v_size_44 v_used_61 v_at v_d_61 v_n_61 v_power_61)) hD hS hA [0, 2, 3, 4] rfl
      refine va_callv (va_runV (As := [.int ((v_power_61 (Int32.toNatClampNeg 1400)) + l3)]) (rest := []) ⟨hx, hb, hml, hown, hws⟩ (c_X2_round l dC dI  a_this a_text a_d a_n a_power a_limbs c_d c_n c_power (Array.size H) ((v_power_61 (Int32.toNatClampNeg 1400)) + l3) s1 v_size_44 v_used_61 v_at v_d_61 v_n_61 v_power_61 v_d_75 v_n_75 v_power_75 hc) (cwV 1 hws (gV ww_339 ww_340 ww_341 ww_5 ww_342) rfl rfl rfl (by decide +kernel) ⟨Nat.le_of_ble_eq_true rfl, Nat.le_of_ble_eq_true rfl⟩) ⟨(fun a U g mk q => by obtain ⟨q0, q1, qP, qK, qD⟩ := q; exact ⟨q0, q1, qP, va_K.moved (u := U) (U := U.calling g mk a) (Vm.Alike.refl U.vm) qK, qD⟩), va_recv hKc hPc (ci := 2) (q0 := 0) rfl rfl, (fun U hU hW => ⟨rfl, by rw [hU], by rw [hU]; exact hPc, va_K.moved hW.alike hKc, hDc.weaken (fun _ _ _ _ => trivial)⟩)⟩ rfl rfl hl.1 rfl (lv_room (Nat.le_of_ble_eq_true rfl)) dX2_print_75 ⟨Nat.zero_le _, Nat.zero_le _⟩) hS (fun q _ h => hFc q h) hFc (fun u9 t H1 locs ht hvm hw hB hz1 hk1 hS => ?_)
      obtain ⟨hP1, hK1, hD1⟩ := hB
      rw [ht] at hP1
      obtain ⟨hP, hD⟩ := va_join (wr := [(a_text, .inl (c_text, 400, .inl v_text_44)), (a_limbs, .inl (c_limbs, 160, .inr (.inl v_limbs_61)))]) (w1 := (wd_X2_round a_this a_text a_d a_n a_power a_limbs c_d c_n c_power s1 v_size_44 v_used_61 v_at v_d_75 v_n_75 v_power_75)) hP hD [0, 2, 3, 4] [1, 5] rfl rfl (by decide) (by decide) hk1 hFc hP1 hD1
      generalize H1 = H at hP hS ⊢
      have hP : va_P (dC, dI) vwCl (wd_X2_print a_this a_text a_d a_n a_power a_limbs c_text c_d c_n c_power c_limbs s1 v_size_44 v_used_61 v_at v_text_44 v_d_75 v_n_75 v_power_75 v_limbs_61) H := hP.sub [2, 0, 3, 4, 5, 1] rfl
      have hD : va_D A (wd_X2_print a_this a_text a_d a_n a_power a_limbs c_text c_d c_n c_power c_limbs s1 v_size_44 v_used_61 v_at v_text_44 v_d_75 v_n_75 v_power_75 v_limbs_61) := hD.sub [2, 0, 3, 4, 5, 1] (by decide) rfl
      clear hP1 hK1 hD1 hPc hDc hKc hFc hk1 hz1 ht hvm
      refine lv_iconst (v := 0) hx hb dX2_print_78 (by decide) ?_
      refine lv_istore (lv' := [(4, .int 0), (0, .ref a_this), (1, .long l1), (3, .int l3)]) hx hb dX2_print_79 hl (by decide) rfl (fun ls hl => ?_)
      exact w_X2_print_81 l a_this a_text a_d a_n a_power a_limbs c_text c_d c_n c_power c_limbs hx hb hr hml hown hws hlocks hA FU l3 0 s1 v_size_44 v_used_61 v_at v_text_44 v_d_75 v_n_75 v_power_75 v_limbs_61 o_r o_thrown o_size o_used o_text o_d o_n o_power o_limbs h H locs hK hP hD hS ls (lv_sub hl [1, 3, 0] rfl)
    · have h := (if_pos c9).symm.trans h
      refine lv_iconst (v := 0) hx hb dX2_print_50 (by decide) ?_
      obtain ⟨h09, h19, h29, h39, h49, h59, h69, h79, h89⟩ := rt9 h
      subst o_r
      subst o_thrown
      subst o_size
      subst o_used
      subst o_text
      subst o_d
      subst o_n
      subst o_power
      subst o_limbs
      exact W.iret hx hb hr (fun t ht hW => ⟨⟨_, (), rfl, rfl, by rw [ht]; exact hP, va_K.moved hW.alike hK, hD⟩, hS.F ht⟩) hS.2.2 dX2_print_51
set_option maxHeartbeats 4000000 in
set_option maxRecDepth 100000 in
theorem w_X2_print_11 (l : Launch) {p : Program} {e : Env} {s : State} {m : MethodId} {args : Array Value} {below : List Frame} {meth : Method} {c : Code} {A : Nat → Prop} {dC : Nat → ClassId} {dI : Nat → Nat → Nat} (a_this a_text a_d a_n a_power a_limbs : Nat) (c_text c_d c_n c_power c_limbs : ClassId) (hx : p.tables.exec = Jvm.exec) (hb : c.code = cX2_print) (hr : meth.sig.returnType = (some .int)) (hml : c.maxLocals = 5) (hown : s.vm.findClass RX2 = some m.cls) (hws : ∀ w ∈ wsL_law, w.before args s = true) (hlocks : meth.locks = false) (hA : ∀ q : Nat, s.heap.size ≤ q → A q) : ∀ (l1 : Int64) (l3 : Int32) (v_thrown : Int32) (v_size : Int32) (v_used : Int32) (v_at : Int32) (v_text : Nat → Int32) (v_d : Nat → Int32) (v_n : Nat → Int32) (v_power : Nat → Int32) (v_limbs : Nat → Int64) (o_r : Int32) (o_thrown : Int32) (o_size : Int32) (o_used : Int32) (o_text : Nat → Int32) (o_d : Nat → Int32) (o_n : Nat → Int32) (o_power : Nat → Int32) (o_limbs : Nat → Int64), f_X2_print_b11 l1 l3 v_thrown v_size v_used v_text v_d v_n v_power v_limbs = some (o_r, o_thrown, o_size, o_used, o_text, o_d, o_n, o_power, o_limbs) → ∀ (H : Heap) (locs : List Loc), va_K (dC, dI) vwCl [(c_text, .int), (c_d, .int), (c_n, .int), (c_power, .int), (c_limbs, .long)] s → va_P (dC, dI) vwCl (wd_X2_print a_this a_text a_d a_n a_power a_limbs c_text c_d c_n c_power c_limbs v_thrown v_size v_used v_at v_text v_d v_n v_power v_limbs) H → va_D A (wd_X2_print a_this a_text a_d a_n a_power a_limbs c_text c_d c_n c_power c_limbs v_thrown v_size v_used v_at v_text v_d v_n v_power v_limbs) → va_S A s.heap H locs → ∀ (ls : Array Slot), lv_has ls 5 [(0, .ref a_this), (1, .long l1), (3, .int l3)] → W p l e (headSpec (w_X2_print) ({ frames := 3, cells := 0, slots := 0, locals := 75 } : Room)).room s m args below meth c H locs 0 0 (MQ below (va_Qi (fun r9 (_ : Unit) => r9 = o_r) (fun (_ : Unit) t => va_P (dC, dI) vwCl (wd_X2_print a_this a_text a_d a_n a_power a_limbs c_text c_d c_n c_power c_limbs o_thrown o_size o_used v_at o_text o_d o_n o_power o_limbs) t.heap ∧ va_K (dC, dI) vwCl [(c_text, .int), (c_d, .int), (c_n, .int), (c_power, .int), (c_limbs, .long)] t ∧ va_D A (wd_X2_print a_this a_text a_d a_n a_power a_limbs c_text c_d c_n c_power c_limbs o_thrown o_size o_used v_at o_text o_d o_n o_power o_limbs)) A) args s 0 0 A) (F0 m 11 ls [.ref a_this]) := by
  intro l1 l3 v_thrown v_size v_used v_at v_text v_d v_n v_power v_limbs o_r o_thrown o_size o_used o_text o_d o_n o_power o_limbs h H locs hK hP hD hS ls hl
  unfold f_X2_print_b11 at h
  refine lv_iconst (v := 1) hx hb dX2_print_11 (by decide) ?_
  refine lv_goto (tgt := 32) hx hb dX2_print_12 (by decide) ?_
  exact w_X2_print_32 l a_this a_text a_d a_n a_power a_limbs c_text c_d c_n c_power c_limbs hx hb hr hml hown hws hlocks hA l1 l3 1 v_thrown v_size v_used v_at v_text v_d v_n v_power v_limbs o_r o_thrown o_size o_used o_text o_d o_n o_power o_limbs h H locs hK hP hD hS ls (lv_sub hl [0, 1, 2] rfl)
set_option maxHeartbeats 4000000 in
set_option maxRecDepth 100000 in
theorem c_X2_print (l : Launch) (dC : Nat → ClassId) (dI : Nat → Nat → Nat)  (a_this a_text a_d a_n a_power a_limbs : Nat) (c_text c_d c_n c_power c_limbs : ClassId) (sz : Nat) (l1 : Int64) (l3 : Int32) (v_thrown : Int32) (v_size : Int32) (v_used : Int32) (v_at : Int32) (v_text : Nat → Int32) (v_d : Nat → Int32) (v_n : Nat → Int32) (v_power : Nat → Int32) (v_limbs : Nat → Int64) (o_r : Int32) (o_thrown : Int32) (o_size : Int32) (o_used : Int32) (o_text : Nat → Int32) (o_d : Nat → Int32) (o_n : Nat → Int32) (o_power : Nat → Int32) (o_limbs : Nat → Int64) (h : f_X2_print l1 l3 v_thrown v_size v_used v_text v_d v_n v_power v_limbs = some (o_r, o_thrown, o_size, o_used, o_text, o_d, o_n, o_power, o_limbs)) : Met l yX2_print w_X2_print ({ frames := 3, cells := 0, slots := 0, locals := 75 } : Room) (va_Pc [.ref a_this, .long l1, .int l3] (fun U => U.heap.size = sz ∧ va_P (dC, dI) vwCl (wd_X2_print a_this a_text a_d a_n a_power a_limbs c_text c_d c_n c_power c_limbs v_thrown v_size v_used v_at v_text v_d v_n v_power v_limbs) U.heap ∧ va_K (dC, dI) vwCl [(c_text, .int), (c_d, .int), (c_n, .int), (c_power, .int), (c_limbs, .long)] U ∧ va_D (fun _ => True) (wd_X2_print a_this a_text a_d a_n a_power a_limbs c_text c_d c_n c_power c_limbs v_thrown v_size v_used v_at v_text v_d v_n v_power v_limbs))) (va_Qi (fun r9 (_ : Unit) => r9 = o_r) (fun (_ : Unit) t => va_P (dC, dI) vwCl (wd_X2_print a_this a_text a_d a_n a_power a_limbs c_text c_d c_n c_power c_limbs o_thrown o_size o_used v_at o_text o_d o_n o_power o_limbs) t.heap ∧ va_K (dC, dI) vwCl [(c_text, .int), (c_d, .int), (c_n, .int), (c_power, .int), (c_limbs, .long)] t ∧ va_D (va_A (wd_X2_print a_this a_text a_d a_n a_power a_limbs c_text c_d c_n c_power c_limbs v_thrown v_size v_used v_at v_text v_d v_n v_power v_limbs) sz) (wd_X2_print a_this a_text a_d a_n a_power a_limbs c_text c_d c_n c_power c_limbs o_thrown o_size o_used v_at o_text o_d o_n o_power o_limbs)) (va_A (wd_X2_print a_this a_text a_d a_n a_power a_limbs c_text c_d c_n c_power c_limbs v_thrown v_size v_used v_at v_text v_d v_n v_power v_limbs) sz)) 0 0 (va_A (wd_X2_print a_this a_text a_d a_n a_power a_limbs c_text c_d c_n c_power c_limbs v_thrown v_size v_used v_at v_text v_d v_n v_power v_limbs) sz) := by
  refine Met.ofW (cc := cX2_print) (maxL := 5) (ret := (some .int)) (by decide) rfl ?_
  intro p e s m args below meth c s₁ B hml hv
  obtain ⟨rfl, hsz, hP, hK, hD0⟩ := hv
  have hx := B.exec
  have hb := B.bytes
  have hr := B.returns
  have hws : ∀ w ∈ wsL_law, w.before _ s = true := fun w hw => atoms_spec (ws := w_X2_print) B.pre w (List.mem_cons_of_mem _ hw)
  have hown : s.vm.findClass RX2 = some m.cls := findClass_of_methodNamed B.named
  have hlocks := B.notSynchronized
  subst hsz
  have hD := hD0.self (sz := s.heap.size)
  generalize hAe : va_A (wd_X2_print a_this a_text a_d a_n a_power a_limbs c_text c_d c_n c_power c_limbs v_thrown v_size v_used v_at v_text v_d v_n v_power v_limbs) s.heap.size = A at hD ⊢
  have hA : ∀ q : Nat, s.heap.size ≤ q → A q := fun q h => by rw [← hAe]; exact Or.inr h
  have hS : va_S A s.heap s.heap [] := va_S.rf
  have hl := lv_entry ([.ref a_this, .long l1, .int l3]) (n := 5) (Nat.le_of_ble_eq_true rfl)
  rw [lg_entry_eq]
  generalize (lg_sl ([.ref a_this, .long l1, .int l3]) ++ List.replicate (5 - (lg_sl ([.ref a_this, .long l1, .int l3])).length) Slot.unset).toArray = ls at hl ⊢
  have hl : lv_has ls 5 [(0, .ref a_this), (1, .long l1), (3, .int l3)] := hl
  unfold f_X2_print at h
  refine lv_aload_n hx hb dX2_print_0 rfl (lv_at hl 0 rfl) ?_
  refine lv_iload_n hx hb dX2_print_1 rfl (lv_at hl 2 rfl) ?_
  refine lv_if_lt (tgt := 11) hx hb dX2_print_2 (by decide) (fun c9 => ?_) (fun c9 => ?_)
  · have h := (if_pos c9).symm.trans h
    exact w_X2_print_11 l a_this a_text a_d a_n a_power a_limbs c_text c_d c_n c_power c_limbs hx hb hr hml hown hws hlocks hA l1 l3 v_thrown v_size v_used v_at v_text v_d v_n v_power v_limbs o_r o_thrown o_size o_used o_text o_d o_n o_power o_limbs h s.heap [] hK hP hD hS ls (lv_sub hl [0, 1, 2] rfl)
  · have h := (if_neg c9).symm.trans h
    refine lv_iload_n hx hb dX2_print_5 rfl (lv_at hl 2 rfl) ?_
    refine lv_bipush (v := 30) hx hb dX2_print_6 (by decide) ?_
    refine lv_icmp_le (tgt := 15) hx hb dX2_print_8 (by decide) (fun c9 => ?_) (fun c9 => ?_)
    · have h := (if_pos c9).symm.trans h
      refine lv_lload_n hx hb dX2_print_15 rfl (lv_at hl 1 rfl) ?_
      refine lv_ldc2 (v := 9218868437227405312) hx hb hown (hws _ ww_247) dX2_print_16 ?_
      refine lv_land hx hb dX2_print_19 ?_
      refine lv_ldc2 (v := 9218868437227405312) hx hb hown (hws _ ww_247) dX2_print_20 ?_
      refine W.lcmp hx hb dX2_print_23 ?_
      refine lv_if_ne (tgt := 31) hx hb dX2_print_24 (by decide) (fun c9 => ?_) (fun c9 => ?_)
      · have h := (if_neg c9).symm.trans h
        refine lv_iconst (v := 0) hx hb dX2_print_31 (by decide) ?_
        exact w_X2_print_32 l a_this a_text a_d a_n a_power a_limbs c_text c_d c_n c_power c_limbs hx hb hr hml hown hws hlocks hA l1 l3 0 v_thrown v_size v_used v_at v_text v_d v_n v_power v_limbs o_r o_thrown o_size o_used o_text o_d o_n o_power o_limbs h s.heap [] hK hP hD hS ls (lv_sub hl [0, 1, 2] rfl)
      · have h := (if_pos c9).symm.trans h
        refine lv_iconst (v := 2) hx hb dX2_print_27 (by decide) ?_
        refine lv_goto (tgt := 32) hx hb dX2_print_28 (by decide) ?_
        exact w_X2_print_32 l a_this a_text a_d a_n a_power a_limbs c_text c_d c_n c_power c_limbs hx hb hr hml hown hws hlocks hA l1 l3 2 v_thrown v_size v_used v_at v_text v_d v_n v_power v_limbs o_r o_thrown o_size o_used o_text o_d o_n o_power o_limbs h s.heap [] hK hP hD hS ls (lv_sub hl [0, 1, 2] rfl)
    · have h := (if_neg c9).symm.trans h
      exact w_X2_print_11 l a_this a_text a_d a_n a_power a_limbs c_text c_d c_n c_power c_limbs hx hb hr hml hown hws hlocks hA l1 l3 v_thrown v_size v_used v_at v_text v_d v_n v_power v_limbs o_r o_thrown o_size o_used o_text o_d o_n o_power o_limbs h s.heap [] hK hP hD hS ls (lv_sub hl [0, 1, 2] rfl)
