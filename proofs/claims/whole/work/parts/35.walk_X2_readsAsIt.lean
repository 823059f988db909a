set_option maxHeartbeats 4000000 in
set_option maxRecDepth 100000 in
theorem w_X2_readsAsIt_40 (l : Launch) {p : Program} {e : Env} {s : State} {m : MethodId} {args : Array Value} {below : List Frame} {meth : Method} {c : Code} {A : Nat → Prop} {dC : Nat → ClassId} {dI : Nat → Nat → Nat} (a_this a_text a_d a_n a_power a_limbs : Nat) (c_d c_n c_power : ClassId) (hx : p.tables.exec = Jvm.exec) (hb : c.code = cX2_readsAsIt) (hr : meth.sig.returnType = (some .boolean)) (hml : c.maxLocals = 5) (hown : s.vm.findClass RX2 = some m.cls) (hws : ∀ w ∈ wsL_law, w.before args s = true) (hlocks : meth.locks = false) (hA : ∀ q : Nat, s.heap.size ≤ q → A q) : ∀ (l2 : Int32) (l4 : Int32) (v_thrown : Int32) (v_size : Int32) (v_used : Int32) (v_at : Int32) (v_d : Nat → Int32) (v_n : Nat → Int32) (v_power : Nat → Int32) (o_r : Int32) (o_d : Nat → Int32) (o_n : Nat → Int32) (o_power : Nat → Int32), f_X2_readsAsIt_b40 l2 l4 v_d v_n v_power = some (o_r, o_d, o_n, o_power) → ∀ (H : Heap) (locs : List Loc), va_K (dC, dI) vwCl [(c_d, .int), (c_n, .int), (c_power, .int)] s → va_P (dC, dI) vwCl (wd_X2_readsAsIt a_this a_text a_d a_n a_power a_limbs c_d c_n c_power v_thrown v_size v_used v_at v_d v_n v_power) H → va_D A (wd_X2_readsAsIt a_this a_text a_d a_n a_power a_limbs c_d c_n c_power v_thrown v_size v_used v_at v_d v_n v_power) → va_S A s.heap H locs → ∀ (ls : Array Slot), lv_has ls 5 [(2, .int l2), (4, .int l4)] → W p l e (headSpec (w_X2_readsAsIt) ({ frames := 2, cells := 0, slots := 0, locals := 48 } : Room)).room s m args below meth c H locs 0 0 (MQ below (va_Qi (fun r9 (_ : Unit) => r9 = o_r) (fun (_ : Unit) t => va_P (dC, dI) vwCl (wd_X2_readsAsIt a_this a_text a_d a_n a_power a_limbs c_d c_n c_power v_thrown v_size v_used v_at o_d o_n o_power) t.heap ∧ va_K (dC, dI) vwCl [(c_d, .int), (c_n, .int), (c_power, .int)] t ∧ va_D A (wd_X2_readsAsIt a_this a_text a_d a_n a_power a_limbs c_d c_n c_power v_thrown v_size v_used v_at o_d o_n o_power)) A) args s 0 0 A) (F0 m 40 ls []) := by
  intro l2 l4 v_thrown v_size v_used v_at v_d v_n v_power o_r o_d o_n o_power h H locs hK hP hD hS ls hl
  unfold f_X2_readsAsIt_b40 at h
  refine lv_iload hx hb dX2_readsAsIt_40 (lv_at hl 1 rfl) ?_
  refine lv_if_lt (tgt := 54) hx hb dX2_readsAsIt_42 (by decide) (fun c9 => ?_) (fun c9 => ?_)
  · have h := (if_pos c9).symm.trans h
    refine lv_iconst (v := 1) hx hb dX2_readsAsIt_54 (by decide) ?_
    refine lv_goto (tgt := 59) hx hb dX2_readsAsIt_55 (by decide) ?_
    obtain ⟨h09, h19, h29, h39⟩ := rt4 h
    subst o_r
    subst o_d
    subst o_n
    subst o_power
    exact W.zret hx hb hr rfl (fun t ht hW => ⟨⟨_, (), rfl, rfl, by rw [ht]; exact hP, va_K.moved hW.alike hK, hD⟩, hS.F ht⟩) hS.2.2 dX2_readsAsIt_59
  · have h := (if_neg c9).symm.trans h
    refine lv_iload hx hb dX2_readsAsIt_45 (lv_at hl 1 rfl) ?_
    refine lv_if_ne (tgt := 58) hx hb dX2_readsAsIt_47 (by decide) (fun c9 => ?_) (fun c9 => ?_)
    · have h := (if_neg c9).symm.trans h
      refine lv_iconst (v := 0) hx hb dX2_readsAsIt_58 (by decide) ?_
      obtain ⟨h09, h19, h29, h39⟩ := rt4 h
      subst o_r
      subst o_d
      subst o_n
      subst o_power
      exact W.zret hx hb hr rfl (fun t ht hW => ⟨⟨_, (), rfl, rfl, by rw [ht]; exact hP, va_K.moved hW.alike hK, hD⟩, hS.F ht⟩) hS.2.2 dX2_readsAsIt_59
    · have h := (if_pos c9).symm.trans h
      refine lv_iload_n hx hb dX2_readsAsIt_50 rfl (lv_at hl 0 rfl) ?_
      refine lv_if_eq (tgt := 58) hx hb dX2_readsAsIt_51 (by decide) (fun c9 => ?_) (fun c9 => ?_)
      · have h := (if_pos c9).symm.trans h
        refine lv_iconst (v := 0) hx hb dX2_readsAsIt_58 (by decide) ?_
        obtain ⟨h09, h19, h29, h39⟩ := rt4 h
        subst o_r
        subst o_d
        subst o_n
        subst o_power
        exact W.zret hx hb hr rfl (fun t ht hW => ⟨⟨_, (), rfl, rfl, by rw [ht]; exact hP, va_K.moved hW.alike hK, hD⟩, hS.F ht⟩) hS.2.2 dX2_readsAsIt_59
      · have h := (if_neg c9).symm.trans h
        refine lv_iconst (v := 1) hx hb dX2_readsAsIt_54 (by decide) ?_
        refine lv_goto (tgt := 59) hx hb dX2_readsAsIt_55 (by decide) ?_
        obtain ⟨h09, h19, h29, h39⟩ := rt4 h
        subst o_r
        subst o_d
        subst o_n
        subst o_power
        exact W.zret hx hb hr rfl (fun t ht hW => ⟨⟨_, (), rfl, rfl, by rw [ht]; exact hP, va_K.moved hW.alike hK, hD⟩, hS.F ht⟩) hS.2.2 dX2_readsAsIt_59
set_option maxHeartbeats 4000000 in
set_option maxRecDepth 100000 in
theorem c_X2_readsAsIt (l : Launch) (dC : Nat → ClassId) (dI : Nat → Nat → Nat)  (a_this a_text a_d a_n a_power a_limbs : Nat) (c_d c_n c_power : ClassId) (sz : Nat) (l1 : Int32) (l2 : Int32) (v_thrown : Int32) (v_size : Int32) (v_used : Int32) (v_at : Int32) (v_d : Nat → Int32) (v_n : Nat → Int32) (v_power : Nat → Int32) (o_r : Int32) (o_d : Nat → Int32) (o_n : Nat → Int32) (o_power : Nat → Int32) (h : f_X2_readsAsIt l1 l2 v_d v_n v_power = some (o_r, o_d, o_n, o_power)) : Met l yX2_readsAsIt w_X2_readsAsIt ({ frames := 2, cells := 0, slots := 0, locals := 48 } : Room) (va_Pc [.ref a_this, .int l1, .int l2] (fun U => U.heap.size = sz ∧ va_P (dC, dI) vwCl (wd_X2_readsAsIt a_this a_text a_d a_n a_power a_limbs c_d c_n c_power v_thrown v_size v_used v_at v_d v_n v_power) U.heap ∧ va_K (dC, dI) vwCl [(c_d, .int), (c_n, .int), (c_power, .int)] U ∧ va_D (fun _ => True) (wd_X2_readsAsIt a_this a_text a_d a_n a_power a_limbs c_d c_n c_power v_thrown v_size v_used v_at v_d v_n v_power))) (va_Qi (fun r9 (_ : Unit) => r9 = o_r) (fun (_ : Unit) t => va_P (dC, dI) vwCl (wd_X2_readsAsIt a_this a_text a_d a_n a_power a_limbs c_d c_n c_power v_thrown v_size v_used v_at o_d o_n o_power) t.heap ∧ va_K (dC, dI) vwCl [(c_d, .int), (c_n, .int), (c_power, .int)] t ∧ va_D (va_A (wd_X2_readsAsIt a_this a_text a_d a_n a_power a_limbs c_d c_n c_power v_thrown v_size v_used v_at v_d v_n v_power) sz) (wd_X2_readsAsIt a_this a_text a_d a_n a_power a_limbs c_d c_n c_power v_thrown v_size v_used v_at o_d o_n o_power)) (va_A (wd_X2_readsAsIt a_this a_text a_d a_n a_power a_limbs c_d c_n c_power v_thrown v_size v_used v_at v_d v_n v_power) sz)) 0 0 (va_A (wd_X2_readsAsIt a_this a_text a_d a_n a_power a_limbs c_d c_n c_power v_thrown v_size v_used v_at v_d v_n v_power) sz) := by
  refine Met.ofW (cc := cX2_readsAsIt) (maxL := 5) (ret := (some .boolean)) (by decide) rfl ?_
  intro p e s m args below meth c s₁ B hml hv
  obtain ⟨rfl, hsz, hP, hK, hD0⟩ := hv
  have hx := B.exec
  have hb := B.bytes
  have hr := B.returns
  have hws : ∀ w ∈ wsL_law, w.before _ s = true := fun w hw => atoms_spec (ws := w_X2_readsAsIt) B.pre w (List.mem_cons_of_mem _ hw)
  have hown : s.vm.findClass RX2 = some m.cls := findClass_of_methodNamed B.named
  have hlocks := B.notSynchronized
  subst hsz
  have hD := hD0.self (sz := s.heap.size)
  generalize hAe : va_A (wd_X2_readsAsIt a_this a_text a_d a_n a_power a_limbs c_d c_n c_power v_thrown v_size v_used v_at v_d v_n v_power) s.heap.size = A at hD ⊢
  have hA : ∀ q : Nat, s.heap.size ≤ q → A q := fun q h => by rw [← hAe]; exact Or.inr h
  have hS : va_S A s.heap s.heap [] := va_S.rf
  have hl := lv_entry ([.ref a_this, .int l1, .int l2]) (n := 5) (Nat.le_of_ble_eq_true rfl)
  rw [lg_entry_eq]
  generalize (lg_sl ([.ref a_this, .int l1, .int l2]) ++ List.replicate (5 - (lg_sl ([.ref a_this, .int l1, .int l2])).length) Slot.unset).toArray = ls at hl ⊢
  have hl : lv_has ls 5 [(0, .ref a_this), (1, .int l1), (2, .int l2)] := hl
  unfold f_X2_readsAsIt at h
  refine lv_aload_n hx hb dX2_readsAsIt_0 rfl (lv_at hl 0 rfl) ?_
  refine lv_iload_n hx hb dX2_readsAsIt_1 rfl (lv_at hl 1 rfl) ?_
  obtain ⟨⟨v_d_2, v_n_2, v_power_2⟩, hc, h⟩ := bd h
  dsimp only at h
  have hPc := hP.sub (ws' := (wd_X2_round a_this a_text a_d a_n a_power a_limbs c_d c_n c_power v_thrown v_size v_used v_at v_d v_n v_power)) [0, 1, 2, 3] rfl
  have hDc := hD.sub (ws' := (wd_X2_round a_this a_text a_d a_n a_power a_limbs c_d c_n c_power v_thrown v_size v_used v_at v_d v_n v_power)) [0, 1, 2, 3] (by decide) rfl
  have hKc := hK.sub (tys' := [(c_d, .int), (c_n, .int), (c_power, .int)]) [0, 1, 2] rfl
  have hFc := va_free (wc := (wd_X2_round a_this a_text a_d a_n a_power a_limbs c_d c_n c_power v_thrown v_size v_used v_at v_d v_n v_power)) hD hS hA [0, 1, 2, 3] rfl
  refine va_callv (va_runV (As := [.int l1]) (rest := []) ⟨hx, hb, hml, hown, hws⟩ (c_X2_round l dC dI  a_this a_text a_d a_n a_power a_limbs c_d c_n c_power (Array.size s.heap) l1 v_thrown v_size v_used v_at v_d v_n v_power v_d_2 v_n_2 v_power_2 hc) (cwV 1 hws (gV ww_339 ww_340 ww_341 ww_5 ww_342) rfl rfl rfl (by decide +kernel) ⟨Nat.le_of_ble_eq_true rfl, Nat.le_of_ble_eq_true rfl⟩) ⟨(fun a U g mk q => by obtain ⟨q0, q1, qP, qK, qD⟩ := q; exact ⟨q0, q1, qP, va_K.moved (u := U) (U := U.calling g mk a) (Vm.Alike.refl U.vm) qK, qD⟩), va_recv hKc hPc (ci := 2) (q0 := 0) rfl rfl, (fun U hU hW => ⟨rfl, by rw [hU], by rw [hU]; exact hPc, va_K.moved hW.alike hKc, hDc.weaken (fun _ _ _ _ => trivial)⟩)⟩ rfl rfl hl.1 rfl (lv_room (Nat.le_of_ble_eq_true rfl)) dX2_readsAsIt_2 ⟨Nat.zero_le _, Nat.zero_le _⟩) hS (fun q _ h => hFc q h) hFc (fun u9 t H1 locs ht hvm hw hB hz1 hk1 hS => ?_)
  obtain ⟨hP1, hK1, hD1⟩ := hB
  rw [ht] at hP1
  obtain ⟨hP, hD⟩ := va_join (wr := []) (w1 := (wd_X2_round a_this a_text a_d a_n a_power a_limbs c_d c_n c_power v_thrown v_size v_used v_at v_d_2 v_n_2 v_power_2)) hP hD [0, 1, 2, 3] [] rfl rfl (by decide) (by decide) hk1 hFc hP1 hD1
  generalize H1 = H at hP hS ⊢
  have hP : va_P (dC, dI) vwCl (wd_X2_readsAsIt a_this a_text a_d a_n a_power a_limbs c_d c_n c_power v_thrown v_size v_used v_at v_d_2 v_n_2 v_power_2) H := hP.sub [0, 1, 2, 3] rfl
  have hD : va_D A (wd_X2_readsAsIt a_this a_text a_d a_n a_power a_limbs c_d c_n c_power v_thrown v_size v_used v_at v_d_2 v_n_2 v_power_2) := hD.sub [0, 1, 2, 3] (by decide) rfl
  clear hP1 hK1 hD1 hPc hDc hKc hFc hk1 hz1 ht hvm
  refine lv_aload_n hx hb dX2_readsAsIt_5 rfl (lv_at hl 0 rfl) ?_
  refine lv_sipush (v := 2800) hx hb dX2_readsAsIt_6 (by decide) ?_
  refine lv_sipush (v := 4200) hx hb dX2_readsAsIt_9 (by decide) ?_
  obtain ⟨r12, hc, h⟩ := bd h
  have hPc := hP.sub (ws' := (wd_X2_against a_this a_text a_d a_n a_power a_limbs c_d c_n c_power v_thrown v_size v_used v_at v_d_2 v_n_2 v_power_2)) [0, 1, 2, 3] rfl
  have hDc := hD.sub (ws' := (wd_X2_against a_this a_text a_d a_n a_power a_limbs c_d c_n c_power v_thrown v_size v_used v_at v_d_2 v_n_2 v_power_2)) [0, 1, 2, 3] (by decide) rfl
  have hKc := hK.sub (tys' := [(c_d, .int), (c_n, .int), (c_power, .int)]) [0, 1, 2] rfl
  have hFc := va_free (wc := (wd_X2_against a_this a_text a_d a_n a_power a_limbs c_d c_n c_power v_thrown v_size v_used v_at v_d_2 v_n_2 v_power_2)) hD hS hA [0, 1, 2, 3] rfl
  refine va_calli (va_runV (As := [.int 2800, .int 4200]) (rest := []) ⟨hx, hb, hml, hown, hws⟩ (c_X2_against l dC dI  a_this a_text a_d a_n a_power a_limbs c_d c_n c_power (Array.size H) 2800 4200 v_thrown v_size v_used v_at v_d_2 v_n_2 v_power_2 r12 hc) (cwV 2 hws (gV ww_277 ww_278 ww_279 ww_5 ww_280) rfl rfl rfl (by decide +kernel) ⟨Nat.le_of_ble_eq_true rfl, Nat.le_of_ble_eq_true rfl⟩) ⟨(fun a U g mk q => by obtain ⟨q0, q1, qP, qK, qD⟩ := q; exact ⟨q0, q1, qP, va_K.moved (u := U) (U := U.calling g mk a) (Vm.Alike.refl U.vm) qK, qD⟩), va_recv hKc hPc (ci := 2) (q0 := 0) rfl rfl, (fun U hU hW => ⟨rfl, by rw [hU], by rw [hU]; exact hPc, va_K.moved hW.alike hKc, hDc.weaken (fun _ _ _ _ => trivial)⟩)⟩ rfl rfl hl.1 rfl (lv_room (Nat.le_of_ble_eq_true rfl)) dX2_readsAsIt_12 ⟨Nat.zero_le _, Nat.zero_le _⟩) hS (fun q _ h => hFc q h) hFc (fun r9 u9 t H1 locs ht hvm hw hB hz1 hk1 hS => ?_)
  obtain ⟨hP1, hK1, hD1⟩ := hB
  rw [ht] at hP1
  subst r9
  obtain ⟨hP, hD⟩ := va_join (wr := []) (w1 := (wd_X2_against a_this a_text a_d a_n a_power a_limbs c_d c_n c_power v_thrown v_size v_used v_at v_d_2 v_n_2 v_power_2)) hP hD [0, 1, 2, 3] [] rfl rfl (by decide) (by decide) hk1 hFc hP1 hD1
  generalize H1 = H at hP hS ⊢
  have hP : va_P (dC, dI) vwCl (wd_X2_readsAsIt a_this a_text a_d a_n a_power a_limbs c_d c_n c_power v_thrown v_size v_used v_at v_d_2 v_n_2 v_power_2) H := hP.sub [0, 1, 2, 3] rfl
  have hD : va_D A (wd_X2_readsAsIt a_this a_text a_d a_n a_power a_limbs c_d c_n c_power v_thrown v_size v_used v_at v_d_2 v_n_2 v_power_2) := hD.sub [0, 1, 2, 3] (by decide) rfl
  clear hP1 hK1 hD1 hPc hDc hKc hFc hk1 hz1 ht hvm
  refine lv_istore_n (lv' := [(3, .int r12), (0, .ref a_this), (1, .int l1), (2, .int l2)]) hx hb dX2_readsAsIt_15 rfl hl (by decide) rfl (fun ls hl => ?_)
  refine lv_aload_n hx hb dX2_readsAsIt_16 rfl (lv_at hl 1 rfl) ?_
  refine lv_sipush (v := 2800) hx hb dX2_readsAsIt_17 (by decide) ?_
  refine lv_sipush (v := 5600) hx hb dX2_readsAsIt_20 (by decide) ?_
  obtain ⟨r23, hc, h⟩ := bd h
  have hPc := hP.sub (ws' := (wd_X2_against a_this a_text a_d a_n a_power a_limbs c_d c_n c_power v_thrown v_size v_used v_at v_d_2 v_n_2 v_power_2)) [0, 1, 2, 3] rfl
  have hDc := hD.sub (ws' := (wd_X2_against a_this a_text a_d a_n a_power a_limbs c_d c_n c_power v_thrown v_size v_used v_at v_d_2 v_n_2 v_power_2)) [0, 1, 2, 3] (by decide) rfl
  have hKc := hK.sub (tys' := [(c_d, .int), (c_n, .int), (c_power, .int)]) [0, 1, 2] rfl
  have hFc := va_free (wc := (wd_X2_against a_this a_text a_d a_n a_power a_limbs c_d c_n c_power v_thrown v_size v_used v_at v_d_2 v_n_2 v_power_2)) hD hS hA [0, 1, 2, 3] rfl
  refine va_calli (va_runV (As := [.int 2800, .int 5600]) (rest := []) ⟨hx, hb, hml, hown, hws⟩ (c_X2_against l dC dI  a_this a_text a_d a_n a_power a_limbs c_d c_n c_power (Array.size H) 2800 5600 v_thrown v_size v_used v_at v_d_2 v_n_2 v_power_2 r23 hc) (cwV 2 hws (gV ww_277 ww_278 ww_279 ww_5 ww_280) rfl rfl rfl (by decide +kernel) ⟨Nat.le_of_ble_eq_true rfl, Nat.le_of_ble_eq_true rfl⟩) ⟨(fun a U g mk q => by obtain ⟨q0, q1, qP, qK, qD⟩ := q; exact ⟨q0, q1, qP, va_K.moved (u := U) (U := U.calling g mk a) (Vm.Alike.refl U.vm) qK, qD⟩), va_recv hKc hPc (ci := 2) (q0 := 0) rfl rfl, (fun U hU hW => ⟨rfl, by rw [hU], by rw [hU]; exact hPc, va_K.moved hW.alike hKc, hDc.weaken (fun _ _ _ _ => trivial)⟩)⟩ rfl rfl hl.1 rfl (lv_room (Nat.le_of_ble_eq_true rfl)) dX2_readsAsIt_23 ⟨Nat.zero_le _, Nat.zero_le _⟩) hS (fun q _ h => hFc q h) hFc (fun r9 u9 t H1 locs ht hvm hw hB hz1 hk1 hS => ?_)
  obtain ⟨hP1, hK1, hD1⟩ := hB
  rw [ht] at hP1
  subst r9
  obtain ⟨hP, hD⟩ := va_join (wr := []) (w1 := (wd_X2_against a_this a_text a_d a_n a_power a_limbs c_d c_n c_power v_thrown v_size v_used v_at v_d_2 v_n_2 v_power_2)) hP hD [0, 1, 2, 3] [] rfl rfl (by decide) (by decide) hk1 hFc hP1 hD1
  generalize H1 = H at hP hS ⊢
  have hP : va_P (dC, dI) vwCl (wd_X2_readsAsIt a_this a_text a_d a_n a_power a_limbs c_d c_n c_power v_thrown v_size v_used v_at v_d_2 v_n_2 v_power_2) H := hP.sub [0, 1, 2, 3] rfl
  have hD : va_D A (wd_X2_readsAsIt a_this a_text a_d a_n a_power a_limbs c_d c_n c_power v_thrown v_size v_used v_at v_d_2 v_n_2 v_power_2) := hD.sub [0, 1, 2, 3] (by decide) rfl
  clear hP1 hK1 hD1 hPc hDc hKc hFc hk1 hz1 ht hvm
  refine lv_istore (lv' := [(4, .int r23), (3, .int r12), (0, .ref a_this), (1, .int l1), (2, .int l2)]) hx hb dX2_readsAsIt_26 hl (by decide) rfl (fun ls hl => ?_)
  refine lv_iload_n hx hb dX2_readsAsIt_28 rfl (lv_at hl 1 rfl) ?_
  refine lv_if_gt (tgt := 40) hx hb dX2_readsAsIt_29 (by decide) (fun c9 => ?_) (fun c9 => ?_)
  · have h := (if_pos c9).symm.trans h
    exact w_X2_readsAsIt_40 l a_this a_text a_d a_n a_power a_limbs c_d c_n c_power hx hb hr hml hown hws hlocks hA l2 r23 v_thrown v_size v_used v_at v_d_2 v_n_2 v_power_2 o_r o_d o_n o_power h H locs hK hP hD hS ls (lv_sub hl [4, 0] rfl)
  · have h := (if_neg c9).symm.trans h
    refine lv_iload_n hx hb dX2_readsAsIt_32 rfl (lv_at hl 1 rfl) ?_
    refine lv_if_ne (tgt := 58) hx hb dX2_readsAsIt_33 (by decide) (fun c9 => ?_) (fun c9 => ?_)
    · have h := (if_neg c9).symm.trans h
      refine lv_iconst (v := 0) hx hb dX2_readsAsIt_58 (by decide) ?_
      obtain ⟨h09, h19, h29, h39⟩ := rt4 h
      subst o_r
      subst o_d
      subst o_n
      subst o_power
      exact W.zret hx hb hr rfl (fun t ht hW => ⟨⟨_, (), rfl, rfl, by rw [ht]; exact hP, va_K.moved hW.alike hK, hD⟩, hS.F ht⟩) hS.2.2 dX2_readsAsIt_59
    · have h := (if_pos c9).symm.trans h
      refine lv_iload_n hx hb dX2_readsAsIt_36 rfl (lv_at hl 4 rfl) ?_
      refine lv_if_eq (tgt := 58) hx hb dX2_readsAsIt_37 (by decide) (fun c9 => ?_) (fun c9 => ?_)
      · have h := (if_pos c9).symm.trans h
        refine lv_iconst (v := 0) hx hb dX2_readsAsIt_58 (by decide) ?_
        obtain ⟨h09, h19, h29, h39⟩ := rt4 h
        subst o_r
        subst o_d
        subst o_n
        subst o_power
        exact W.zret hx hb hr rfl (fun t ht hW => ⟨⟨_, (), rfl, rfl, by rw [ht]; exact hP, va_K.moved hW.alike hK, hD⟩, hS.F ht⟩) hS.2.2 dX2_readsAsIt_59
      · have h := (if_neg c9).symm.trans h
        exact w_X2_readsAsIt_40 l a_this a_text a_d a_n a_power a_limbs c_d c_n c_power hx hb hr hml hown hws hlocks hA l2 r23 v_thrown v_size v_used v_at v_d_2 v_n_2 v_power_2 o_r o_d o_n o_power h H locs hK hP hD hS ls (lv_sub hl [4, 0] rfl)
