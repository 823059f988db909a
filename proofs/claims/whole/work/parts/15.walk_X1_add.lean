set_option maxHeartbeats 4000000 in
set_option maxRecDepth 100000 in
theorem c_X1_add (l : Launch) (hst : l.stackTraces = false) (dC : Nat → ClassId) (dI : Nat → Nat → Nat)  (a_this a_text a_number a_rounded a_lowEdge a_highEdge : Nat) (c_text : ClassId) (sz : Nat) (l1 : Int32) (v_length : Int32) (v_digitsStart : Int32) (v_digitsEnd : Int32) (v_unitsAt : Int32) (v_tenPower : Int32) (v_text : Nat → Int32) (out : ((Int32) × ((Int32) × (Nat → Int32))) ⊕ (Nat × ((Int32) × (Nat → Int32)))) (h : f_X1_add l1 v_length v_text = some out) : vx_Met l yX1_add w_X1_add ({ frames := 6, cells := 1, slots := 6, locals := 81 } : Room) (va_Pc [.ref a_this, .int l1] (fun U => U.heap.size = sz ∧ va_P (dC, dI) vwCl (wd_X1_add a_this a_text a_number a_rounded a_lowEdge a_highEdge c_text v_length v_digitsStart v_digitsEnd v_unitsAt v_tenPower v_text) U.heap ∧ va_K (dC, dI) vwCl [(c_text, .int)] U ∧ va_D (fun _ => True) (wd_X1_add a_this a_text a_number a_rounded a_lowEdge a_highEdge c_text v_length v_digitsStart v_digitsEnd v_unitsAt v_tenPower v_text) ∧ EX (va_A (wd_X1_add a_this a_text a_number a_rounded a_lowEdge a_highEdge c_text v_length v_digitsStart v_digitsEnd v_unitsAt v_tenPower v_text) sz) U U.heap)) (va_Qi (fun r9 (u9 : (Int32) × (Nat → Int32)) => out = .inl (r9, u9)) (fun u9 t => va_P (dC, dI) vwCl (wd_X1_add a_this a_text a_number a_rounded a_lowEdge a_highEdge c_text u9.1 v_digitsStart v_digitsEnd v_unitsAt v_tenPower u9.2) t.heap ∧ va_K (dC, dI) vwCl [(c_text, .int)] t ∧ va_D (va_A (wd_X1_add a_this a_text a_number a_rounded a_lowEdge a_highEdge c_text v_length v_digitsStart v_digitsEnd v_unitsAt v_tenPower v_text) sz) (wd_X1_add a_this a_text a_number a_rounded a_lowEdge a_highEdge c_text u9.1 v_digitsStart v_digitsEnd v_unitsAt v_tenPower u9.2)) (va_A (wd_X1_add a_this a_text a_number a_rounded a_lowEdge a_highEdge c_text v_length v_digitsStart v_digitsEnd v_unitsAt v_tenPower v_text) sz)) (vx_X (fun (u9 : Nat × ((Int32) × (Nat → Int32))) => out = .inr u9) (fun E u9 t => E = exn u9.1 ∧ va_P (dC, dI) vwCl (wd_X1_add a_this a_text a_number a_rounded a_lowEdge a_highEdge c_text u9.2.1 v_digitsStart v_digitsEnd v_unitsAt v_tenPower u9.2.2) t.heap ∧ va_K (dC, dI) vwCl [(c_text, .int)] t ∧ va_D (va_A (wd_X1_add a_this a_text a_number a_rounded a_lowEdge a_highEdge c_text v_length v_digitsStart v_digitsEnd v_unitsAt v_tenPower v_text) sz) (wd_X1_add a_this a_text a_number a_rounded a_lowEdge a_highEdge c_text u9.2.1 v_digitsStart v_digitsEnd v_unitsAt v_tenPower u9.2.2)) (va_A (wd_X1_add a_this a_text a_number a_rounded a_lowEdge a_highEdge c_text v_length v_digitsStart v_digitsEnd v_unitsAt v_tenPower v_text) sz)) 1 6 (va_A (wd_X1_add a_this a_text a_number a_rounded a_lowEdge a_highEdge c_text v_length v_digitsStart v_digitsEnd v_unitsAt v_tenPower v_text) sz) := by
  refine vx_ofW (cc := cX1_add) (maxL := 2) (ret := (some .int)) (by decide) rfl ?_
  intro p e s m args below meth c s₁ B hml htab hv
  obtain ⟨rfl, hsz, hP, hK, hD0, hEX⟩ := hv
  have hx := B.exec
  have hb := B.bytes
  have hr := B.returns
  have hws : ∀ w ∈ wsL_law, w.before _ s = true := fun w hw => atoms_spec (ws := w_X1_add) B.pre w (List.mem_cons_of_mem _ hw)
  have hown : s.vm.findClass RX1 = some m.cls := findClass_of_methodNamed B.named
  have hlocks := B.notSynchronized
  subst hsz
  have hD := hD0.self (sz := s.heap.size)
  generalize hAe : va_A (wd_X1_add a_this a_text a_number a_rounded a_lowEdge a_highEdge c_text v_length v_digitsStart v_digitsEnd v_unitsAt v_tenPower v_text) s.heap.size = A at hD hEX ⊢
  have hA : ∀ q : Nat, s.heap.size ≤ q → A q := fun q h => by rw [← hAe]; exact Or.inr h
  have hS : va_S A s.heap s.heap [] := va_S.rf
  have hl := lv_entry ([.ref a_this, .int l1]) (n := 2) (Nat.le_of_ble_eq_true rfl)
  rw [lg_entry_eq]
  generalize (lg_sl ([.ref a_this, .int l1]) ++ List.replicate (2 - (lg_sl ([.ref a_this, .int l1])).length) Slot.unset).toArray = ls at hl ⊢
  have hl : lv_has ls 2 [(0, .ref a_this), (1, .int l1)] := hl
  unfold f_X1_add at h
  refine lv_iload_n hx hb dX1_add_0 rfl (lv_at hl 1 rfl) ?_
  refine lv_if_lt (tgt := 11) hx hb dX1_add_1 (by decide) (fun c9 => ?_) (fun c9 => ?_)
  · have h := (if_pos c9).symm.trans h
    obtain rfl := rt1 h
    refine vx_throw0 (cls := "java/lang/IllegalArgumentException") (names := exNames) (A := A) hx hb hst hown (by decide +kernel) (by decide +kernel) (hws _ ww_60) (hws _ ww_61) (ex_at1 hEX hws) ex_g1 hEX.1.1 hEX.1.2 hS (hl.1.trans hml.symm) dX1_add_11 dX1_add_14 dX1_add_15 dX1_add_18 (fun x9 h9 => (htab x9 h9).elim) (Nat.le_of_ble_eq_true rfl) (Nat.le_of_ble_eq_true rfl) (Nat.le_of_ble_eq_true rfl) (Nat.le_of_ble_eq_true rfl) hlocks (fun t ha hz hq => ?_) hS.2.2 (Nat.le_of_ble_eq_true rfl) (Nat.le_of_ble_eq_true rfl)
    exact ⟨(1, (v_length, v_text)), rfl, ⟨rfl, hP.kept (fun k9 q9 h9 => hq q9.1 (hP k9 q9 h9).lt), va_K.moved ha hK, hD⟩, Nat.le_trans hS.1 hz, fun q9 h1 h2 => (hq q9 (Nat.lt_of_lt_of_le h1 hS.1)).trans (hS.2.1 q9 h1 h2)⟩
  · have h := (if_neg c9).symm.trans h
    refine lv_iload_n hx hb dX1_add_4 rfl (lv_at hl 1 rfl) ?_
    refine lv_sipush (v := 255) hx hb dX1_add_5 (by decide) ?_
    refine lv_icmp_le (tgt := 19) hx hb dX1_add_8 (by decide) (fun c9 => ?_) (fun c9 => ?_)
    · have h := (if_pos c9).symm.trans h
      refine lv_aload_n hx hb dX1_add_19 rfl (lv_at hl 0 rfl) ?_
      refine va_get (D := (dC, dI)) (ci := 1) (v := .int v_length) (C := RX1) (T := TX1) (N := 10) hx hb hws inlX1 hown hK hP 0 rfl rfl 1 (by decide) (hws _ ww_43) (fun _ h9 => h9) rfl dX1_add_20 ?_
      refine lv_sipush (v := 400) hx hb dX1_add_23 (by decide) ?_
      refine lv_icmp_lt (tgt := 37) hx hb dX1_add_26 (by decide) (fun c9 => ?_) (fun c9 => ?_)
      · have h := (if_pos c9).symm.trans h
        refine lv_aload_n hx hb dX1_add_37 rfl (lv_at hl 0 rfl) ?_
        refine lv_iload_n hx hb dX1_add_38 rfl (lv_at hl 1 rfl) ?_
        obtain ⟨⟨v_length_39, v_text_39⟩, hc, h⟩ := bd h
        dsimp only at h
        have hPc := hP.sub (ws' := (wd_X1_put a_this a_text a_number a_rounded a_lowEdge a_highEdge c_text v_length v_digitsStart v_digitsEnd v_unitsAt v_tenPower v_text)) [0, 1] rfl
        have hDc := hD.sub (ws' := (wd_X1_put a_this a_text a_number a_rounded a_lowEdge a_highEdge c_text v_length v_digitsStart v_digitsEnd v_unitsAt v_tenPower v_text)) [0, 1] (by decide) rfl
        have hKc := hK.sub (tys' := [(c_text, .int)]) [0] rfl
        have hFc := va_free (wc := (wd_X1_put a_this a_text a_number a_rounded a_lowEdge a_highEdge c_text v_length v_digitsStart v_digitsEnd v_unitsAt v_tenPower v_text)) hD hS hA [0, 1] rfl
        refine va_callv (va_runV (As := [.int l1]) (rest := []) ⟨hx, hb, hml, hown, hws⟩ (c_X1_put l dC dI  a_this a_text a_number a_rounded a_lowEdge a_highEdge c_text (Array.size s.heap) l1 v_length v_digitsStart v_digitsEnd v_unitsAt v_tenPower v_text v_length_39 v_text_39 hc) (cwV 1 hws (gV ww_64 ww_65 ww_66 ww_2 ww_67) rfl rfl rfl (by decide +kernel) ⟨Nat.le_of_ble_eq_true rfl, Nat.le_of_ble_eq_true rfl⟩) ⟨(fun a U g mk q => by obtain ⟨q0, q1, qP, qK, qD⟩ := q; exact ⟨q0, q1, qP, va_K.moved (u := U) (U := U.calling g mk a) (Vm.Alike.refl U.vm) qK, qD⟩), va_recv hKc hPc (ci := 1) (q0 := 0) rfl rfl, (fun U hU hW => ⟨rfl, by rw [hU], by rw [hU]; exact hPc, va_K.moved hW.alike hKc, hDc.weaken (fun _ _ _ _ => trivial)⟩)⟩ rfl rfl hl.1 rfl (lv_room (Nat.le_of_ble_eq_true rfl)) dX1_add_39 ⟨Nat.zero_le _, Nat.zero_le _⟩) hS (fun q _ h => hFc q h) hFc (fun u9 t H1 locs ht hvm hw hB hz1 hk1 hS => ?_)
        obtain ⟨hP1, hK1, hD1⟩ := hB
        rw [ht] at hP1
        obtain ⟨hP, hD⟩ := va_join (wr := []) (w1 := (wd_X1_put a_this a_text a_number a_rounded a_lowEdge a_highEdge c_text v_length_39 v_digitsStart v_digitsEnd v_unitsAt v_tenPower v_text_39)) hP hD [0, 1] [] rfl rfl (by decide) (by decide) hk1 hFc hP1 hD1
        generalize H1 = H at hP hS ⊢
        have hP : va_P (dC, dI) vwCl (wd_X1_add a_this a_text a_number a_rounded a_lowEdge a_highEdge c_text v_length_39 v_digitsStart v_digitsEnd v_unitsAt v_tenPower v_text_39) H := hP.sub [0, 1] rfl
        have hD : va_D A (wd_X1_add a_this a_text a_number a_rounded a_lowEdge a_highEdge c_text v_length_39 v_digitsStart v_digitsEnd v_unitsAt v_tenPower v_text_39) := hD.sub [0, 1] (by decide) rfl
        clear hP1 hK1 hD1 hPc hDc hKc hFc hk1 hz1 ht hvm
        refine lv_aload_n hx hb dX1_add_42 rfl (lv_at hl 0 rfl) ?_
        refine va_get (D := (dC, dI)) (ci := 1) (v := .int v_length_39) (C := RX1) (T := TX1) (N := 10) hx hb hws inlX1 hown hK hP 0 rfl rfl 1 (by decide) (hws _ ww_43) (fun _ h9 => h9) rfl dX1_add_43 ?_
        obtain rfl := rt1 h
        refine W.widen (k := 1) (n := 6) (by decide) (by decide) ?_
        exact vx_ret (W.iret hx hb hr (fun t ht hW => ⟨⟨_, (v_length_39, v_text_39), rfl, rfl, by rw [ht]; exact hP, va_K.moved hW.alike hK, hD⟩, hS.F ht⟩) hS.2.2 dX1_add_46)
      · have h := (if_neg c9).symm.trans h
        obtain rfl := rt1 h
        refine vx_throw0 (cls := "java/lang/IllegalStateException") (names := exNames) (A := A) hx hb hst hown (by decide +kernel) (by decide +kernel) (hws _ ww_62) (hws _ ww_63) (ex_at2 hEX hws) ex_g2 hEX.1.1 hEX.1.2 hS (hl.1.trans hml.symm) dX1_add_29 dX1_add_32 dX1_add_33 dX1_add_36 (fun x9 h9 => (htab x9 h9).elim) (Nat.le_of_ble_eq_true rfl) (Nat.le_of_ble_eq_true rfl) (Nat.le_of_ble_eq_true rfl) (Nat.le_of_ble_eq_true rfl) hlocks (fun t ha hz hq => ?_) hS.2.2 (Nat.le_of_ble_eq_true rfl) (Nat.le_of_ble_eq_true rfl)
        exact ⟨(2, (v_length, v_text)), rfl, ⟨rfl, hP.kept (fun k9 q9 h9 => hq q9.1 (hP k9 q9 h9).lt), va_K.moved ha hK, hD⟩, Nat.le_trans hS.1 hz, fun q9 h1 h2 => (hq q9 (Nat.lt_of_lt_of_le h1 hS.1)).trans (hS.2.1 q9 h1 h2)⟩
    · have h := (if_neg c9).symm.trans h
      obtain rfl := rt1 h
      refine vx_throw0 (cls := "java/lang/IllegalArgumentException") (names := exNames) (A := A) hx hb hst hown (by decide +kernel) (by decide +kernel) (hws _ ww_60) (hws _ ww_61) (ex_at1 hEX hws) ex_g1 hEX.1.1 hEX.1.2 hS (hl.1.trans hml.symm) dX1_add_11 dX1_add_14 dX1_add_15 dX1_add_18 (fun x9 h9 => (htab x9 h9).elim) (Nat.le_of_ble_eq_true rfl) (Nat.le_of_ble_eq_true rfl) (Nat.le_of_ble_eq_true rfl) (Nat.le_of_ble_eq_true rfl) hlocks (fun t ha hz hq => ?_) hS.2.2 (Nat.le_of_ble_eq_true rfl) (Nat.le_of_ble_eq_true rfl)
      exact ⟨(1, (v_length, v_text)), rfl, ⟨rfl, hP.kept (fun k9 q9 h9 => hq q9.1 (hP k9 q9 h9).lt), va_K.moved ha hK, hD⟩, Nat.le_trans hS.1 hz, fun q9 h1 h2 => (hq q9 (Nat.lt_of_lt_of_le h1 hS.1)).trans (hS.2.1 q9 h1 h2)⟩
set_option maxHeartbeats 4000000 in
set_option maxRecDepth 100000 in
theorem c_X1_isAt (l : Launch) (dC : Nat → ClassId) (dI : Nat → Nat → Nat)  (a_this a_text a_number a_rounded a_lowEdge a_highEdge : Nat) (c_text : ClassId) (sz : Nat) (l1 : Int32) (l2 : Int32) (v_length : Int32) (v_digitsStart : Int32) (v_digitsEnd : Int32) (v_unitsAt : Int32) (v_tenPower : Int32) (v_text : Nat → Int32) (o_r : Int32) (h : f_X1_isAt l1 l2 v_length v_text = some o_r) : Met l yX1_isAt w_X1_isAt ({ frames := 0, cells := 0, slots := 0, locals := 0 } : Room) (va_Pc [.ref a_this, .int l1, .int l2] (fun U => U.heap.size = sz ∧ va_P (dC, dI) vwCl (wd_X1_isAt a_this a_text a_number a_rounded a_lowEdge a_highEdge c_text v_length v_digitsStart v_digitsEnd v_unitsAt v_tenPower v_text) U.heap ∧ va_K (dC, dI) vwCl [(c_text, .int)] U ∧ va_D (fun _ => True) (wd_X1_isAt a_this a_text a_number a_rounded a_lowEdge a_highEdge c_text v_length v_digitsStart v_digitsEnd v_unitsAt v_tenPower v_text))) (va_Qi (fun r9 (_ : Unit) => r9 = o_r) (fun (_ : Unit) t => va_P (dC, dI) vwCl (wd_X1_isAt a_this a_text a_number a_rounded a_lowEdge a_highEdge c_text v_length v_digitsStart v_digitsEnd v_unitsAt v_tenPower v_text) t.heap ∧ va_K (dC, dI) vwCl [(c_text, .int)] t ∧ va_D (va_A (wd_X1_isAt a_this a_text a_number a_rounded a_lowEdge a_highEdge c_text v_length v_digitsStart v_digitsEnd v_unitsAt v_tenPower v_text) sz) (wd_X1_isAt a_this a_text a_number a_rounded a_lowEdge a_highEdge c_text v_length v_digitsStart v_digitsEnd v_unitsAt v_tenPower v_text)) (va_A (wd_X1_isAt a_this a_text a_number a_rounded a_lowEdge a_highEdge c_text v_length v_digitsStart v_digitsEnd v_unitsAt v_tenPower v_text) sz)) 0 0 (va_A (wd_X1_isAt a_this a_text a_number a_rounded a_lowEdge a_highEdge c_text v_length v_digitsStart v_digitsEnd v_unitsAt v_tenPower v_text) sz) := by
  refine Met.ofW (cc := cX1_isAt) (maxL := 3) (ret := (some .boolean)) (by decide) rfl ?_
  intro p e s m args below meth c s₁ B hml hv
  obtain ⟨rfl, hsz, hP, hK, hD0⟩ := hv
  have hx := B.exec
  have hb := B.bytes
  have hr := B.returns
  have hws : ∀ w ∈ wsL_law, w.before _ s = true := fun w hw => atoms_spec (ws := w_X1_isAt) B.pre w (List.mem_cons_of_mem _ hw)
  have hown : s.vm.findClass RX1 = some m.cls := findClass_of_methodNamed B.named
  have hlocks := B.notSynchronized
  subst hsz
  have hD := hD0.self (sz := s.heap.size)
  generalize hAe : va_A (wd_X1_isAt a_this a_text a_number a_rounded a_lowEdge a_highEdge c_text v_length v_digitsStart v_digitsEnd v_unitsAt v_tenPower v_text) s.heap.size = A at hD ⊢
  have hA : ∀ q : Nat, s.heap.size ≤ q → A q := fun q h => by rw [← hAe]; exact Or.inr h
  have hS : va_S A s.heap s.heap [] := va_S.rf
  have hl := lv_entry ([.ref a_this, .int l1, .int l2]) (n := 3) (Nat.le_of_ble_eq_true rfl)
  rw [lg_entry_eq]
  generalize (lg_sl ([.ref a_this, .int l1, .int l2]) ++ List.replicate (3 - (lg_sl ([.ref a_this, .int l1, .int l2])).length) Slot.unset).toArray = ls at hl ⊢
  have hl : lv_has ls 3 [(0, .ref a_this), (1, .int l1), (2, .int l2)] := hl
  unfold f_X1_isAt at h
  refine lv_iload_n hx hb dX1_isAt_0 rfl (lv_at hl 1 rfl) ?_
  refine lv_aload_n hx hb dX1_isAt_1 rfl (lv_at hl 0 rfl) ?_
  refine va_get (D := (dC, dI)) (ci := 1) (v := .int v_length) (C := RX1) (T := TX1) (N := 10) hx hb hws inlX1 hown hK hP 0 rfl rfl 1 (by decide) (hws _ ww_43) (fun _ h9 => h9) rfl dX1_isAt_2 ?_
  refine lv_icmp_ge (tgt := 22) hx hb dX1_isAt_5 (by decide) (fun c9 => ?_) (fun c9 => ?_)
  · have h := (if_pos c9).symm.trans h
    refine lv_iconst (v := 0) hx hb dX1_isAt_22 (by decide) ?_
    obtain h09 := rt1 h
    subst o_r
    exact W.zret hx hb hr rfl (fun t ht hW => ⟨⟨_, (), rfl, rfl, by rw [ht]; exact hP, va_K.moved hW.alike hK, hD⟩, hS.F ht⟩) hS.2.2 dX1_isAt_23
  · have h := (if_neg c9).symm.trans h
    refine lv_aload_n hx hb dX1_isAt_8 rfl (lv_at hl 0 rfl) ?_
    refine va_get (D := (dC, dI)) (ci := 1) (v := .ref a_text) (C := RX1) (T := TX1) (N := 10) hx hb hws inlX1 hown hK hP 0 rfl rfl 0 (by decide) (hws _ ww_15) (fun _ h9 => h9) rfl dX1_isAt_9 ?_
    refine lv_iload_n hx hb dX1_isAt_12 rfl (lv_at hl 1 rfl) ?_
    obtain ⟨hi, h⟩ := gd h
    refine va_iald hx hb hK hP 1 0 rfl rfl hi dX1_isAt_13 ?_
    refine lv_iload_n hx hb dX1_isAt_14 rfl (lv_at hl 2 rfl) ?_
    refine lv_icmp_ne (tgt := 22) hx hb dX1_isAt_15 (by decide) (fun c9 => ?_) (fun c9 => ?_)
    · have h := (if_neg c9).symm.trans h
      refine lv_iconst (v := 0) hx hb dX1_isAt_22 (by decide) ?_
      obtain h09 := rt1 h
      subst o_r
      exact W.zret hx hb hr rfl (fun t ht hW => ⟨⟨_, (), rfl, rfl, by rw [ht]; exact hP, va_K.moved hW.alike hK, hD⟩, hS.F ht⟩) hS.2.2 dX1_isAt_23
    · have h := (if_pos c9).symm.trans h
      refine lv_iconst (v := 1) hx hb dX1_isAt_18 (by decide) ?_
      refine lv_goto (tgt := 23) hx hb dX1_isAt_19 (by decide) ?_
      obtain h09 := rt1 h
      subst o_r
      exact W.zret hx hb hr rfl (fun t ht hW => ⟨⟨_, (), rfl, rfl, by rw [ht]; exact hP, va_K.moved hW.alike hK, hD⟩, hS.F ht⟩) hS.2.2 dX1_isAt_23
set_option maxHeartbeats 4000000 in
set_option maxRecDepth 100000 in
theorem w_X1_endOfDigits_2 (l : Launch) {p : Program} {e : Env} {s : State} {m : MethodId} {args : Array Value} {below : List Frame} {meth : Method} {c : Code} {A : Nat → Prop} {dC : Nat → ClassId} {dI : Nat → Nat → Nat} (a_this a_text a_number a_rounded a_lowEdge a_highEdge : Nat) (c_text : ClassId) (hx : p.tables.exec = Jvm.exec) (hb : c.code = cX1_endOfDigits) (hr : meth.sig.returnType = (some .int)) (hml : c.maxLocals = 3) (hown : s.vm.findClass RX1 = some m.cls) (hws : ∀ w ∈ wsL_law, w.before args s = true) (hlocks : meth.locks = false) (hA : ∀ q : Nat, s.heap.size ≤ q → A q) : ∀ (n : Nat) (l2 : Int32) (v_length : Int32) (v_digitsStart : Int32) (v_digitsEnd : Int32) (v_unitsAt : Int32) (v_tenPower : Int32) (v_text : Nat → Int32) (o_r : Int32), f_X1_endOfDigits_L2 n l2 v_length v_text = some o_r → ∀ (H : Heap) (locs : List Loc), va_K (dC, dI) vwCl [(c_text, .int)] s → va_P (dC, dI) vwCl (wd_X1_endOfDigits a_this a_text a_number a_rounded a_lowEdge a_highEdge c_text v_length v_digitsStart v_digitsEnd v_unitsAt v_tenPower v_text) H → va_D A (wd_X1_endOfDigits a_this a_text a_number a_rounded a_lowEdge a_highEdge c_text v_length v_digitsStart v_digitsEnd v_unitsAt v_tenPower v_text) → va_S A s.heap H locs → ∀ (ls : Array Slot), lv_has ls 3 [(0, .ref a_this), (2, .int l2)] → W p l e (headSpec (w_X1_endOfDigits) ({ frames := 0, cells := 0, slots := 0, locals := 0 } : Room)).room s m args below meth c H locs 0 0 (MQ below (va_Qi (fun r9 (_ : Unit) => r9 = o_r) (fun (_ : Unit) t => va_P (dC, dI) vwCl (wd_X1_endOfDigits a_this a_text a_number a_rounded a_lowEdge a_highEdge c_text v_length v_digitsStart v_digitsEnd v_unitsAt v_tenPower v_text) t.heap ∧ va_K (dC, dI) vwCl [(c_text, .int)] t ∧ va_D A (wd_X1_endOfDigits a_this a_text a_number a_rounded a_lowEdge a_highEdge c_text v_length v_digitsStart v_digitsEnd v_unitsAt v_tenPower v_text)) A) args s 0 0 A) (F0 m 2 ls []) := by
  intro n
  induction n with
  | zero =>
    intro l2 v_length v_digitsStart v_digitsEnd v_unitsAt v_tenPower v_text o_r h H locs hK hP hD hS ls hl
    exact absurd h (by simp [f_X1_endOfDigits_L2])
  | succ n ih =>
    intro l2 v_length v_digitsStart v_digitsEnd v_unitsAt v_tenPower v_text o_r h H locs hK hP hD hS ls hl
    unfold f_X1_endOfDigits_L2 at h
    refine lv_iload_n hx hb dX1_endOfDigits_2 rfl (lv_at hl 1 rfl) ?_
    refine lv_aload_n hx hb dX1_endOfDigits_3 rfl (lv_at hl 0 rfl) ?_
    refine va_get (D := (dC, dI)) (ci := 1) (v := .int v_length) (C := RX1) (T := TX1) (N := 10) hx hb hws inlX1 hown hK hP 0 rfl rfl 1 (by decide) (hws _ ww_43) (fun _ h9 => h9) rfl dX1_endOfDigits_4 ?_
    refine lv_icmp_ge (tgt := 38) hx hb dX1_endOfDigits_7 (by decide) (fun c9 => ?_) (fun c9 => ?_)
    · have h := (if_pos c9).symm.trans h
      refine lv_iload_n hx hb dX1_endOfDigits_38 rfl (lv_at hl 1 rfl) ?_
      obtain h09 := rt1 h
      subst o_r
      exact W.iret hx hb hr (fun t ht hW => ⟨⟨_, (), rfl, rfl, by rw [ht]; exact hP, va_K.moved hW.alike hK, hD⟩, hS.F ht⟩) hS.2.2 dX1_endOfDigits_39
    · have h := (if_neg c9).symm.trans h
      refine lv_aload_n hx hb dX1_endOfDigits_10 rfl (lv_at hl 0 rfl) ?_
      refine va_get (D := (dC, dI)) (ci := 1) (v := .ref a_text) (C := RX1) (T := TX1) (N := 10) hx hb hws inlX1 hown hK hP 0 rfl rfl 0 (by decide) (hws _ ww_15) (fun _ h9 => h9) rfl dX1_endOfDigits_11 ?_
      refine lv_iload_n hx hb dX1_endOfDigits_14 rfl (lv_at hl 1 rfl) ?_
      obtain ⟨hi, h⟩ := gd h
      refine va_iald hx hb hK hP 1 0 rfl rfl hi dX1_endOfDigits_15 ?_
      refine lv_bipush (v := 48) hx hb dX1_endOfDigits_16 (by decide) ?_
      refine lv_icmp_lt (tgt := 38) hx hb dX1_endOfDigits_18 (by decide) (fun c9 => ?_) (fun c9 => ?_)
      · have h := (if_pos c9).symm.trans h
        refine lv_iload_n hx hb dX1_endOfDigits_38 rfl (lv_at hl 1 rfl) ?_
        obtain h09 := rt1 h
        subst o_r
        exact W.iret hx hb hr (fun t ht hW => ⟨⟨_, (), rfl, rfl, by rw [ht]; exact hP, va_K.moved hW.alike hK, hD⟩, hS.F ht⟩) hS.2.2 dX1_endOfDigits_39
      · have h := (if_neg c9).symm.trans h
        refine lv_aload_n hx hb dX1_endOfDigits_21 rfl (lv_at hl 0 rfl) ?_
        refine va_get (D := (dC, dI)) (ci := 1) (v := .ref a_text) (C := RX1) (T := TX1) (N := 10) hx hb hws inlX1 hown hK hP 0 rfl rfl 0 (by decide) (hws _ ww_15) (fun _ h9 => h9) rfl dX1_endOfDigits_22 ?_
        refine lv_iload_n hx hb dX1_endOfDigits_25 rfl (lv_at hl 1 rfl) ?_
        obtain ⟨hi, h⟩ := gd h
        refine va_iald hx hb hK hP 1 0 rfl rfl hi dX1_endOfDigits_26 ?_
        refine lv_bipush (v := 57) hx hb dX1_endOfDigits_27 (by decide) ?_
        refine lv_icmp_gt (tgt := 38) hx hb dX1_endOfDigits_29 (by decide) (fun c9 => ?_) (fun c9 => ?_)
        · have h := (if_pos c9).symm.trans h
          refine lv_iload_n hx hb dX1_endOfDigits_38 rfl (lv_at hl 1 rfl) ?_
          obtain h09 := rt1 h
          subst o_r
          exact W.iret hx hb hr (fun t ht hW => ⟨⟨_, (), rfl, rfl, by rw [ht]; exact hP, va_K.moved hW.alike hK, hD⟩, hS.F ht⟩) hS.2.2 dX1_endOfDigits_39
        · have h := (if_neg c9).symm.trans h
          refine lv_iinc (v := (l2 + 1)) (lv' := [(2, .int (l2 + 1)), (0, .ref a_this)]) hx hb dX1_endOfDigits_32 hl (k := 1) rfl rfl (by decide) rfl (fun ls hl => ?_)
          refine lv_goto (tgt := 2) hx hb dX1_endOfDigits_35 (by decide) ?_
          exact ih (l2 + 1) v_length v_digitsStart v_digitsEnd v_unitsAt v_tenPower v_text o_r h H locs hK hP hD hS ls (lv_sub hl [1, 0] rfl)
set_option maxHeartbeats 4000000 in
set_option maxRecDepth 100000 in
theorem c_X1_endOfDigits (l : Launch) (dC : Nat → ClassId) (dI : Nat → Nat → Nat)  (a_this a_text a_number a_rounded a_lowEdge a_highEdge : Nat) (c_text : ClassId) (sz : Nat) (l1 : Int32) (v_length : Int32) (v_digitsStart : Int32) (v_digitsEnd : Int32) (v_unitsAt : Int32) (v_tenPower : Int32) (v_text : Nat → Int32) (o_r : Int32) (h : f_X1_endOfDigits l1 v_length v_text = some o_r) : Met l yX1_endOfDigits w_X1_endOfDigits ({ frames := 0, cells := 0, slots := 0, locals := 0 } : Room) (va_Pc [.ref a_this, .int l1] (fun U => U.heap.size = sz ∧ va_P (dC, dI) vwCl (wd_X1_endOfDigits a_this a_text a_number a_rounded a_lowEdge a_highEdge c_text v_length v_digitsStart v_digitsEnd v_unitsAt v_tenPower v_text) U.heap ∧ va_K (dC, dI) vwCl [(c_text, .int)] U ∧ va_D (fun _ => True) (wd_X1_endOfDigits a_this a_text a_number a_rounded a_lowEdge a_highEdge c_text v_length v_digitsStart v_digitsEnd v_unitsAt v_tenPower v_text))) (va_Qi (fun r9 (_ : Unit) => r9 = o_r) (fun (_ : Unit) t => va_P (dC, dI) vwCl (wd_X1_endOfDigits a_this a_text a_number a_rounded a_lowEdge a_highEdge c_text v_length v_digitsStart v_digitsEnd v_unitsAt v_tenPower v_text) t.heap ∧ va_K (dC, dI) vwCl [(c_text, .int)] t ∧ va_D (va_A (wd_X1_endOfDigits a_this a_text a_number a_rounded a_lowEdge a_highEdge c_text v_length v_digitsStart v_digitsEnd v_unitsAt v_tenPower v_text) sz) (wd_X1_endOfDigits a_this a_text a_number a_rounded a_lowEdge a_highEdge c_text v_length v_digitsStart v_digitsEnd v_unitsAt v_tenPower v_text)) (va_A (wd_X1_endOfDigits a_this a_text a_number a_rounded a_lowEdge a_highEdge c_text v_length v_digitsStart v_digitsEnd v_unitsAt v_tenPower v_text) sz)) 0 0 (va_A (wd_X1_endOfDigits a_this a_text a_number a_rounded a_lowEdge a_highEdge c_text v_length v_digitsStart v_digitsEnd v_unitsAt v_tenPower v_text) sz) := by
  refine Met.ofW (cc := cX1_endOfDigits) (maxL := 3) (ret := (some .int)) (by decide) rfl ?_
  intro p e s m args below meth c s₁ B hml hv
  obtain ⟨rfl, hsz, hP, hK, hD0⟩ := hv
  have hx := B.exec
  have hb := B.bytes
  have hr := B.returns
  have hws : ∀ w ∈ wsL_law, w.before _ s = true := fun w hw => atoms_spec (ws := w_X1_endOfDigits) B.pre w (List.mem_cons_of_mem _ hw)
  have hown : s.vm.findClass RX1 = some m.cls := findClass_of_methodNamed B.named
  have hlocks := B.notSynchronized
  subst hsz
  have hD := hD0.self (sz := s.heap.size)
  generalize hAe : va_A (wd_X1_endOfDigits a_this a_text a_number a_rounded a_lowEdge a_highEdge c_text v_length v_digitsStart v_digitsEnd v_unitsAt v_tenPower v_text) s.heap.size = A at hD ⊢
  have hA : ∀ q : Nat, s.heap.size ≤ q → A q := fun q h => by rw [← hAe]; exact Or.inr h
  have hS : va_S A s.heap s.heap [] := va_S.rf
  have hl := lv_entry ([.ref a_this, .int l1]) (n := 3) (Nat.le_of_ble_eq_true rfl)
  rw [lg_entry_eq]
  generalize (lg_sl ([.ref a_this, .int l1]) ++ List.replicate (3 - (lg_sl ([.ref a_this, .int l1])).length) Slot.unset).toArray = ls at hl ⊢
  have hl : lv_has ls 3 [(0, .ref a_this), (1, .int l1)] := hl
  unfold f_X1_endOfDigits at h
  refine lv_iload_n hx hb dX1_endOfDigits_0 rfl (lv_at hl 1 rfl) ?_
  refine lv_istore_n (lv' := [(2, .int l1), (0, .ref a_this), (1, .int l1)]) hx hb dX1_endOfDigits_1 rfl hl (by decide) rfl (fun ls hl => ?_)
  exact w_X1_endOfDigits_2 l a_this a_text a_number a_rounded a_lowEdge a_highEdge c_text hx hb hr hml hown hws hlocks hA FU l1 v_length v_digitsStart v_digitsEnd v_unitsAt v_tenPower v_text o_r h s.heap [] hK hP hD hS ls (lv_sub hl [1, 0] rfl)
set_option maxHeartbeats 4000000 in
set_option maxRecDepth 100000 in
theorem w_X1_scanPower_71 (l : Launch) {p : Program} {e : Env} {s : State} {m : MethodId} {args : Array Value} {below : List Frame} {meth : Method} {c : Code} {A : Nat → Prop} {dC : Nat → ClassId} {dI : Nat → Nat → Nat} (a_this a_text a_number a_rounded a_lowEdge a_highEdge : Nat) (c_text : ClassId) (hx : p.tables.exec = Jvm.exec) (hb : c.code = cX1_scanPower) (hr : meth.sig.returnType = (some .boolean)) (hml : c.maxLocals = 6) (hown : s.vm.findClass RX1 = some m.cls) (hws : ∀ w ∈ wsL_law, w.before args s = true) (hlocks : meth.locks = false) (hA : ∀ q : Nat, s.heap.size ≤ q → A q) : ∀ (n : Nat) (l2 : Int32) (l4 : Int32) (l5 : Int32) (v_length : Int32) (v_digitsStart : Int32) (v_digitsEnd : Int32) (v_unitsAt : Int32) (v_tenPower : Int32) (v_text : Nat → Int32) (o_r : Int32) (o_tenPower : Int32), f_X1_scanPower_L71 n l2 l4 l5 v_length v_tenPower v_text = some (o_r, o_tenPower) → ∀ (H : Heap) (locs : List Loc), va_K (dC, dI) vwCl [(c_text, .int)] s → va_P (dC, dI) vwCl (wd_X1_scanPower a_this a_text a_number a_rounded a_lowEdge a_highEdge c_text v_length v_digitsStart v_digitsEnd v_unitsAt v_tenPower v_text) H → va_D A (wd_X1_scanPower a_this a_text a_number a_rounded a_lowEdge a_highEdge c_text v_length v_digitsStart v_digitsEnd v_unitsAt v_tenPower v_text) → va_S A s.heap H locs → ∀ (ls : Array Slot), lv_has ls 6 [(0, .ref a_this), (2, .int l2), (4, .int l4), (5, .int l5)] → W p l e (headSpec (w_X1_scanPower) ({ frames := 1, cells := 0, slots := 0, locals := 22 } : Room)).room s m args below meth c H locs 0 0 (MQ below (va_Qi (fun r9 (_ : Unit) => r9 = o_r) (fun (_ : Unit) t => va_P (dC, dI) vwCl (wd_X1_scanPower a_this a_text a_number a_rounded a_lowEdge a_highEdge c_text v_length v_digitsStart v_digitsEnd v_unitsAt o_tenPower v_text) t.heap ∧ va_K (dC, dI) vwCl [(c_text, .int)] t ∧ va_D A (wd_X1_scanPower a_this a_text a_number a_rounded a_lowEdge a_highEdge c_text v_length v_digitsStart v_digitsEnd v_unitsAt o_tenPower v_text)) A) args s 0 0 A) (F0 m 71 ls []) := by
  intro n
  induction n with
  | zero =>
    intro l2 l4 l5 v_length v_digitsStart v_digitsEnd v_unitsAt v_tenPower v_text o_r o_tenPower h H locs hK hP hD hS ls hl
    exact absurd h (by simp [f_X1_scanPower_L71])
  | succ n ih =>
    intro l2 l4 l5 v_length v_digitsStart v_digitsEnd v_unitsAt v_tenPower v_text o_r o_tenPower h H locs hK hP hD hS ls hl
    unfold f_X1_scanPower_L71 at h
    refine lv_iload hx hb dX1_scanPower_71 (lv_at hl 3 rfl) ?_
    refine lv_iload hx hb dX1_scanPower_73 (lv_at hl 2 rfl) ?_
    refine lv_icmp_ge (tgt := 106) hx hb dX1_scanPower_75 (by decide) (fun c9 => ?_) (fun c9 => ?_)
    · have h := (if_pos c9).symm.trans h
      refine lv_iload_n hx hb dX1_scanPower_106 rfl (lv_at hl 1 rfl) ?_
      refine lv_if_eq (tgt := 119) hx hb dX1_scanPower_107 (by decide) (fun c9 => ?_) (fun c9 => ?_)
      · have h := (if_pos c9).symm.trans h
        refine lv_iconst (v := 1) hx hb dX1_scanPower_119 (by decide) ?_
        obtain ⟨h09, h19⟩ := rt2 h
        subst o_r
        subst o_tenPower
        exact W.zret hx hb hr rfl (fun t ht hW => ⟨⟨_, (), rfl, rfl, by rw [ht]; exact hP, va_K.moved hW.alike hK, hD⟩, hS.F ht⟩) hS.2.2 dX1_scanPower_120
      · have h := (if_neg c9).symm.trans h
        refine lv_aload_n hx hb dX1_scanPower_110 rfl (lv_at hl 0 rfl) ?_
        refine lv_aload_n hx hb dX1_scanPower_111 rfl (lv_at hl 0 rfl) ?_
        refine va_get (D := (dC, dI)) (ci := 1) (v := .int v_tenPower) (C := RX1) (T := TX1) (N := 10) hx hb hws inlX1 hown hK hP 0 rfl rfl 5 (by decide) (hws _ ww_91) (fun _ h9 => h9) rfl dX1_scanPower_112 ?_
        refine lv_ineg hx hb dX1_scanPower_115 ?_
        refine va_put (D := (dC, dI)) (ci := 1) (v := .int (-v_tenPower)) (ty := .int) (C := RX1) (T := TX1) (N := 10) hx hb hws inlX1 tyX1 tyX1_ok nmX1 hown hK hP hD hS 0 rfl rfl 5 (by decide) (hws _ ww_91) (fun _ h9 => h9) rfl (by decide +kernel) rfl rfl (Nat.le_of_ble_eq_true rfl) dX1_scanPower_116 (fun H locs hP hD hS => ?_)
        have hP : va_P (dC, dI) vwCl (wd_X1_scanPower a_this a_text a_number a_rounded a_lowEdge a_highEdge c_text v_length v_digitsStart v_digitsEnd v_unitsAt (-v_tenPower) v_text) H := hP
        have hD : va_D A (wd_X1_scanPower a_this a_text a_number a_rounded a_lowEdge a_highEdge c_text v_length v_digitsStart v_digitsEnd v_unitsAt (-v_tenPower) v_text) := hD
        refine lv_iconst (v := 1) hx hb dX1_scanPower_119 (by decide) ?_
        obtain ⟨h09, h19⟩ := rt2 h
        subst o_r
        subst o_tenPower
        exact W.zret hx hb hr rfl (fun t ht hW => ⟨⟨_, (), rfl, rfl, by rw [ht]; exact hP, va_K.moved hW.alike hK, hD⟩, hS.F ht⟩) hS.2.2 dX1_scanPower_120
    · have h := (if_neg c9).symm.trans h
      refine lv_aload_n hx hb dX1_scanPower_78 rfl (lv_at hl 0 rfl) ?_
      refine lv_aload_n hx hb dX1_scanPower_79 rfl (lv_at hl 0 rfl) ?_
      refine va_get (D := (dC, dI)) (ci := 1) (v := .int v_tenPower) (C := RX1) (T := TX1) (N := 10) hx hb hws inlX1 hown hK hP 0 rfl rfl 5 (by decide) (hws _ ww_91) (fun _ h9 => h9) rfl dX1_scanPower_80 ?_
      refine lv_bipush (v := 10) hx hb dX1_scanPower_83 (by decide) ?_
      refine lv_imul hx hb dX1_scanPower_85 ?_
      refine lv_aload_n hx hb dX1_scanPower_86 rfl (lv_at hl 0 rfl) ?_
      refine va_get (D := (dC, dI)) (ci := 1) (v := .ref a_text) (C := RX1) (T := TX1) (N := 10) hx hb hws inlX1 hown hK hP 0 rfl rfl 0 (by decide) (hws _ ww_15) (fun _ h9 => h9) rfl dX1_scanPower_87 ?_
      refine lv_iload hx hb dX1_scanPower_90 (lv_at hl 3 rfl) ?_
      obtain ⟨hi, h⟩ := gd h
      refine va_iald hx hb hK hP 1 0 rfl rfl hi dX1_scanPower_92 ?_
      refine lv_iadd hx hb dX1_scanPower_93 ?_
      refine lv_bipush (v := 48) hx hb dX1_scanPower_94 (by decide) ?_
      refine lv_isub hx hb dX1_scanPower_96 ?_
      refine va_put (D := (dC, dI)) (ci := 1) (v := .int (((v_tenPower * 10) + (v_text (Int32.toNatClampNeg l5))) - 48)) (ty := .int) (C := RX1) (T := TX1) (N := 10) hx hb hws inlX1 tyX1 tyX1_ok nmX1 hown hK hP hD hS 0 rfl rfl 5 (by decide) (hws _ ww_91) (fun _ h9 => h9) rfl (by decide +kernel) rfl rfl (Nat.le_of_ble_eq_true rfl) dX1_scanPower_97 (fun H locs hP hD hS => ?_)
      have hP : va_P (dC, dI) vwCl (wd_X1_scanPower a_this a_text a_number a_rounded a_lowEdge a_highEdge c_text v_length v_digitsStart v_digitsEnd v_unitsAt (((v_tenPower * 10) + (v_text (Int32.toNatClampNeg l5))) - 48) v_text) H := hP
      have hD : va_D A (wd_X1_scanPower a_this a_text a_number a_rounded a_lowEdge a_highEdge c_text v_length v_digitsStart v_digitsEnd v_unitsAt (((v_tenPower * 10) + (v_text (Int32.toNatClampNeg l5))) - 48) v_text) := hD
      refine lv_iinc (v := (l5 + 1)) (lv' := [(5, .int (l5 + 1)), (0, .ref a_this), (2, .int l2), (4, .int l4)]) hx hb dX1_scanPower_100 hl (k := 3) rfl rfl (by decide) rfl (fun ls hl => ?_)
      refine lv_goto (tgt := 71) hx hb dX1_scanPower_103 (by decide) ?_
      exact ih l2 l4 (l5 + 1) v_length v_digitsStart v_digitsEnd v_unitsAt (((v_tenPower * 10) + (v_text (Int32.toNatClampNeg l5))) - 48) v_text o_r o_tenPower h H locs hK hP hD hS ls (lv_sub hl [1, 2, 3, 0] rfl)
set_option maxHeartbeats 4000000 in
set_option maxRecDepth 100000 in
theorem w_X1_scanPower_35 (l : Launch) {p : Program} {e : Env} {s : State} {m : MethodId} {args : Array Value} {below : List Frame} {meth : Method} {c : Code} {A : Nat → Prop} {dC : Nat → ClassId} {dI : Nat → Nat → Nat} (a_this a_text a_number a_rounded a_lowEdge a_highEdge : Nat) (c_text : ClassId) (hx : p.tables.exec = Jvm.exec) (hb : c.code = cX1_scanPower) (hr : meth.sig.returnType = (some .boolean)) (hml : c.maxLocals = 6) (hown : s.vm.findClass RX1 = some m.cls) (hws : ∀ w ∈ wsL_law, w.before args s = true) (hlocks : meth.locks = false) (hA : ∀ q : Nat, s.heap.size ≤ q → A q) : ∀ (l2 : Int32) (s0 : Int32) (v_length : Int32) (v_digitsStart : Int32) (v_digitsEnd : Int32) (v_unitsAt : Int32) (v_tenPower : Int32) (v_text : Nat → Int32) (o_r : Int32) (o_tenPower : Int32), f_X1_scanPower_b35 l2 s0 v_length v_tenPower v_text = some (o_r, o_tenPower) → ∀ (H : Heap) (locs : List Loc), va_K (dC, dI) vwCl [(c_text, .int)] s → va_P (dC, dI) vwCl (wd_X1_scanPower a_this a_text a_number a_rounded a_lowEdge a_highEdge c_text v_length v_digitsStart v_digitsEnd v_unitsAt v_tenPower v_text) H → va_D A (wd_X1_scanPower a_this a_text a_number a_rounded a_lowEdge a_highEdge c_text v_length v_digitsStart v_digitsEnd v_unitsAt v_tenPower v_text) → va_S A s.heap H locs → ∀ (ls : Array Slot), lv_has ls 6 [(0, .ref a_this), (2, .int l2)] → W p l e (headSpec (w_X1_scanPower) ({ frames := 1, cells := 0, slots := 0, locals := 22 } : Room)).room s m args below meth c H locs 0 0 (MQ below (va_Qi (fun r9 (_ : Unit) => r9 = o_r) (fun (_ : Unit) t => va_P (dC, dI) vwCl (wd_X1_scanPower a_this a_text a_number a_rounded a_lowEdge a_highEdge c_text v_length v_digitsStart v_digitsEnd v_unitsAt o_tenPower v_text) t.heap ∧ va_K (dC, dI) vwCl [(c_text, .int)] t ∧ va_D A (wd_X1_scanPower a_this a_text a_number a_rounded a_lowEdge a_highEdge c_text v_length v_digitsStart v_digitsEnd v_unitsAt o_tenPower v_text)) A) args s 0 0 A) (F0 m 35 ls [.int s0]) := by
  intro l2 s0 v_length v_digitsStart v_digitsEnd v_unitsAt v_tenPower v_text o_r o_tenPower h H locs hK hP hD hS ls hl
  unfold f_X1_scanPower_b35 at h
  refine lv_istore_n (lv' := [(3, .int s0), (0, .ref a_this), (2, .int l2)]) hx hb dX1_scanPower_35 rfl hl (by decide) rfl (fun ls hl => ?_)
  refine lv_aload_n hx hb dX1_scanPower_36 rfl (lv_at hl 1 rfl) ?_
  refine lv_iload_n hx hb dX1_scanPower_37 rfl (lv_at hl 0 rfl) ?_
  obtain ⟨r38, hc, h⟩ := bd h
  have hPc := hP.sub (ws' := (wd_X1_endOfDigits a_this a_text a_number a_rounded a_lowEdge a_highEdge c_text v_length v_digitsStart v_digitsEnd v_unitsAt v_tenPower v_text)) [0, 1] rfl
  have hDc := hD.sub (ws' := (wd_X1_endOfDigits a_this a_text a_number a_rounded a_lowEdge a_highEdge c_text v_length v_digitsStart v_digitsEnd v_unitsAt v_tenPower v_text)) [0, 1] (by decide) rfl
  have hKc := hK.sub (tys' := [(c_text, .int)]) [0] rfl
  have hFc := va_free (wc := (wd_X1_endOfDigits a_this a_text a_number a_rounded a_lowEdge a_highEdge c_text v_length v_digitsStart v_digitsEnd v_unitsAt v_tenPower v_text)) hD hS hA [0, 1] rfl
  refine va_calli (va_runV (As := [.int s0]) (rest := []) ⟨hx, hb, hml, hown, hws⟩ (c_X1_endOfDigits l dC dI  a_this a_text a_number a_rounded a_lowEdge a_highEdge c_text (Array.size H) s0 v_length v_digitsStart v_digitsEnd v_unitsAt v_tenPower v_text r38 hc) (cwV 1 hws (gV ww_96 ww_97 ww_98 ww_2 ww_99) rfl rfl rfl (by decide +kernel) ⟨Nat.le_of_ble_eq_true rfl, Nat.le_of_ble_eq_true rfl⟩) ⟨(fun a U g mk q => by obtain ⟨q0, q1, qP, qK, qD⟩ := q; exact ⟨q0, q1, qP, va_K.moved (u := U) (U := U.calling g mk a) (Vm.Alike.refl U.vm) qK, qD⟩), va_recv hKc hPc (ci := 1) (q0 := 0) rfl rfl, (fun U hU hW => ⟨rfl, by rw [hU], by rw [hU]; exact hPc, va_K.moved hW.alike hKc, hDc.weaken (fun _ _ _ _ => trivial)⟩)⟩ rfl rfl hl.1 rfl (lv_room (Nat.le_of_ble_eq_true rfl)) dX1_scanPower_38 ⟨Nat.zero_le _, Nat.zero_le _⟩) hS (fun q _ h => hFc q h) hFc (fun r9 u9 t H1 locs ht hvm hw hB hz1 hk1 hS => ?_)
  obtain ⟨hP1, hK1, hD1⟩ := hB
  rw [ht] at hP1
  subst r9
  obtain ⟨hP, hD⟩ := va_join (wr := []) (w1 := (wd_X1_endOfDigits a_this a_text a_number a_rounded a_lowEdge a_highEdge c_text v_length v_digitsStart v_digitsEnd v_unitsAt v_tenPower v_text)) hP hD [0, 1] [] rfl rfl (by decide) (by decide) hk1 hFc hP1 hD1
  generalize H1 = H at hP hS ⊢
  have hP : va_P (dC, dI) vwCl (wd_X1_scanPower a_this a_text a_number a_rounded a_lowEdge a_highEdge c_text v_length v_digitsStart v_digitsEnd v_unitsAt v_tenPower v_text) H := hP.sub [0, 1] rfl
  have hD : va_D A (wd_X1_scanPower a_this a_text a_number a_rounded a_lowEdge a_highEdge c_text v_length v_digitsStart v_digitsEnd v_unitsAt v_tenPower v_text) := hD.sub [0, 1] (by decide) rfl
  clear hP1 hK1 hD1 hPc hDc hKc hFc hk1 hz1 ht hvm
  refine lv_istore (lv' := [(4, .int r38), (3, .int s0), (0, .ref a_this), (2, .int l2)]) hx hb dX1_scanPower_41 hl (by decide) rfl (fun ls hl => ?_)
  refine lv_iload hx hb dX1_scanPower_43 (lv_at hl 0 rfl) ?_
  refine lv_iload_n hx hb dX1_scanPower_45 rfl (lv_at hl 1 rfl) ?_
  refine lv_icmp_eq (tgt := 66) hx hb dX1_scanPower_46 (by decide) (fun c9 => ?_) (fun c9 => ?_)
  · have h := (if_pos c9).symm.trans h
    refine lv_iconst (v := 0) hx hb dX1_scanPower_66 (by decide) ?_
    obtain ⟨h09, h19⟩ := rt2 h
    subst o_r
    subst o_tenPower
    exact W.zret hx hb hr rfl (fun t ht hW => ⟨⟨_, (), rfl, rfl, by rw [ht]; exact hP, va_K.moved hW.alike hK, hD⟩, hS.F ht⟩) hS.2.2 dX1_scanPower_67
  · have h := (if_neg c9).symm.trans h
    refine lv_iload hx hb dX1_scanPower_49 (lv_at hl 0 rfl) ?_
    refine lv_iload_n hx hb dX1_scanPower_51 rfl (lv_at hl 1 rfl) ?_
    refine lv_isub hx hb dX1_scanPower_52 ?_
    refine lv_iconst (v := 4) hx hb dX1_scanPower_53 (by decide) ?_
    refine lv_icmp_gt (tgt := 66) hx hb dX1_scanPower_54 (by decide) (fun c9 => ?_) (fun c9 => ?_)
    · have h := (if_pos c9).symm.trans h
      refine lv_iconst (v := 0) hx hb dX1_scanPower_66 (by decide) ?_
      obtain ⟨h09, h19⟩ := rt2 h
      subst o_r
      subst o_tenPower
      exact W.zret hx hb hr rfl (fun t ht hW => ⟨⟨_, (), rfl, rfl, by rw [ht]; exact hP, va_K.moved hW.alike hK, hD⟩, hS.F ht⟩) hS.2.2 dX1_scanPower_67
    · have h := (if_neg c9).symm.trans h
      refine lv_iload hx hb dX1_scanPower_57 (lv_at hl 0 rfl) ?_
      refine lv_aload_n hx hb dX1_scanPower_59 rfl (lv_at hl 2 rfl) ?_
      refine va_get (D := (dC, dI)) (ci := 1) (v := .int v_length) (C := RX1) (T := TX1) (N := 10) hx hb hws inlX1 hown hK hP 0 rfl rfl 1 (by decide) (hws _ ww_43) (fun _ h9 => h9) rfl dX1_scanPower_60 ?_
      refine lv_icmp_eq (tgt := 68) hx hb dX1_scanPower_63 (by decide) (fun c9 => ?_) (fun c9 => ?_)
      · have h := (if_pos c9).symm.trans h
        refine lv_iload_n hx hb dX1_scanPower_68 rfl (lv_at hl 1 rfl) ?_
        refine lv_istore (lv' := [(5, .int s0), (4, .int r38), (3, .int s0), (0, .ref a_this), (2, .int l2)]) hx hb dX1_scanPower_69 hl (by decide) rfl (fun ls hl => ?_)
        exact w_X1_scanPower_71 l a_this a_text a_number a_rounded a_lowEdge a_highEdge c_text hx hb hr hml hown hws hlocks hA FU l2 r38 s0 v_length v_digitsStart v_digitsEnd v_unitsAt v_tenPower v_text o_r o_tenPower h H locs hK hP hD hS ls (lv_sub hl [3, 4, 1, 0] rfl)
      · have h := (if_neg c9).symm.trans h
        refine lv_iconst (v := 0) hx hb dX1_scanPower_66 (by decide) ?_
        obtain ⟨h09, h19⟩ := rt2 h
        subst o_r
        subst o_tenPower
        exact W.zret hx hb hr rfl (fun t ht hW => ⟨⟨_, (), rfl, rfl, by rw [ht]; exact hP, va_K.moved hW.alike hK, hD⟩, hS.F ht⟩) hS.2.2 dX1_scanPower_67
set_option maxHeartbeats 4000000 in
set_option maxRecDepth 100000 in
theorem c_X1_scanPower (l : Launch) (dC : Nat → ClassId) (dI : Nat → Nat → Nat)  (a_this a_text a_number a_rounded a_lowEdge a_highEdge : Nat) (c_text : ClassId) (sz : Nat) (l1 : Int32) (v_length : Int32) (v_digitsStart : Int32) (v_digitsEnd : Int32) (v_unitsAt : Int32) (v_tenPower : Int32) (v_text : Nat → Int32) (o_r : Int32) (o_tenPower : Int32) (h : f_X1_scanPower l1 v_length v_tenPower v_text = some (o_r, o_tenPower)) : Met l yX1_scanPower w_X1_scanPower ({ frames := 1, cells := 0, slots := 0, locals := 22 } : Room) (va_Pc [.ref a_this, .int l1] (fun U => U.heap.size = sz ∧ va_P (dC, dI) vwCl (wd_X1_scanPower a_this a_text a_number a_rounded a_lowEdge a_highEdge c_text v_length v_digitsStart v_digitsEnd v_unitsAt v_tenPower v_text) U.heap ∧ va_K (dC, dI) vwCl [(c_text, .int)] U ∧ va_D (fun _ => True) (wd_X1_scanPower a_this a_text a_number a_rounded a_lowEdge a_highEdge c_text v_length v_digitsStart v_digitsEnd v_unitsAt v_tenPower v_text))) (va_Qi (fun r9 (_ : Unit) => r9 = o_r) (fun (_ : Unit) t => va_P (dC, dI) vwCl (wd_X1_scanPower a_this a_text a_number a_rounded a_lowEdge a_highEdge c_text v_length v_digitsStart v_digitsEnd v_unitsAt o_tenPower v_text) t.heap ∧ va_K (dC, dI) vwCl [(c_text, .int)] t ∧ va_D (va_A (wd_X1_scanPower a_this a_text a_number a_rounded a_lowEdge a_highEdge c_text v_length v_digitsStart v_digitsEnd v_unitsAt v_tenPower v_text) sz) (wd_X1_scanPower a_this a_text a_number a_rounded a_lowEdge a_highEdge c_text v_length v_digitsStart v_digitsEnd v_unitsAt o_tenPower v_text)) (va_A (wd_X1_scanPower a_this a_text a_number a_rounded a_lowEdge a_highEdge c_text v_length v_digitsStart v_digitsEnd v_unitsAt v_tenPower v_text) sz)) 0 0 (va_A (wd_X1_scanPower a_this a_text a_number a_rounded a_lowEdge a_highEdge c_text v_length v_digitsStart v_digitsEnd v_unitsAt v_tenPower v_text) sz) := by
  refine Met.ofW (cc := cX1_scanPower) (maxL := 6) (ret := (some .boolean)) (by decide) rfl ?_
  intro p e s m args below meth c s₁ B hml hv
  obtain ⟨rfl, hsz, hP, hK, hD0⟩ := hv
  have hx := B.exec
  have hb := B.bytes
  have hr := B.returns
  have hws : ∀ w ∈ wsL_law, w.before _ s = true := fun w hw => atoms_spec (ws := w_X1_scanPower) B.pre w (List.mem_cons_of_mem _ hw)
  have hown : s.vm.findClass RX1 = some m.cls := findClass_of_methodNamed B.named
  have hlocks := B.notSynchronized
  subst hsz
  have hD := hD0.self (sz := s.heap.size)
  generalize hAe : va_A (wd_X1_scanPower a_this a_text a_number a_rounded a_lowEdge a_highEdge c_text v_length v_digitsStart v_digitsEnd v_unitsAt v_tenPower v_text) s.heap.size = A at hD ⊢
  have hA : ∀ q : Nat, s.heap.size ≤ q → A q := fun q h => by rw [← hAe]; exact Or.inr h
  have hS : va_S A s.heap s.heap [] := va_S.rf
  have hl := lv_entry ([.ref a_this, .int l1]) (n := 6) (Nat.le_of_ble_eq_true rfl)
  rw [lg_entry_eq]
  generalize (lg_sl ([.ref a_this, .int l1]) ++ List.replicate (6 - (lg_sl ([.ref a_this, .int l1])).length) Slot.unset).toArray = ls at hl ⊢
  have hl : lv_has ls 6 [(0, .ref a_this), (1, .int l1)] := hl
  unfold f_X1_scanPower at h
  refine lv_aload_n hx hb dX1_scanPower_0 rfl (lv_at hl 0 rfl) ?_
  refine lv_iload_n hx hb dX1_scanPower_1 rfl (lv_at hl 1 rfl) ?_
  refine lv_bipush (v := 101) hx hb dX1_scanPower_2 (by decide) ?_
  obtain ⟨r4, hc, h⟩ := bd h
  have hPc := hP.sub (ws' := (wd_X1_isAt a_this a_text a_number a_rounded a_lowEdge a_highEdge c_text v_length v_digitsStart v_digitsEnd v_unitsAt v_tenPower v_text)) [0, 1] rfl
  have hDc := hD.sub (ws' := (wd_X1_isAt a_this a_text a_number a_rounded a_lowEdge a_highEdge c_text v_length v_digitsStart v_digitsEnd v_unitsAt v_tenPower v_text)) [0, 1] (by decide) rfl
  have hKc := hK.sub (tys' := [(c_text, .int)]) [0] rfl
  have hFc := va_free (wc := (wd_X1_isAt a_this a_text a_number a_rounded a_lowEdge a_highEdge c_text v_length v_digitsStart v_digitsEnd v_unitsAt v_tenPower v_text)) hD hS hA [0, 1] rfl
  refine va_calli (va_runV (As := [.int l1, .int 101]) (rest := []) ⟨hx, hb, hml, hown, hws⟩ (c_X1_isAt l dC dI  a_this a_text a_number a_rounded a_lowEdge a_highEdge c_text (Array.size s.heap) l1 101 v_length v_digitsStart v_digitsEnd v_unitsAt v_tenPower v_text r4 hc) (cwV 2 hws (gV ww_92 ww_93 ww_94 ww_2 ww_95) rfl rfl rfl (by decide +kernel) ⟨Nat.le_of_ble_eq_true rfl, Nat.le_of_ble_eq_true rfl⟩) ⟨(fun a U g mk q => by obtain ⟨q0, q1, qP, qK, qD⟩ := q; exact ⟨q0, q1, qP, va_K.moved (u := U) (U := U.calling g mk a) (Vm.Alike.refl U.vm) qK, qD⟩), va_recv hKc hPc (ci := 1) (q0 := 0) rfl rfl, (fun U hU hW => ⟨rfl, by rw [hU], by rw [hU]; exact hPc, va_K.moved hW.alike hKc, hDc.weaken (fun _ _ _ _ => trivial)⟩)⟩ rfl rfl hl.1 rfl (lv_room (Nat.le_of_ble_eq_true rfl)) dX1_scanPower_4 ⟨Nat.zero_le _, Nat.zero_le _⟩) hS (fun q _ h => hFc q h) hFc (fun r9 u9 t H1 locs ht hvm hw hB hz1 hk1 hS => ?_)
  obtain ⟨hP1, hK1, hD1⟩ := hB
  rw [ht] at hP1
  subst r9
  obtain ⟨hP, hD⟩ := va_join (wr := []) (w1 := (wd_X1_isAt a_this a_text a_number a_rounded a_lowEdge a_highEdge c_text v_length v_digitsStart v_digitsEnd v_unitsAt v_tenPower v_text)) hP hD [0, 1] [] rfl rfl (by decide) (by decide) hk1 hFc hP1 hD1
  generalize H1 = H at hP hS ⊢
  have hP : va_P (dC, dI) vwCl (wd_X1_scanPower a_this a_text a_number a_rounded a_lowEdge a_highEdge c_text v_length v_digitsStart v_digitsEnd v_unitsAt v_tenPower v_text) H := hP.sub [0, 1] rfl
  have hD : va_D A (wd_X1_scanPower a_this a_text a_number a_rounded a_lowEdge a_highEdge c_text v_length v_digitsStart v_digitsEnd v_unitsAt v_tenPower v_text) := hD.sub [0, 1] (by decide) rfl
  clear hP1 hK1 hD1 hPc hDc hKc hFc hk1 hz1 ht hvm
  refine lv_if_ne (tgt := 12) hx hb dX1_scanPower_7 (by decide) (fun c9 => ?_) (fun c9 => ?_)
  · have h := (if_neg c9).symm.trans h
    refine lv_aload_n hx hb dX1_scanPower_12 rfl (lv_at hl 0 rfl) ?_
    refine lv_iload_n hx hb dX1_scanPower_13 rfl (lv_at hl 1 rfl) ?_
    refine lv_iconst (v := 1) hx hb dX1_scanPower_14 (by decide) ?_
    refine lv_iadd hx hb dX1_scanPower_15 ?_
    refine lv_bipush (v := 45) hx hb dX1_scanPower_16 (by decide) ?_
    obtain ⟨r18, hc, h⟩ := bd h
    have hPc := hP.sub (ws' := (wd_X1_isAt a_this a_text a_number a_rounded a_lowEdge a_highEdge c_text v_length v_digitsStart v_digitsEnd v_unitsAt v_tenPower v_text)) [0, 1] rfl
    have hDc := hD.sub (ws' := (wd_X1_isAt a_this a_text a_number a_rounded a_lowEdge a_highEdge c_text v_length v_digitsStart v_digitsEnd v_unitsAt v_tenPower v_text)) [0, 1] (by decide) rfl
    have hKc := hK.sub (tys' := [(c_text, .int)]) [0] rfl
    have hFc := va_free (wc := (wd_X1_isAt a_this a_text a_number a_rounded a_lowEdge a_highEdge c_text v_length v_digitsStart v_digitsEnd v_unitsAt v_tenPower v_text)) hD hS hA [0, 1] rfl
    refine va_calli (va_runV (As := [.int (l1 + 1), .int 45]) (rest := []) ⟨hx, hb, hml, hown, hws⟩ (c_X1_isAt l dC dI  a_this a_text a_number a_rounded a_lowEdge a_highEdge c_text (Array.size H) (l1 + 1) 45 v_length v_digitsStart v_digitsEnd v_unitsAt v_tenPower v_text r18 hc) (cwV 2 hws (gV ww_92 ww_93 ww_94 ww_2 ww_95) rfl rfl rfl (by decide +kernel) ⟨Nat.le_of_ble_eq_true rfl, Nat.le_of_ble_eq_true rfl⟩) ⟨(fun a U g mk q => by obtain ⟨q0, q1, qP, qK, qD⟩ := q; exact ⟨q0, q1, qP, va_K.moved (u := U) (U := U.calling g mk a) (Vm.Alike.refl U.vm) qK, qD⟩), va_recv hKc hPc (ci := 1) (q0 := 0) rfl rfl, (fun U hU hW => ⟨rfl, by rw [hU], by rw [hU]; exact hPc, va_K.moved hW.alike hKc, hDc.weaken (fun _ _ _ _ => trivial)⟩)⟩ rfl rfl hl.1 rfl (lv_room (Nat.le_of_ble_eq_true rfl)) dX1_scanPower_18 ⟨Nat.zero_le _, Nat.zero_le _⟩) hS (fun q _ h => hFc q h) hFc (fun r9 u9 t H1 locs ht hvm hw hB hz1 hk1 hS => ?_)
    obtain ⟨hP1, hK1, hD1⟩ := hB
    rw [ht] at hP1
    subst r9
    obtain ⟨hP, hD⟩ := va_join (wr := []) (w1 := (wd_X1_isAt a_this a_text a_number a_rounded a_lowEdge a_highEdge c_text v_length v_digitsStart v_digitsEnd v_unitsAt v_tenPower v_text)) hP hD [0, 1] [] rfl rfl (by decide) (by decide) hk1 hFc hP1 hD1
    generalize H1 = H at hP hS ⊢
    have hP : va_P (dC, dI) vwCl (wd_X1_scanPower a_this a_text a_number a_rounded a_lowEdge a_highEdge c_text v_length v_digitsStart v_digitsEnd v_unitsAt v_tenPower v_text) H := hP.sub [0, 1] rfl
    have hD : va_D A (wd_X1_scanPower a_this a_text a_number a_rounded a_lowEdge a_highEdge c_text v_length v_digitsStart v_digitsEnd v_unitsAt v_tenPower v_text) := hD.sub [0, 1] (by decide) rfl
    clear hP1 hK1 hD1 hPc hDc hKc hFc hk1 hz1 ht hvm
    refine lv_istore_n (lv' := [(2, .int r18), (0, .ref a_this), (1, .int l1)]) hx hb dX1_scanPower_21 rfl hl (by decide) rfl (fun ls hl => ?_)
    refine lv_iload_n hx hb dX1_scanPower_22 rfl (lv_at hl 0 rfl) ?_
    refine lv_if_eq (tgt := 32) hx hb dX1_scanPower_23 (by decide) (fun c9 => ?_) (fun c9 => ?_)
    · have h := (if_pos c9).symm.trans h
      refine lv_iload_n hx hb dX1_scanPower_32 rfl (lv_at hl 2 rfl) ?_
      refine lv_iconst (v := 1) hx hb dX1_scanPower_33 (by decide) ?_
      refine lv_iadd hx hb dX1_scanPower_34 ?_
      exact w_X1_scanPower_35 l a_this a_text a_number a_rounded a_lowEdge a_highEdge c_text hx hb hr hml hown hws hlocks hA r18 (l1 + 1) v_length v_digitsStart v_digitsEnd v_unitsAt v_tenPower v_text o_r o_tenPower h H locs hK hP hD hS ls (lv_sub hl [1, 0] rfl)
    · have h := (if_neg c9).symm.trans h
      refine lv_iload_n hx hb dX1_scanPower_26 rfl (lv_at hl 2 rfl) ?_
      refine lv_iconst (v := 2) hx hb dX1_scanPower_27 (by decide) ?_
      refine lv_iadd hx hb dX1_scanPower_28 ?_
      refine lv_goto (tgt := 35) hx hb dX1_scanPower_29 (by decide) ?_
      exact w_X1_scanPower_35 l a_this a_text a_number a_rounded a_lowEdge a_highEdge c_text hx hb hr hml hown hws hlocks hA r18 (l1 + 2) v_length v_digitsStart v_digitsEnd v_unitsAt v_tenPower v_text o_r o_tenPower h H locs hK hP hD hS ls (lv_sub hl [1, 0] rfl)
  · have h := (if_pos c9).symm.trans h
    refine lv_iconst (v := 0) hx hb dX1_scanPower_10 (by decide) ?_
    obtain ⟨h09, h19⟩ := rt2 h
    subst o_r
    subst o_tenPower
    exact W.zret hx hb hr rfl (fun t ht hW => ⟨⟨_, (), rfl, rfl, by rw [ht]; exact hP, va_K.moved hW.alike hK, hD⟩, hS.F ht⟩) hS.2.2 dX1_scanPower_11
