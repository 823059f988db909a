set_option maxHeartbeats 4000000 in
set_option maxRecDepth 100000 in
theorem w_X1_scanNumeral_93 (l : Launch) {p : Program} {e : Env} {s : State} {m : MethodId} {args : Array Value} {below : List Frame} {meth : Method} {c : Code} {A : Nat → Prop} {dC : Nat → ClassId} {dI : Nat → Nat → Nat} (a_this a_text a_number a_rounded a_lowEdge a_highEdge : Nat) (c_text : ClassId) (hx : p.tables.exec = Jvm.exec) (hb : c.code = cX1_scanNumeral) (hr : meth.sig.returnType = (some .boolean)) (hml : c.maxLocals = 2) (hown : s.vm.findClass RX1 = some m.cls) (hws : ∀ w ∈ wsL_law, w.before args s = true) (hlocks : meth.locks = false) (hA : ∀ q : Nat, s.heap.size ≤ q → A q) : ∀  (v_length : Int32) (v_digitsStart : Int32) (v_digitsEnd : Int32) (v_unitsAt : Int32) (v_tenPower : Int32) (v_text : Nat → Int32) (o_r : Int32) (o_digitsStart : Int32) (o_digitsEnd : Int32) (o_unitsAt : Int32) (o_tenPower : Int32), f_X1_scanNumeral_b93 v_length v_digitsStart v_digitsEnd v_unitsAt v_tenPower v_text = some (o_r, o_digitsStart, o_digitsEnd, o_unitsAt, o_tenPower) → ∀ (H : Heap) (locs : List Loc), va_K (dC, dI) vwCl [(c_text, .int)] s → va_P (dC, dI) vwCl (wd_X1_scanNumeral a_this a_text a_number a_rounded a_lowEdge a_highEdge c_text v_length v_digitsStart v_digitsEnd v_unitsAt v_tenPower v_text) H → va_D A (wd_X1_scanNumeral a_this a_text a_number a_rounded a_lowEdge a_highEdge c_text v_length v_digitsStart v_digitsEnd v_unitsAt v_tenPower v_text) → va_S A s.heap H locs → ∀ (ls : Array Slot), lv_has ls 2 [(0, .ref a_this)] → W p l e (headSpec (w_X1_scanNumeral) ({ frames := 2, cells := 0, slots := 0, locals := 47 } : Room)).room s m args below meth c H locs 0 0 (MQ below (va_Qi (fun r9 (_ : Unit) => r9 = o_r) (fun (_ : Unit) t => va_P (dC, dI) vwCl (wd_X1_scanNumeral a_this a_text a_number a_rounded a_lowEdge a_highEdge c_text v_length o_digitsStart o_digitsEnd o_unitsAt o_tenPower v_text) t.heap ∧ va_K (dC, dI) vwCl [(c_text, .int)] t ∧ va_D A (wd_X1_scanNumeral a_this a_text a_number a_rounded a_lowEdge a_highEdge c_text v_length o_digitsStart o_digitsEnd o_unitsAt o_tenPower v_text)) A) args s 0 0 A) (F0 m 93 ls []) := by
  intro v_length v_digitsStart v_digitsEnd v_unitsAt v_tenPower v_text o_r o_digitsStart o_digitsEnd o_unitsAt o_tenPower h H locs hK hP hD hS ls hl
  unfold f_X1_scanNumeral_b93 at h
  refine lv_aload_n hx hb dX1_scanNumeral_93 rfl (lv_at hl 0 rfl) ?_
  refine lv_iconst (v := 0) hx hb dX1_scanNumeral_94 (by decide) ?_
  refine va_put (D := (dC, dI)) (ci := 1) (v := .int 0) (ty := .int) (C := RX1) (T := TX1) (N := 10) hx hb hws inlX1 tyX1 tyX1_ok nmX1 hown hK hP hD hS 0 rfl rfl 5 (by decide) (hws _ ww_91) (fun _ h9 => h9) rfl (by decide +kernel) rfl rfl (Nat.le_of_ble_eq_true rfl) dX1_scanNumeral_95 (fun H locs hP hD hS => ?_)
  have hP : va_P (dC, dI) vwCl (wd_X1_scanNumeral a_this a_text a_number a_rounded a_lowEdge a_highEdge c_text v_length v_digitsStart v_digitsEnd v_unitsAt 0 v_text) H := hP
  have hD : va_D A (wd_X1_scanNumeral a_this a_text a_number a_rounded a_lowEdge a_highEdge c_text v_length v_digitsStart v_digitsEnd v_unitsAt 0 v_text) := hD
  refine lv_aload_n hx hb dX1_scanNumeral_98 rfl (lv_at hl 0 rfl) ?_
  refine va_get (D := (dC, dI)) (ci := 1) (v := .int v_digitsEnd) (C := RX1) (T := TX1) (N := 10) hx hb hws inlX1 hown hK hP 0 rfl rfl 3 (by decide) (hws _ ww_89) (fun _ h9 => h9) rfl dX1_scanNumeral_99 ?_
  refine lv_aload_n hx hb dX1_scanNumeral_102 rfl (lv_at hl 0 rfl) ?_
  refine va_get (D := (dC, dI)) (ci := 1) (v := .int v_length) (C := RX1) (T := TX1) (N := 10) hx hb hws inlX1 hown hK hP 0 rfl rfl 1 (by decide) (hws _ ww_43) (fun _ h9 => h9) rfl dX1_scanNumeral_103 ?_
  refine lv_icmp_eq (tgt := 120) hx hb dX1_scanNumeral_106 (by decide) (fun c9 => ?_) (fun c9 => ?_)
  · have h := (if_pos c9).symm.trans h
    refine lv_iconst (v := 1) hx hb dX1_scanNumeral_120 (by decide) ?_
    refine lv_goto (tgt := 125) hx hb dX1_scanNumeral_121 (by decide) ?_
    obtain ⟨h09, h19, h29, h39, h49⟩ := rt5 h
    subst o_r
    subst o_digitsStart
    subst o_digitsEnd
    subst o_unitsAt
    subst o_tenPower
    exact W.zret hx hb hr rfl (fun t ht hW => ⟨⟨_, (), rfl, rfl, by rw [ht]; exact hP, va_K.moved hW.alike hK, hD⟩, hS.F ht⟩) hS.2.2 dX1_scanNumeral_125
  · have h := (if_neg c9).symm.trans h
    refine lv_aload_n hx hb dX1_scanNumeral_109 rfl (lv_at hl 0 rfl) ?_
    refine lv_aload_n hx hb dX1_scanNumeral_110 rfl (lv_at hl 0 rfl) ?_
    refine va_get (D := (dC, dI)) (ci := 1) (v := .int v_digitsEnd) (C := RX1) (T := TX1) (N := 10) hx hb hws inlX1 hown hK hP 0 rfl rfl 3 (by decide) (hws _ ww_89) (fun _ h9 => h9) rfl dX1_scanNumeral_111 ?_
    obtain ⟨⟨r114, v_tenPower_114⟩, hc, h⟩ := bd h
    dsimp only at h
    have hPc := hP.sub (ws' := (wd_X1_scanPower a_this a_text a_number a_rounded a_lowEdge a_highEdge c_text v_length v_digitsStart v_digitsEnd v_unitsAt 0 v_text)) [0, 1] rfl
    have hDc := hD.sub (ws' := (wd_X1_scanPower a_this a_text a_number a_rounded a_lowEdge a_highEdge c_text v_length v_digitsStart v_digitsEnd v_unitsAt 0 v_text)) [0, 1] (by decide) rfl
    have hKc := hK.sub (tys' := [(c_text, .int)]) [0] rfl
    have hFc := va_free (wc := (wd_X1_scanPower a_this a_text a_number a_rounded a_lowEdge a_highEdge c_text v_length v_digitsStart v_digitsEnd v_unitsAt 0 v_text)) hD hS hA [0, 1] rfl
    refine va_calli (va_runV (As := [.int v_digitsEnd]) (rest := []) ⟨hx, hb, hml, hown, hws⟩ (c_X1_scanPower l dC dI  a_this a_text a_number a_rounded a_lowEdge a_highEdge c_text (Array.size H) v_digitsEnd v_length v_digitsStart v_digitsEnd v_unitsAt 0 v_text r114 v_tenPower_114 hc) (cwV 1 hws (gV ww_100 ww_101 ww_102 ww_2 ww_103) rfl rfl rfl (by decide +kernel) ⟨Nat.le_of_ble_eq_true rfl, Nat.le_of_ble_eq_true rfl⟩) ⟨(fun a U g mk q => by obtain ⟨q0, q1, qP, qK, qD⟩ := q; exact ⟨q0, q1, qP, va_K.moved (u := U) (U := U.calling g mk a) (Vm.Alike.refl U.vm) qK, qD⟩), va_recv hKc hPc (ci := 1) (q0 := 0) rfl rfl, (fun U hU hW => ⟨rfl, by rw [hU], by rw [hU]; exact hPc, va_K.moved hW.alike hKc, hDc.weaken (fun _ _ _ _ => trivial)⟩)⟩ rfl rfl hl.1 rfl (lv_room (Nat.le_of_ble_eq_true rfl)) dX1_scanNumeral_114 ⟨Nat.zero_le _, Nat.zero_le _⟩) hS (fun q _ h => hFc q h) hFc (fun r9 u9 t H1 locs ht hvm hw hB hz1 hk1 hS => ?_)
    obtain ⟨hP1, hK1, hD1⟩ := hB
    rw [ht] at hP1
    subst r9
    obtain ⟨hP, hD⟩ := va_join (wr := []) (w1 := (wd_X1_scanPower a_this a_text a_number a_rounded a_lowEdge a_highEdge c_text v_length v_digitsStart v_digitsEnd v_unitsAt v_tenPower_114 v_text)) hP hD [0, 1] [] rfl rfl (by decide) (by decide) hk1 hFc hP1 hD1
    generalize H1 = H at hP hS ⊢
    have hP : va_P (dC, dI) vwCl (wd_X1_scanNumeral a_this a_text a_number a_rounded a_lowEdge a_highEdge c_text v_length v_digitsStart v_digitsEnd v_unitsAt v_tenPower_114 v_text) H := hP.sub [0, 1] rfl
    have hD : va_D A (wd_X1_scanNumeral a_this a_text a_number a_rounded a_lowEdge a_highEdge c_text v_length v_digitsStart v_digitsEnd v_unitsAt v_tenPower_114 v_text) := hD.sub [0, 1] (by decide) rfl
    clear hP1 hK1 hD1 hPc hDc hKc hFc hk1 hz1 ht hvm
    refine lv_if_eq (tgt := 124) hx hb dX1_scanNumeral_117 (by decide) (fun c9 => ?_) (fun c9 => ?_)
    · have h := (if_pos c9).symm.trans h
      refine lv_iconst (v := 0) hx hb dX1_scanNumeral_124 (by decide) ?_
      obtain ⟨h09, h19, h29, h39, h49⟩ := rt5 h
      subst o_r
      subst o_digitsStart
      subst o_digitsEnd
      subst o_unitsAt
      subst o_tenPower
      exact W.zret hx hb hr rfl (fun t ht hW => ⟨⟨_, (), rfl, rfl, by rw [ht]; exact hP, va_K.moved hW.alike hK, hD⟩, hS.F ht⟩) hS.2.2 dX1_scanNumeral_125
    · have h := (if_neg c9).symm.trans h
      refine lv_iconst (v := 1) hx hb dX1_scanNumeral_120 (by decide) ?_
      refine lv_goto (tgt := 125) hx hb dX1_scanNumeral_121 (by decide) ?_
      obtain ⟨h09, h19, h29, h39, h49⟩ := rt5 h
      subst o_r
      subst o_digitsStart
      subst o_digitsEnd
      subst o_unitsAt
      subst o_tenPower
      exact W.zret hx hb hr rfl (fun t ht hW => ⟨⟨_, (), rfl, rfl, by rw [ht]; exact hP, va_K.moved hW.alike hK, hD⟩, hS.F ht⟩) hS.2.2 dX1_scanNumeral_125
set_option maxHeartbeats 4000000 in
set_option maxRecDepth 100000 in
theorem w_X1_scanNumeral_16 (l : Launch) {p : Program} {e : Env} {s : State} {m : MethodId} {args : Array Value} {below : List Frame} {meth : Method} {c : Code} {A : Nat → Prop} {dC : Nat → ClassId} {dI : Nat → Nat → Nat} (a_this a_text a_number a_rounded a_lowEdge a_highEdge : Nat) (c_text : ClassId) (hx : p.tables.exec = Jvm.exec) (hb : c.code = cX1_scanNumeral) (hr : meth.sig.returnType = (some .boolean)) (hml : c.maxLocals = 2) (hown : s.vm.findClass RX1 = some m.cls) (hws : ∀ w ∈ wsL_law, w.before args s = true) (hlocks : meth.locks = false) (hA : ∀ q : Nat, s.heap.size ≤ q → A q) : ∀ (s1 : Int32) (v_length : Int32) (v_digitsStart : Int32) (v_digitsEnd : Int32) (v_unitsAt : Int32) (v_tenPower : Int32) (v_text : Nat → Int32) (o_r : Int32) (o_digitsStart : Int32) (o_digitsEnd : Int32) (o_unitsAt : Int32) (o_tenPower : Int32), f_X1_scanNumeral_b16 s1 v_length v_digitsStart v_digitsEnd v_unitsAt v_tenPower v_text = some (o_r, o_digitsStart, o_digitsEnd, o_unitsAt, o_tenPower) → ∀ (H : Heap) (locs : List Loc), va_K (dC, dI) vwCl [(c_text, .int)] s → va_P (dC, dI) vwCl (wd_X1_scanNumeral a_this a_text a_number a_rounded a_lowEdge a_highEdge c_text v_length v_digitsStart v_digitsEnd v_unitsAt v_tenPower v_text) H → va_D A (wd_X1_scanNumeral a_this a_text a_number a_rounded a_lowEdge a_highEdge c_text v_length v_digitsStart v_digitsEnd v_unitsAt v_tenPower v_text) → va_S A s.heap H locs → ∀ (ls : Array Slot), lv_has ls 2 [(0, .ref a_this)] → W p l e (headSpec (w_X1_scanNumeral) ({ frames := 2, cells := 0, slots := 0, locals := 47 } : Room)).room s m args below meth c H locs 0 0 (MQ below (va_Qi (fun r9 (_ : Unit) => r9 = o_r) (fun (_ : Unit) t => va_P (dC, dI) vwCl (wd_X1_scanNumeral a_this a_text a_number a_rounded a_lowEdge a_highEdge c_text v_length o_digitsStart o_digitsEnd o_unitsAt o_tenPower v_text) t.heap ∧ va_K (dC, dI) vwCl [(c_text, .int)] t ∧ va_D A (wd_X1_scanNumeral a_this a_text a_number a_rounded a_lowEdge a_highEdge c_text v_length o_digitsStart o_digitsEnd o_unitsAt o_tenPower v_text)) A) args s 0 0 A) (F0 m 16 ls [.int s1, .ref a_this]) := by
  intro s1 v_length v_digitsStart v_digitsEnd v_unitsAt v_tenPower v_text o_r o_digitsStart o_digitsEnd o_unitsAt o_tenPower h H locs hK hP hD hS ls hl
  unfold f_X1_scanNumeral_b16 at h
  refine va_put (D := (dC, dI)) (ci := 1) (v := .int s1) (ty := .int) (C := RX1) (T := TX1) (N := 10) hx hb hws inlX1 tyX1 tyX1_ok nmX1 hown hK hP hD hS 0 rfl rfl 2 (by decide) (hws _ ww_88) (fun _ h9 => h9) rfl (by decide +kernel) rfl rfl (Nat.le_of_ble_eq_true rfl) dX1_scanNumeral_16 (fun H locs hP hD hS => ?_)
  have hP : va_P (dC, dI) vwCl (wd_X1_scanNumeral a_this a_text a_number a_rounded a_lowEdge a_highEdge c_text v_length s1 v_digitsEnd v_unitsAt v_tenPower v_text) H := hP
  have hD : va_D A (wd_X1_scanNumeral a_this a_text a_number a_rounded a_lowEdge a_highEdge c_text v_length s1 v_digitsEnd v_unitsAt v_tenPower v_text) := hD
  refine lv_aload_n hx hb dX1_scanNumeral_19 rfl (lv_at hl 0 rfl) ?_
  refine lv_aload_n hx hb dX1_scanNumeral_20 rfl (lv_at hl 0 rfl) ?_
  refine lv_aload_n hx hb dX1_scanNumeral_21 rfl (lv_at hl 0 rfl) ?_
  refine va_get (D := (dC, dI)) (ci := 1) (v := .int s1) (C := RX1) (T := TX1) (N := 10) hx hb hws inlX1 hown hK hP 0 rfl rfl 2 (by decide) (hws _ ww_88) (fun _ h9 => h9) rfl dX1_scanNumeral_22 ?_
  obtain ⟨r25, hc, h⟩ := bd h
  have hPc := hP.sub (ws' := (wd_X1_endOfDigits a_this a_text a_number a_rounded a_lowEdge a_highEdge c_text v_length s1 v_digitsEnd v_unitsAt v_tenPower v_text)) [0, 1] rfl
  have hDc := hD.sub (ws' := (wd_X1_endOfDigits a_this a_text a_number a_rounded a_lowEdge a_highEdge c_text v_length s1 v_digitsEnd v_unitsAt v_tenPower v_text)) [0, 1] (by decide) rfl
  have hKc := hK.sub (tys' := [(c_text, .int)]) [0] rfl
  have hFc := va_free (wc := (wd_X1_endOfDigits a_this a_text a_number a_rounded a_lowEdge a_highEdge c_text v_length s1 v_digitsEnd v_unitsAt v_tenPower v_text)) hD hS hA [0, 1] rfl
  refine va_calli (va_runV (As := [.int s1]) (rest := [.ref a_this]) ⟨hx, hb, hml, hown, hws⟩ (c_X1_endOfDigits l dC dI  a_this a_text a_number a_rounded a_lowEdge a_highEdge c_text (Array.size H) s1 v_length s1 v_digitsEnd v_unitsAt v_tenPower v_text r25 hc) (cwV 1 hws (gV ww_96 ww_97 ww_98 ww_2 ww_99) rfl rfl rfl (by decide +kernel) ⟨Nat.le_of_ble_eq_true rfl, Nat.le_of_ble_eq_true rfl⟩) ⟨(fun a U g mk q => by obtain ⟨q0, q1, qP, qK, qD⟩ := q; exact ⟨q0, q1, qP, va_K.moved (u := U) (U := U.calling g mk a) (Vm.Alike.refl U.vm) qK, qD⟩), va_recv hKc hPc (ci := 1) (q0 := 0) rfl rfl, (fun U hU hW => ⟨rfl, by rw [hU], by rw [hU]; exact hPc, va_K.moved hW.alike hKc, hDc.weaken (fun _ _ _ _ => trivial)⟩)⟩ rfl rfl hl.1 rfl (lv_room (Nat.le_of_ble_eq_true rfl)) dX1_scanNumeral_25 ⟨Nat.zero_le _, Nat.zero_le _⟩) hS (fun q _ h => hFc q h) hFc (fun r9 u9 t H1 locs ht hvm hw hB hz1 hk1 hS => ?_)
  obtain ⟨hP1, hK1, hD1⟩ := hB
  rw [ht] at hP1
  subst r9
  obtain ⟨hP, hD⟩ := va_join (wr := []) (w1 := (wd_X1_endOfDigits a_this a_text a_number a_rounded a_lowEdge a_highEdge c_text v_length s1 v_digitsEnd v_unitsAt v_tenPower v_text)) hP hD [0, 1] [] rfl rfl (by decide) (by decide) hk1 hFc hP1 hD1
  generalize H1 = H at hP hS ⊢
  have hP : va_P (dC, dI) vwCl (wd_X1_scanNumeral a_this a_text a_number a_rounded a_lowEdge a_highEdge c_text v_length s1 v_digitsEnd v_unitsAt v_tenPower v_text) H := hP.sub [0, 1] rfl
  have hD : va_D A (wd_X1_scanNumeral a_this a_text a_number a_rounded a_lowEdge a_highEdge c_text v_length s1 v_digitsEnd v_unitsAt v_tenPower v_text) := hD.sub [0, 1] (by decide) rfl
  clear hP1 hK1 hD1 hPc hDc hKc hFc hk1 hz1 ht hvm
  refine va_put (D := (dC, dI)) (ci := 1) (v := .int r25) (ty := .int) (C := RX1) (T := TX1) (N := 10) hx hb hws inlX1 tyX1 tyX1_ok nmX1 hown hK hP hD hS 0 rfl rfl 3 (by decide) (hws _ ww_89) (fun _ h9 => h9) rfl (by decide +kernel) rfl rfl (Nat.le_of_ble_eq_true rfl) dX1_scanNumeral_28 (fun H locs hP hD hS => ?_)
  have hP : va_P (dC, dI) vwCl (wd_X1_scanNumeral a_this a_text a_number a_rounded a_lowEdge a_highEdge c_text v_length s1 r25 v_unitsAt v_tenPower v_text) H := hP
  have hD : va_D A (wd_X1_scanNumeral a_this a_text a_number a_rounded a_lowEdge a_highEdge c_text v_length s1 r25 v_unitsAt v_tenPower v_text) := hD
  refine lv_aload_n hx hb dX1_scanNumeral_31 rfl (lv_at hl 0 rfl) ?_
  refine lv_aload_n hx hb dX1_scanNumeral_32 rfl (lv_at hl 0 rfl) ?_
  refine va_get (D := (dC, dI)) (ci := 1) (v := .int r25) (C := RX1) (T := TX1) (N := 10) hx hb hws inlX1 hown hK hP 0 rfl rfl 3 (by decide) (hws _ ww_89) (fun _ h9 => h9) rfl dX1_scanNumeral_33 ?_
  refine lv_iconst (v := 1) hx hb dX1_scanNumeral_36 (by decide) ?_
  refine lv_isub hx hb dX1_scanNumeral_37 ?_
  refine va_put (D := (dC, dI)) (ci := 1) (v := .int (r25 - 1)) (ty := .int) (C := RX1) (T := TX1) (N := 10) hx hb hws inlX1 tyX1 tyX1_ok nmX1 hown hK hP hD hS 0 rfl rfl 4 (by decide) (hws _ ww_90) (fun _ h9 => h9) rfl (by decide +kernel) rfl rfl (Nat.le_of_ble_eq_true rfl) dX1_scanNumeral_38 (fun H locs hP hD hS => ?_)
  have hP : va_P (dC, dI) vwCl (wd_X1_scanNumeral a_this a_text a_number a_rounded a_lowEdge a_highEdge c_text v_length s1 r25 (r25 - 1) v_tenPower v_text) H := hP
  have hD : va_D A (wd_X1_scanNumeral a_this a_text a_number a_rounded a_lowEdge a_highEdge c_text v_length s1 r25 (r25 - 1) v_tenPower v_text) := hD
  refine lv_aload_n hx hb dX1_scanNumeral_41 rfl (lv_at hl 0 rfl) ?_
  refine va_get (D := (dC, dI)) (ci := 1) (v := .int r25) (C := RX1) (T := TX1) (N := 10) hx hb hws inlX1 hown hK hP 0 rfl rfl 3 (by decide) (hws _ ww_89) (fun _ h9 => h9) rfl dX1_scanNumeral_42 ?_
  refine lv_aload_n hx hb dX1_scanNumeral_45 rfl (lv_at hl 0 rfl) ?_
  refine va_get (D := (dC, dI)) (ci := 1) (v := .int s1) (C := RX1) (T := TX1) (N := 10) hx hb hws inlX1 hown hK hP 0 rfl rfl 2 (by decide) (hws _ ww_88) (fun _ h9 => h9) rfl dX1_scanNumeral_46 ?_
  refine lv_icmp_ne (tgt := 54) hx hb dX1_scanNumeral_49 (by decide) (fun c9 => ?_) (fun c9 => ?_)
  · have h := (if_neg c9).symm.trans h
    refine lv_aload_n hx hb dX1_scanNumeral_54 rfl (lv_at hl 0 rfl) ?_
    refine lv_aload_n hx hb dX1_scanNumeral_55 rfl (lv_at hl 0 rfl) ?_
    refine va_get (D := (dC, dI)) (ci := 1) (v := .int r25) (C := RX1) (T := TX1) (N := 10) hx hb hws inlX1 hown hK hP 0 rfl rfl 3 (by decide) (hws _ ww_89) (fun _ h9 => h9) rfl dX1_scanNumeral_56 ?_
    refine lv_bipush (v := 46) hx hb dX1_scanNumeral_59 (by decide) ?_
    obtain ⟨r61, hc, h⟩ := bd h
    have hPc := hP.sub (ws' := (wd_X1_isAt a_this a_text a_number a_rounded a_lowEdge a_highEdge c_text v_length s1 r25 (r25 - 1) v_tenPower v_text)) [0, 1] rfl
    have hDc := hD.sub (ws' := (wd_X1_isAt a_this a_text a_number a_rounded a_lowEdge a_highEdge c_text v_length s1 r25 (r25 - 1) v_tenPower v_text)) [0, 1] (by decide) rfl
    have hKc := hK.sub (tys' := [(c_text, .int)]) [0] rfl
    have hFc := va_free (wc := (wd_X1_isAt a_this a_text a_number a_rounded a_lowEdge a_highEdge c_text v_length s1 r25 (r25 - 1) v_tenPower v_text)) hD hS hA [0, 1] rfl
    refine va_calli (va_runV (As := [.int r25, .int 46]) (rest := []) ⟨hx, hb, hml, hown, hws⟩ (c_X1_isAt l dC dI  a_this a_text a_number a_rounded a_lowEdge a_highEdge c_text (Array.size H) r25 46 v_length s1 r25 (r25 - 1) v_tenPower v_text r61 hc) (cwV 2 hws (gV ww_92 ww_93 ww_94 ww_2 ww_95) rfl rfl rfl (by decide +kernel) ⟨Nat.le_of_ble_eq_true rfl, Nat.le_of_ble_eq_true rfl⟩) ⟨(fun a U g mk q => by obtain ⟨q0, q1, qP, qK, qD⟩ := q; exact ⟨q0, q1, qP, va_K.moved (u := U) (U := U.calling g mk a) (Vm.Alike.refl U.vm) qK, qD⟩), va_recv hKc hPc (ci := 1) (q0 := 0) rfl rfl, (fun U hU hW => ⟨rfl, by rw [hU], by rw [hU]; exact hPc, va_K.moved hW.alike hKc, hDc.weaken (fun _ _ _ _ => trivial)⟩)⟩ rfl rfl hl.1 rfl (lv_room (Nat.le_of_ble_eq_true rfl)) dX1_scanNumeral_61 ⟨Nat.zero_le _, Nat.zero_le _⟩) hS (fun q _ h => hFc q h) hFc (fun r9 u9 t H1 locs ht hvm hw hB hz1 hk1 hS => ?_)
    obtain ⟨hP1, hK1, hD1⟩ := hB
    rw [ht] at hP1
    subst r9
    obtain ⟨hP, hD⟩ := va_join (wr := []) (w1 := (wd_X1_isAt a_this a_text a_number a_rounded a_lowEdge a_highEdge c_text v_length s1 r25 (r25 - 1) v_tenPower v_text)) hP hD [0, 1] [] rfl rfl (by decide) (by decide) hk1 hFc hP1 hD1
    generalize H1 = H at hP hS ⊢
    have hP : va_P (dC, dI) vwCl (wd_X1_scanNumeral a_this a_text a_number a_rounded a_lowEdge a_highEdge c_text v_length s1 r25 (r25 - 1) v_tenPower v_text) H := hP.sub [0, 1] rfl
    have hD : va_D A (wd_X1_scanNumeral a_this a_text a_number a_rounded a_lowEdge a_highEdge c_text v_length s1 r25 (r25 - 1) v_tenPower v_text) := hD.sub [0, 1] (by decide) rfl
    clear hP1 hK1 hD1 hPc hDc hKc hFc hk1 hz1 ht hvm
    refine lv_if_eq (tgt := 93) hx hb dX1_scanNumeral_64 (by decide) (fun c9 => ?_) (fun c9 => ?_)
    · have h := (if_pos c9).symm.trans h
      exact w_X1_scanNumeral_93 l a_this a_text a_number a_rounded a_lowEdge a_highEdge c_text hx hb hr hml hown hws hlocks hA  v_length s1 r25 (r25 - 1) v_tenPower v_text o_r o_digitsStart o_digitsEnd o_unitsAt o_tenPower h H locs hK hP hD hS ls (lv_sub hl [0] rfl)
    · have h := (if_neg c9).symm.trans h
      refine lv_aload_n hx hb dX1_scanNumeral_67 rfl (lv_at hl 0 rfl) ?_
      refine va_get (D := (dC, dI)) (ci := 1) (v := .int r25) (C := RX1) (T := TX1) (N := 10) hx hb hws inlX1 hown hK hP 0 rfl rfl 3 (by decide) (hws _ ww_89) (fun _ h9 => h9) rfl dX1_scanNumeral_68 ?_
      refine lv_iconst (v := 1) hx hb dX1_scanNumeral_71 (by decide) ?_
      refine lv_iadd hx hb dX1_scanNumeral_72 ?_
      refine lv_istore_n (lv' := [(1, .int (r25 + 1)), (0, .ref a_this)]) hx hb dX1_scanNumeral_73 rfl hl (by decide) rfl (fun ls hl => ?_)
      refine lv_aload_n hx hb dX1_scanNumeral_74 rfl (lv_at hl 1 rfl) ?_
      refine lv_aload_n hx hb dX1_scanNumeral_75 rfl (lv_at hl 1 rfl) ?_
      refine lv_iload_n hx hb dX1_scanNumeral_76 rfl (lv_at hl 0 rfl) ?_
      obtain ⟨r77, hc, h⟩ := bd h
      have hPc := hP.sub (ws' := (wd_X1_endOfDigits a_this a_text a_number a_rounded a_lowEdge a_highEdge c_text v_length s1 r25 (r25 - 1) v_tenPower v_text)) [0, 1] rfl
      have hDc := hD.sub (ws' := (wd_X1_endOfDigits a_this a_text a_number a_rounded a_lowEdge a_highEdge c_text v_length s1 r25 (r25 - 1) v_tenPower v_text)) [0, 1] (by decide) rfl
      have hKc := hK.sub (tys' := [(c_text, .int)]) [0] rfl
      have hFc := va_free (wc := (wd_X1_endOfDigits a_this a_text a_number a_rounded a_lowEdge a_highEdge c_text v_length s1 r25 (r25 - 1) v_tenPower v_text)) hD hS hA [0, 1] rfl
      refine va_calli (va_runV (As := [.int (r25 + 1)]) (rest := [.ref a_this]) ⟨hx, hb, hml, hown, hws⟩ (c_X1_endOfDigits l dC dI  a_this a_text a_number a_rounded a_lowEdge a_highEdge c_text (Array.size H) (r25 + 1) v_length s1 r25 (r25 - 1) v_tenPower v_text r77 hc) (cwV 1 hws (gV ww_96 ww_97 ww_98 ww_2 ww_99) rfl rfl rfl (by decide +kernel) ⟨Nat.le_of_ble_eq_true rfl, Nat.le_of_ble_eq_true rfl⟩) ⟨(fun a U g mk q => by obtain ⟨q0, q1, qP, qK, qD⟩ := q; exact ⟨q0, q1, qP, va_K.moved (u := U) (U := U.calling g mk a) (Vm.Alike.refl U.vm) qK, qD⟩), va_recv hKc hPc (ci := 1) (q0 := 0) rfl rfl, (fun U hU hW => ⟨rfl, by rw [hU], by rw [hU]; exact hPc, va_K.moved hW.alike hKc, hDc.weaken (fun _ _ _ _ => trivial)⟩)⟩ rfl rfl hl.1 rfl (lv_room (Nat.le_of_ble_eq_true rfl)) dX1_scanNumeral_77 ⟨Nat.zero_le _, Nat.zero_le _⟩) hS (fun q _ h => hFc q h) hFc (fun r9 u9 t H1 locs ht hvm hw hB hz1 hk1 hS => ?_)
      obtain ⟨hP1, hK1, hD1⟩ := hB
      rw [ht] at hP1
      subst r9
      obtain ⟨hP, hD⟩ := va_join (wr := []) (w1 := (wd_X1_endOfDigits a_this a_text a_number a_rounded a_lowEdge a_highEdge c_text v_length s1 r25 (r25 - 1) v_tenPower v_text)) hP hD [0, 1] [] rfl rfl (by decide) (by decide) hk1 hFc hP1 hD1
      generalize H1 = H at hP hS ⊢
      have hP : va_P (dC, dI) vwCl (wd_X1_scanNumeral a_this a_text a_number a_rounded a_lowEdge a_highEdge c_text v_length s1 r25 (r25 - 1) v_tenPower v_text) H := hP.sub [0, 1] rfl
      have hD : va_D A (wd_X1_scanNumeral a_this a_text a_number a_rounded a_lowEdge a_highEdge c_text v_length s1 r25 (r25 - 1) v_tenPower v_text) := hD.sub [0, 1] (by decide) rfl
      clear hP1 hK1 hD1 hPc hDc hKc hFc hk1 hz1 ht hvm
      refine va_put (D := (dC, dI)) (ci := 1) (v := .int r77) (ty := .int) (C := RX1) (T := TX1) (N := 10) hx hb hws inlX1 tyX1 tyX1_ok nmX1 hown hK hP hD hS 0 rfl rfl 3 (by decide) (hws _ ww_89) (fun _ h9 => h9) rfl (by decide +kernel) rfl rfl (Nat.le_of_ble_eq_true rfl) dX1_scanNumeral_80 (fun H locs hP hD hS => ?_)
      have hP : va_P (dC, dI) vwCl (wd_X1_scanNumeral a_this a_text a_number a_rounded a_lowEdge a_highEdge c_text v_length s1 r77 (r25 - 1) v_tenPower v_text) H := hP
      have hD : va_D A (wd_X1_scanNumeral a_this a_text a_number a_rounded a_lowEdge a_highEdge c_text v_length s1 r77 (r25 - 1) v_tenPower v_text) := hD
      refine lv_aload_n hx hb dX1_scanNumeral_83 rfl (lv_at hl 1 rfl) ?_
      refine va_get (D := (dC, dI)) (ci := 1) (v := .int r77) (C := RX1) (T := TX1) (N := 10) hx hb hws inlX1 hown hK hP 0 rfl rfl 3 (by decide) (hws _ ww_89) (fun _ h9 => h9) rfl dX1_scanNumeral_84 ?_
      refine lv_iload_n hx hb dX1_scanNumeral_87 rfl (lv_at hl 0 rfl) ?_
      refine lv_icmp_ne (tgt := 93) hx hb dX1_scanNumeral_88 (by decide) (fun c9 => ?_) (fun c9 => ?_)
      · have h := (if_neg c9).symm.trans h
        exact w_X1_scanNumeral_93 l a_this a_text a_number a_rounded a_lowEdge a_highEdge c_text hx hb hr hml hown hws hlocks hA  v_length s1 r77 (r25 - 1) v_tenPower v_text o_r o_digitsStart o_digitsEnd o_unitsAt o_tenPower h H locs hK hP hD hS ls (lv_sub hl [1] rfl)
      · have h := (if_pos c9).symm.trans h
        refine lv_iconst (v := 0) hx hb dX1_scanNumeral_91 (by decide) ?_
        obtain ⟨h09, h19, h29, h39, h49⟩ := rt5 h
        subst o_r
        subst o_digitsStart
        subst o_digitsEnd
        subst o_unitsAt
        subst o_tenPower
        exact W.zret hx hb hr rfl (fun t ht hW => ⟨⟨_, (), rfl, rfl, by rw [ht]; exact hP, va_K.moved hW.alike hK, hD⟩, hS.F ht⟩) hS.2.2 dX1_scanNumeral_92
  · have h := (if_pos c9).symm.trans h
    refine lv_iconst (v := 0) hx hb dX1_scanNumeral_52 (by decide) ?_
    obtain ⟨h09, h19, h29, h39, h49⟩ := rt5 h
    subst o_r
    subst o_digitsStart
    subst o_digitsEnd
    subst o_unitsAt
    subst o_tenPower
    exact W.zret hx hb hr rfl (fun t ht hW => ⟨⟨_, (), rfl, rfl, by rw [ht]; exact hP, va_K.moved hW.alike hK, hD⟩, hS.F ht⟩) hS.2.2 dX1_scanNumeral_53
set_option maxHeartbeats 4000000 in
set_option maxRecDepth 100000 in
theorem c_X1_scanNumeral (l : Launch) (dC : Nat → ClassId) (dI : Nat → Nat → Nat)  (a_this a_text a_number a_rounded a_lowEdge a_highEdge : Nat) (c_text : ClassId) (sz : Nat)  (v_length : Int32) (v_digitsStart : Int32) (v_digitsEnd : Int32) (v_unitsAt : Int32) (v_tenPower : Int32) (v_text : Nat → Int32) (o_r : Int32) (o_digitsStart : Int32) (o_digitsEnd : Int32) (o_unitsAt : Int32) (o_tenPower : Int32) (h : f_X1_scanNumeral v_length v_digitsStart v_digitsEnd v_unitsAt v_tenPower v_text = some (o_r, o_digitsStart, o_digitsEnd, o_unitsAt, o_tenPower)) : Met l yX1_scanNumeral w_X1_scanNumeral ({ frames := 2, cells := 0, slots := 0, locals := 47 } : Room) (va_Pc [.ref a_this] (fun U => U.heap.size = sz ∧ va_P (dC, dI) vwCl (wd_X1_scanNumeral a_this a_text a_number a_rounded a_lowEdge a_highEdge c_text v_length v_digitsStart v_digitsEnd v_unitsAt v_tenPower v_text) U.heap ∧ va_K (dC, dI) vwCl [(c_text, .int)] U ∧ va_D (fun _ => True) (wd_X1_scanNumeral a_this a_text a_number a_rounded a_lowEdge a_highEdge c_text v_length v_digitsStart v_digitsEnd v_unitsAt v_tenPower v_text))) (va_Qi (fun r9 (_ : Unit) => r9 = o_r) (fun (_ : Unit) t => va_P (dC, dI) vwCl (wd_X1_scanNumeral a_this a_text a_number a_rounded a_lowEdge a_highEdge c_text v_length o_digitsStart o_digitsEnd o_unitsAt o_tenPower v_text) t.heap ∧ va_K (dC, dI) vwCl [(c_text, .int)] t ∧ va_D (va_A (wd_X1_scanNumeral a_this a_text a_number a_rounded a_lowEdge a_highEdge c_text v_length v_digitsStart v_digitsEnd v_unitsAt v_tenPower v_text) sz) (wd_X1_scanNumeral a_this a_text a_number a_rounded a_lowEdge a_highEdge c_text v_length o_digitsStart o_digitsEnd o_unitsAt o_tenPower v_text)) (va_A (wd_X1_scanNumeral a_this a_text a_number a_rounded a_lowEdge a_highEdge c_text v_length v_digitsStart v_digitsEnd v_unitsAt v_tenPower v_text) sz)) 0 0 (va_A (wd_X1_scanNumeral a_this a_text a_number a_rounded a_lowEdge a_highEdge c_text v_length v_digitsStart v_digitsEnd v_unitsAt v_tenPower v_text) sz) := by
  refine Met.ofW (cc := cX1_scanNumeral) (maxL := 2) (ret := (some .boolean)) (by decide) rfl ?_
  intro p e s m args below meth c s₁ B hml hv
  obtain ⟨rfl, hsz, hP, hK, hD0⟩ := hv
  have hx := B.exec
  have hb := B.bytes
  have hr := B.returns
  have hws : ∀ w ∈ wsL_law, w.before _ s = true := fun w hw => atoms_spec (ws := w_X1_scanNumeral) B.pre w (List.mem_cons_of_mem _ hw)
  have hown : s.vm.findClass RX1 = some m.cls := findClass_of_methodNamed B.named
  have hlocks := B.notSynchronized
  subst hsz
  have hD := hD0.self (sz := s.heap.size)
  generalize hAe : va_A (wd_X1_scanNumeral a_this a_text a_number a_rounded a_lowEdge a_highEdge c_text v_length v_digitsStart v_digitsEnd v_unitsAt v_tenPower v_text) s.heap.size = A at hD ⊢
  have hA : ∀ q : Nat, s.heap.size ≤ q → A q := fun q h => by rw [← hAe]; exact Or.inr h
  have hS : va_S A s.heap s.heap [] := va_S.rf
  have hl := lv_entry ([.ref a_this]) (n := 2) (Nat.le_of_ble_eq_true rfl)
  rw [lg_entry_eq]
  generalize (lg_sl ([.ref a_this]) ++ List.replicate (2 - (lg_sl ([.ref a_this])).length) Slot.unset).toArray = ls at hl ⊢
  have hl : lv_has ls 2 [(0, .ref a_this)] := hl
  unfold f_X1_scanNumeral at h
  refine lv_aload_n hx hb dX1_scanNumeral_0 rfl (lv_at hl 0 rfl) ?_
  refine lv_aload_n hx hb dX1_scanNumeral_1 rfl (lv_at hl 0 rfl) ?_
  refine lv_iconst (v := 0) hx hb dX1_scanNumeral_2 (by decide) ?_
  refine lv_bipush (v := 45) hx hb dX1_scanNumeral_3 (by decide) ?_
  obtain ⟨r5, hc, h⟩ := bd h
  have hPc := hP.sub (ws' := (wd_X1_isAt a_this a_text a_number a_rounded a_lowEdge a_highEdge c_text v_length v_digitsStart v_digitsEnd v_unitsAt v_tenPower v_text)) [0, 1] rfl
  have hDc := hD.sub (ws' := (wd_X1_isAt a_this a_text a_number a_rounded a_lowEdge a_highEdge c_text v_length v_digitsStart v_digitsEnd v_unitsAt v_tenPower v_text)) [0, 1] (by decide) rfl
  have hKc := hK.sub (tys' := [(c_text, .int)]) [0] rfl
  have hFc := va_free (wc := (wd_X1_isAt a_this a_text a_number a_rounded a_lowEdge a_highEdge c_text v_length v_digitsStart v_digitsEnd v_unitsAt v_tenPower v_text)) hD hS hA [0, 1] rfl
  refine va_calli (va_runV (As := [.int 0, .int 45]) (rest := [.ref a_this]) ⟨hx, hb, hml, hown, hws⟩ (c_X1_isAt l dC dI  a_this a_text a_number a_rounded a_lowEdge a_highEdge c_text (Array.size s.heap) 0 45 v_length v_digitsStart v_digitsEnd v_unitsAt v_tenPower v_text r5 hc) (cwV 2 hws (gV ww_92 ww_93 ww_94 ww_2 ww_95) rfl rfl rfl (by decide +kernel) ⟨Nat.le_of_ble_eq_true rfl, Nat.le_of_ble_eq_true rfl⟩) ⟨(fun a U g mk q => by obtain ⟨q0, q1, qP, qK, qD⟩ := q; exact ⟨q0, q1, qP, va_K.moved (u := U) (U := U.calling g mk a) (Vm.Alike.refl U.vm) qK, qD⟩), va_recv hKc hPc (ci := 1) (q0 := 0) rfl rfl, (fun U hU hW => ⟨rfl, by rw [hU], by rw [hU]; exact hPc, va_K.moved hW.alike hKc, hDc.weaken (fun _ _ _ _ => trivial)⟩)⟩ rfl rfl hl.1 rfl (lv_room (Nat.le_of_ble_eq_true rfl)) dX1_scanNumeral_5 ⟨Nat.zero_le _, Nat.zero_le _⟩) hS (fun q _ h => hFc q h) hFc (fun r9 u9 t H1 locs ht hvm hw hB hz1 hk1 hS => ?_)
  obtain ⟨hP1, hK1, hD1⟩ := hB
  rw [ht] at hP1
  subst r9
  obtain ⟨hP, hD⟩ := va_join (wr := []) (w1 := (wd_X1_isAt a_this a_text a_number a_rounded a_lowEdge a_highEdge c_text v_length v_digitsStart v_digitsEnd v_unitsAt v_tenPower v_text)) hP hD [0, 1] [] rfl rfl (by decide) (by decide) hk1 hFc hP1 hD1
  generalize H1 = H at hP hS ⊢
  have hP : va_P (dC, dI) vwCl (wd_X1_scanNumeral a_this a_text a_number a_rounded a_lowEdge a_highEdge c_text v_length v_digitsStart v_digitsEnd v_unitsAt v_tenPower v_text) H := hP.sub [0, 1] rfl
  have hD : va_D A (wd_X1_scanNumeral a_this a_text a_number a_rounded a_lowEdge a_highEdge c_text v_length v_digitsStart v_digitsEnd v_unitsAt v_tenPower v_text) := hD.sub [0, 1] (by decide) rfl
  clear hP1 hK1 hD1 hPc hDc hKc hFc hk1 hz1 ht hvm
  refine lv_if_eq (tgt := 15) hx hb dX1_scanNumeral_8 (by decide) (fun c9 => ?_) (fun c9 => ?_)
  · have h := (if_pos c9).symm.trans h
    refine lv_iconst (v := 0) hx hb dX1_scanNumeral_15 (by decide) ?_
    exact w_X1_scanNumeral_16 l a_this a_text a_number a_rounded a_lowEdge a_highEdge c_text hx hb hr hml hown hws hlocks hA 0 v_length v_digitsStart v_digitsEnd v_unitsAt v_tenPower v_text o_r o_digitsStart o_digitsEnd o_unitsAt o_tenPower h H locs hK hP hD hS ls (lv_sub hl [0] rfl)
  · have h := (if_neg c9).symm.trans h
    refine lv_iconst (v := 1) hx hb dX1_scanNumeral_11 (by decide) ?_
    refine lv_goto (tgt := 16) hx hb dX1_scanNumeral_12 (by decide) ?_
    exact w_X1_scanNumeral_16 l a_this a_text a_number a_rounded a_lowEdge a_highEdge c_text hx hb hr hml hown hws hlocks hA 1 v_length v_digitsStart v_digitsEnd v_unitsAt v_tenPower v_text o_r o_digitsStart o_digitsEnd o_unitsAt o_tenPower h H locs hK hP hD hS ls (lv_sub hl [0] rfl)
set_option maxHeartbeats 4000000 in
set_option maxRecDepth 100000 in
theorem w_X1_leadingDigit_5 (l : Launch) {p : Program} {e : Env} {s : State} {m : MethodId} {args : Array Value} {below : List Frame} {meth : Method} {c : Code} {A : Nat → Prop} {dC : Nat → ClassId} {dI : Nat → Nat → Nat} (a_this a_text a_number a_rounded a_lowEdge a_highEdge : Nat) (c_text : ClassId) (hx : p.tables.exec = Jvm.exec) (hb : c.code = cX1_leadingDigit) (hr : meth.sig.returnType = (some .int)) (hml : c.maxLocals = 2) (hown : s.vm.findClass RX1 = some m.cls) (hws : ∀ w ∈ wsL_law, w.before args s = true) (hlocks : meth.locks = false) (hA : ∀ q : Nat, s.heap.size ≤ q → A q) : ∀ (n : Nat) (l1 : Int32) (v_length : Int32) (v_digitsStart : Int32) (v_digitsEnd : Int32) (v_unitsAt : Int32) (v_tenPower : Int32) (v_text : Nat → Int32) (o_r : Int32), f_X1_leadingDigit_L5 n l1 v_digitsStart v_digitsEnd v_text = some o_r → ∀ (H : Heap) (locs : List Loc), va_K (dC, dI) vwCl [(c_text, .int)] s → va_P (dC, dI) vwCl (wd_X1_leadingDigit a_this a_text a_number a_rounded a_lowEdge a_highEdge c_text v_length v_digitsStart v_digitsEnd v_unitsAt v_tenPower v_text) H → va_D A (wd_X1_leadingDigit a_this a_text a_number a_rounded a_lowEdge a_highEdge c_text v_length v_digitsStart v_digitsEnd v_unitsAt v_tenPower v_text) → va_S A s.heap H locs → ∀ (ls : Array Slot), lv_has ls 2 [(0, .ref a_this), (1, .int l1)] → W p l e (headSpec (w_X1_leadingDigit) ({ frames := 0, cells := 0, slots := 0, locals := 0 } : Room)).room s m args below meth c H locs 0 0 (MQ below (va_Qi (fun r9 (_ : Unit) => r9 = o_r) (fun (_ : Unit) t => va_P (dC, dI) vwCl (wd_X1_leadingDigit a_this a_text a_number a_rounded a_lowEdge a_highEdge c_text v_length v_digitsStart v_digitsEnd v_unitsAt v_tenPower v_text) t.heap ∧ va_K (dC, dI) vwCl [(c_text, .int)] t ∧ va_D A (wd_X1_leadingDigit a_this a_text a_number a_rounded a_lowEdge a_highEdge c_text v_length v_digitsStart v_digitsEnd v_unitsAt v_tenPower v_text)) A) args s 0 0 A) (F0 m 5 ls []) := by
  intro n
  induction n with
  | zero =>
    intro l1 v_length v_digitsStart v_digitsEnd v_unitsAt v_tenPower v_text o_r h H locs hK hP hD hS ls hl
    exact absurd h (by simp [f_X1_leadingDigit_L5])
  | succ n ih =>
    intro l1 v_length v_digitsStart v_digitsEnd v_unitsAt v_tenPower v_text o_r h H locs hK hP hD hS ls hl
    unfold f_X1_leadingDigit_L5 at h
    refine lv_iload_n hx hb dX1_leadingDigit_5 rfl (lv_at hl 1 rfl) ?_
    refine lv_aload_n hx hb dX1_leadingDigit_6 rfl (lv_at hl 0 rfl) ?_
    refine va_get (D := (dC, dI)) (ci := 1) (v := .int v_digitsEnd) (C := RX1) (T := TX1) (N := 10) hx hb hws inlX1 hown hK hP 0 rfl rfl 3 (by decide) (hws _ ww_89) (fun _ h9 => h9) rfl dX1_leadingDigit_7 ?_
    refine lv_icmp_ge (tgt := 41) hx hb dX1_leadingDigit_10 (by decide) (fun c9 => ?_) (fun c9 => ?_)
    · have h := (if_pos c9).symm.trans h
      refine lv_iload_n hx hb dX1_leadingDigit_41 rfl (lv_at hl 1 rfl) ?_
      obtain h09 := rt1 h
      subst o_r
      exact W.iret hx hb hr (fun t ht hW => ⟨⟨_, (), rfl, rfl, by rw [ht]; exact hP, va_K.moved hW.alike hK, hD⟩, hS.F ht⟩) hS.2.2 dX1_leadingDigit_42
    · have h := (if_neg c9).symm.trans h
      refine lv_aload_n hx hb dX1_leadingDigit_13 rfl (lv_at hl 0 rfl) ?_
      refine va_get (D := (dC, dI)) (ci := 1) (v := .ref a_text) (C := RX1) (T := TX1) (N := 10) hx hb hws inlX1 hown hK hP 0 rfl rfl 0 (by decide) (hws _ ww_15) (fun _ h9 => h9) rfl dX1_leadingDigit_14 ?_
      refine lv_iload_n hx hb dX1_leadingDigit_17 rfl (lv_at hl 1 rfl) ?_
      obtain ⟨hi, h⟩ := gd h
      refine va_iald hx hb hK hP 1 0 rfl rfl hi dX1_leadingDigit_18 ?_
      refine lv_bipush (v := 48) hx hb dX1_leadingDigit_19 (by decide) ?_
      refine lv_icmp_eq (tgt := 35) hx hb dX1_leadingDigit_21 (by decide) (fun c9 => ?_) (fun c9 => ?_)
      · have h := (if_pos c9).symm.trans h
        refine lv_iinc (v := (l1 + 1)) (lv' := [(1, .int (l1 + 1)), (0, .ref a_this)]) hx hb dX1_leadingDigit_35 hl (k := 1) rfl rfl (by decide) rfl (fun ls hl => ?_)
        refine lv_goto (tgt := 5) hx hb dX1_leadingDigit_38 (by decide) ?_
        exact ih (l1 + 1) v_length v_digitsStart v_digitsEnd v_unitsAt v_tenPower v_text o_r h H locs hK hP hD hS ls (lv_sub hl [1, 0] rfl)
      · have h := (if_neg c9).symm.trans h
        refine lv_aload_n hx hb dX1_leadingDigit_24 rfl (lv_at hl 0 rfl) ?_
        refine va_get (D := (dC, dI)) (ci := 1) (v := .ref a_text) (C := RX1) (T := TX1) (N := 10) hx hb hws inlX1 hown hK hP 0 rfl rfl 0 (by decide) (hws _ ww_15) (fun _ h9 => h9) rfl dX1_leadingDigit_25 ?_
        refine lv_iload_n hx hb dX1_leadingDigit_28 rfl (lv_at hl 1 rfl) ?_
        obtain ⟨hi, h⟩ := gd h
        refine va_iald hx hb hK hP 1 0 rfl rfl hi dX1_leadingDigit_29 ?_
        refine lv_bipush (v := 46) hx hb dX1_leadingDigit_30 (by decide) ?_
        refine lv_icmp_ne (tgt := 41) hx hb dX1_leadingDigit_32 (by decide) (fun c9 => ?_) (fun c9 => ?_)
        · have h := (if_neg c9).symm.trans h
          refine lv_iload_n hx hb dX1_leadingDigit_41 rfl (lv_at hl 1 rfl) ?_
          obtain h09 := rt1 h
          subst o_r
          exact W.iret hx hb hr (fun t ht hW => ⟨⟨_, (), rfl, rfl, by rw [ht]; exact hP, va_K.moved hW.alike hK, hD⟩, hS.F ht⟩) hS.2.2 dX1_leadingDigit_42
        · have h := (if_pos c9).symm.trans h
          refine lv_iinc (v := (l1 + 1)) (lv' := [(1, .int (l1 + 1)), (0, .ref a_this)]) hx hb dX1_leadingDigit_35 hl (k := 1) rfl rfl (by decide) rfl (fun ls hl => ?_)
          refine lv_goto (tgt := 5) hx hb dX1_leadingDigit_38 (by decide) ?_
          exact ih (l1 + 1) v_length v_digitsStart v_digitsEnd v_unitsAt v_tenPower v_text o_r h H locs hK hP hD hS ls (lv_sub hl [1, 0] rfl)
set_option maxHeartbeats 4000000 in
set_option maxRecDepth 100000 in
theorem c_X1_leadingDigit (l : Launch) (dC : Nat → ClassId) (dI : Nat → Nat → Nat)  (a_this a_text a_number a_rounded a_lowEdge a_highEdge : Nat) (c_text : ClassId) (sz : Nat)  (v_length : Int32) (v_digitsStart : Int32) (v_digitsEnd : Int32) (v_unitsAt : Int32) (v_tenPower : Int32) (v_text : Nat → Int32) (o_r : Int32) (h : f_X1_leadingDigit v_digitsStart v_digitsEnd v_text = some o_r) : Met l yX1_leadingDigit w_X1_leadingDigit ({ frames := 0, cells := 0, slots := 0, locals := 0 } : Room) (va_Pc [.ref a_this] (fun U => U.heap.size = sz ∧ va_P (dC, dI) vwCl (wd_X1_leadingDigit a_this a_text a_number a_rounded a_lowEdge a_highEdge c_text v_length v_digitsStart v_digitsEnd v_unitsAt v_tenPower v_text) U.heap ∧ va_K (dC, dI) vwCl [(c_text, .int)] U ∧ va_D (fun _ => True) (wd_X1_leadingDigit a_this a_text a_number a_rounded a_lowEdge a_highEdge c_text v_length v_digitsStart v_digitsEnd v_unitsAt v_tenPower v_text))) (va_Qi (fun r9 (_ : Unit) => r9 = o_r) (fun (_ : Unit) t => va_P (dC, dI) vwCl (wd_X1_leadingDigit a_this a_text a_number a_rounded a_lowEdge a_highEdge c_text v_length v_digitsStart v_digitsEnd v_unitsAt v_tenPower v_text) t.heap ∧ va_K (dC, dI) vwCl [(c_text, .int)] t ∧ va_D (va_A (wd_X1_leadingDigit a_this a_text a_number a_rounded a_lowEdge a_highEdge c_text v_length v_digitsStart v_digitsEnd v_unitsAt v_tenPower v_text) sz) (wd_X1_leadingDigit a_this a_text a_number a_rounded a_lowEdge a_highEdge c_text v_length v_digitsStart v_digitsEnd v_unitsAt v_tenPower v_text)) (va_A (wd_X1_leadingDigit a_this a_text a_number a_rounded a_lowEdge a_highEdge c_text v_length v_digitsStart v_digitsEnd v_unitsAt v_tenPower v_text) sz)) 0 0 (va_A (wd_X1_leadingDigit a_this a_text a_number a_rounded a_lowEdge a_highEdge c_text v_length v_digitsStart v_digitsEnd v_unitsAt v_tenPower v_text) sz) := by
  refine Met.ofW (cc := cX1_leadingDigit) (maxL := 2) (ret := (some .int)) (by decide) rfl ?_
  intro p e s m args below meth c s₁ B hml hv
  obtain ⟨rfl, hsz, hP, hK, hD0⟩ := hv
  have hx := B.exec
  have hb := B.bytes
  have hr := B.returns
  have hws : ∀ w ∈ wsL_law, w.before _ s = true := fun w hw => atoms_spec (ws := w_X1_leadingDigit) B.pre w (List.mem_cons_of_mem _ hw)
  have hown : s.vm.findClass RX1 = some m.cls := findClass_of_methodNamed B.named
  have hlocks := B.notSynchronized
  subst hsz
  have hD := hD0.self (sz := s.heap.size)
  generalize hAe : va_A (wd_X1_leadingDigit a_this a_text a_number a_rounded a_lowEdge a_highEdge c_text v_length v_digitsStart v_digitsEnd v_unitsAt v_tenPower v_text) s.heap.size = A at hD ⊢
  have hA : ∀ q : Nat, s.heap.size ≤ q → A q := fun q h => by rw [← hAe]; exact Or.inr h
  have hS : va_S A s.heap s.heap [] := va_S.rf
  have hl := lv_entry ([.ref a_this]) (n := 2) (Nat.le_of_ble_eq_true rfl)
  rw [lg_entry_eq]
  generalize (lg_sl ([.ref a_this]) ++ List.replicate (2 - (lg_sl ([.ref a_this])).length) Slot.unset).toArray = ls at hl ⊢
  have hl : lv_has ls 2 [(0, .ref a_this)] := hl
  unfold f_X1_leadingDigit at h
  refine lv_aload_n hx hb dX1_leadingDigit_0 rfl (lv_at hl 0 rfl) ?_
  refine va_get (D := (dC, dI)) (ci := 1) (v := .int v_digitsStart) (C := RX1) (T := TX1) (N := 10) hx hb hws inlX1 hown hK hP 0 rfl rfl 2 (by decide) (hws _ ww_88) (fun _ h9 => h9) rfl dX1_leadingDigit_1 ?_
  refine lv_istore_n (lv' := [(1, .int v_digitsStart), (0, .ref a_this)]) hx hb dX1_leadingDigit_4 rfl hl (by decide) rfl (fun ls hl => ?_)
  exact w_X1_leadingDigit_5 l a_this a_text a_number a_rounded a_lowEdge a_highEdge c_text hx hb hr hml hown hws hlocks hA FU v_digitsStart v_length v_digitsStart v_digitsEnd v_unitsAt v_tenPower v_text o_r h s.heap [] hK hP hD hS ls (lv_sub hl [1, 0] rfl)
set_option maxHeartbeats 4000000 in
set_option maxRecDepth 100000 in
theorem c_X1_placeOf (l : Launch) (dC : Nat → ClassId) (dI : Nat → Nat → Nat)  (a_this a_text a_number a_rounded a_lowEdge a_highEdge : Nat) (sz : Nat) (l1 : Int32) (v_length : Int32) (v_digitsStart : Int32) (v_digitsEnd : Int32) (v_unitsAt : Int32) (v_tenPower : Int32) (o_r : Int32) (h : f_X1_placeOf l1 v_unitsAt v_tenPower = some o_r) : Met l yX1_placeOf w_X1_placeOf ({ frames := 0, cells := 0, slots := 0, locals := 0 } : Room) (va_Pc [.ref a_this, .int l1] (fun U => U.heap.size = sz ∧ va_P (dC, dI) vwCl (wd_X1_placeOf a_this a_text a_number a_rounded a_lowEdge a_highEdge v_length v_digitsStart v_digitsEnd v_unitsAt v_tenPower) U.heap ∧ va_K (dC, dI) vwCl [] U ∧ va_D (fun _ => True) (wd_X1_placeOf a_this a_text a_number a_rounded a_lowEdge a_highEdge v_length v_digitsStart v_digitsEnd v_unitsAt v_tenPower))) (va_Qi (fun r9 (_ : Unit) => r9 = o_r) (fun (_ : Unit) t => va_P (dC, dI) vwCl (wd_X1_placeOf a_this a_text a_number a_rounded a_lowEdge a_highEdge v_length v_digitsStart v_digitsEnd v_unitsAt v_tenPower) t.heap ∧ va_K (dC, dI) vwCl [] t ∧ va_D (va_A (wd_X1_placeOf a_this a_text a_number a_rounded a_lowEdge a_highEdge v_length v_digitsStart v_digitsEnd v_unitsAt v_tenPower) sz) (wd_X1_placeOf a_this a_text a_number a_rounded a_lowEdge a_highEdge v_length v_digitsStart v_digitsEnd v_unitsAt v_tenPower)) (va_A (wd_X1_placeOf a_this a_text a_number a_rounded a_lowEdge a_highEdge v_length v_digitsStart v_digitsEnd v_unitsAt v_tenPower) sz)) 0 0 (va_A (wd_X1_placeOf a_this a_text a_number a_rounded a_lowEdge a_highEdge v_length v_digitsStart v_digitsEnd v_unitsAt v_tenPower) sz) := by
  refine Met.ofW (cc := cX1_placeOf) (maxL := 3) (ret := (some .int)) (by decide) rfl ?_
  intro p e s m args below meth c s₁ B hml hv
  obtain ⟨rfl, hsz, hP, hK, hD0⟩ := hv
  have hx := B.exec
  have hb := B.bytes
  have hr := B.returns
  have hws : ∀ w ∈ wsL_law, w.before _ s = true := fun w hw => atoms_spec (ws := w_X1_placeOf) B.pre w (List.mem_cons_of_mem _ hw)
  have hown : s.vm.findClass RX1 = some m.cls := findClass_of_methodNamed B.named
  have hlocks := B.notSynchronized
  subst hsz
  have hD := hD0.self (sz := s.heap.size)
  generalize hAe : va_A (wd_X1_placeOf a_this a_text a_number a_rounded a_lowEdge a_highEdge v_length v_digitsStart v_digitsEnd v_unitsAt v_tenPower) s.heap.size = A at hD ⊢
  have hA : ∀ q : Nat, s.heap.size ≤ q → A q := fun q h => by rw [← hAe]; exact Or.inr h
  have hS : va_S A s.heap s.heap [] := va_S.rf
  have hl := lv_entry ([.ref a_this, .int l1]) (n := 3) (Nat.le_of_ble_eq_true rfl)
  rw [lg_entry_eq]
  generalize (lg_sl ([.ref a_this, .int l1]) ++ List.replicate (3 - (lg_sl ([.ref a_this, .int l1])).length) Slot.unset).toArray = ls at hl ⊢
  have hl : lv_has ls 3 [(0, .ref a_this), (1, .int l1)] := hl
  unfold f_X1_placeOf at h
  refine lv_iload_n hx hb dX1_placeOf_0 rfl (lv_at hl 1 rfl) ?_
  refine lv_aload_n hx hb dX1_placeOf_1 rfl (lv_at hl 0 rfl) ?_
  refine va_get (D := (dC, dI)) (ci := 1) (v := .int v_unitsAt) (C := RX1) (T := TX1) (N := 10) hx hb hws inlX1 hown hK hP 0 rfl rfl 4 (by decide) (hws _ ww_90) (fun _ h9 => h9) rfl dX1_placeOf_2 ?_
  refine lv_icmp_le (tgt := 19) hx hb dX1_placeOf_5 (by decide) (fun c9 => ?_) (fun c9 => ?_)
  · have h := (if_pos c9).symm.trans h
    refine lv_iload_n hx hb dX1_placeOf_19 rfl (lv_at hl 1 rfl) ?_
    refine lv_aload_n hx hb dX1_placeOf_20 rfl (lv_at hl 0 rfl) ?_
    refine va_get (D := (dC, dI)) (ci := 1) (v := .int v_unitsAt) (C := RX1) (T := TX1) (N := 10) hx hb hws inlX1 hown hK hP 0 rfl rfl 4 (by decide) (hws _ ww_90) (fun _ h9 => h9) rfl dX1_placeOf_21 ?_
    refine lv_isub hx hb dX1_placeOf_24 ?_
    refine lv_istore_n (lv' := [(2, .int (l1 - v_unitsAt)), (0, .ref a_this), (1, .int l1)]) hx hb dX1_placeOf_25 rfl hl (by decide) rfl (fun ls hl => ?_)
    refine lv_aload_n hx hb dX1_placeOf_26 rfl (lv_at hl 1 rfl) ?_
    refine va_get (D := (dC, dI)) (ci := 1) (v := .int v_tenPower) (C := RX1) (T := TX1) (N := 10) hx hb hws inlX1 hown hK hP 0 rfl rfl 5 (by decide) (hws _ ww_91) (fun _ h9 => h9) rfl dX1_placeOf_27 ?_
    refine lv_iload_n hx hb dX1_placeOf_30 rfl (lv_at hl 0 rfl) ?_
    refine lv_isub hx hb dX1_placeOf_31 ?_
    obtain h09 := rt1 h
    subst o_r
    exact W.iret hx hb hr (fun t ht hW => ⟨⟨_, (), rfl, rfl, by rw [ht]; exact hP, va_K.moved hW.alike hK, hD⟩, hS.F ht⟩) hS.2.2 dX1_placeOf_32
  · have h := (if_neg c9).symm.trans h
    refine lv_iload_n hx hb dX1_placeOf_8 rfl (lv_at hl 1 rfl) ?_
    refine lv_aload_n hx hb dX1_placeOf_9 rfl (lv_at hl 0 rfl) ?_
    refine va_get (D := (dC, dI)) (ci := 1) (v := .int v_unitsAt) (C := RX1) (T := TX1) (N := 10) hx hb hws inlX1 hown hK hP 0 rfl rfl 4 (by decide) (hws _ ww_90) (fun _ h9 => h9) rfl dX1_placeOf_10 ?_
    refine lv_isub hx hb dX1_placeOf_13 ?_
    refine lv_iconst (v := 1) hx hb dX1_placeOf_14 (by decide) ?_
    refine lv_isub hx hb dX1_placeOf_15 ?_
    refine lv_goto (tgt := 25) hx hb dX1_placeOf_16 (by decide) ?_
    refine lv_istore_n (lv' := [(2, .int ((l1 - v_unitsAt) - 1)), (0, .ref a_this), (1, .int l1)]) hx hb dX1_placeOf_25 rfl hl (by decide) rfl (fun ls hl => ?_)
    refine lv_aload_n hx hb dX1_placeOf_26 rfl (lv_at hl 1 rfl) ?_
    refine va_get (D := (dC, dI)) (ci := 1) (v := .int v_tenPower) (C := RX1) (T := TX1) (N := 10) hx hb hws inlX1 hown hK hP 0 rfl rfl 5 (by decide) (hws _ ww_91) (fun _ h9 => h9) rfl dX1_placeOf_27 ?_
    refine lv_iload_n hx hb dX1_placeOf_30 rfl (lv_at hl 0 rfl) ?_
    refine lv_isub hx hb dX1_placeOf_31 ?_
    obtain h09 := rt1 h
    subst o_r
    exact W.iret hx hb hr (fun t ht hW => ⟨⟨_, (), rfl, rfl, by rw [ht]; exact hP, va_K.moved hW.alike hK, hD⟩, hS.F ht⟩) hS.2.2 dX1_placeOf_32
set_option maxHeartbeats 4000000 in
set_option maxRecDepth 100000 in
theorem c_X1_joined (l : Launch) (dC : Nat → ClassId) (dI : Nat → Nat → Nat)   (sz : Nat) (l0 : Int64) (l2 : Int32)  (o_r : Int64) (h : f_X1_joined l0 l2 = some o_r) : Met l yX1_joined w_X1_joined ({ frames := 0, cells := 0, slots := 0, locals := 0 } : Room) (va_Pc [.long l0, .int l2] (fun U => U.heap.size = sz ∧ va_P (dC, dI) vwCl ([] : va_W) U.heap ∧ va_K (dC, dI) vwCl [] U ∧ va_D (fun _ => True) ([] : va_W))) (va_Ql (fun r9 (_ : Unit) => r9 = o_r) (fun (_ : Unit) t => va_P (dC, dI) vwCl ([] : va_W) t.heap ∧ va_K (dC, dI) vwCl [] t ∧ va_D (va_A ([] : va_W) sz) ([] : va_W)) (va_A ([] : va_W) sz)) 0 0 (va_A ([] : va_W) sz) := by
  refine Met.ofW (cc := cX1_joined) (maxL := 3) (ret := (some .long)) (by decide) rfl ?_
  intro p e s m args below meth c s₁ B hml hv
  obtain ⟨rfl, hsz, hP, hK, hD0⟩ := hv
  have hx := B.exec
  have hb := B.bytes
  have hr := B.returns
  have hws : ∀ w ∈ wsL_law, w.before _ s = true := fun w hw => atoms_spec (ws := w_X1_joined) B.pre w (List.mem_cons_of_mem _ hw)
  have hown : s.vm.findClass RX1 = some m.cls := findClass_of_methodNamed B.named
  have hlocks := B.notSynchronized
  subst hsz
  have hD := hD0.self (sz := s.heap.size)
  generalize hAe : va_A ([] : va_W) s.heap.size = A at hD ⊢
  have hA : ∀ q : Nat, s.heap.size ≤ q → A q := fun q h => by rw [← hAe]; exact Or.inr h
  have hS : va_S A s.heap s.heap [] := va_S.rf
  have hl := lv_entry ([.long l0, .int l2]) (n := 3) (Nat.le_of_ble_eq_true rfl)
  rw [lg_entry_eq]
  generalize (lg_sl ([.long l0, .int l2]) ++ List.replicate (3 - (lg_sl ([.long l0, .int l2])).length) Slot.unset).toArray = ls at hl ⊢
  have hl : lv_has ls 3 [(0, .long l0), (2, .int l2)] := hl
  unfold f_X1_joined at h
  refine lv_iload_n hx hb dX1_joined_0 rfl (lv_at hl 1 rfl) ?_
  refine lv_sipush (v := 971) hx hb dX1_joined_1 (by decide) ?_
  refine lv_icmp_le (tgt := 11) hx hb dX1_joined_4 (by decide) (fun c9 => ?_) (fun c9 => ?_)
  · have h := (if_pos c9).symm.trans h
    refine lv_iload_n hx hb dX1_joined_11 rfl (lv_at hl 1 rfl) ?_
    refine lv_sipush (v := (-1074)) hx hb dX1_joined_12 (by decide) ?_
    refine lv_isub hx hb dX1_joined_15 ?_
    refine lv_i2l hx hb dX1_joined_16 rfl ?_
    refine lv_bipush (v := 52) hx hb dX1_joined_17 (by decide) ?_
    refine lv_lshl hx hb dX1_joined_19 rfl ?_
    refine lv_lload_n hx hb dX1_joined_20 rfl (lv_at hl 0 rfl) ?_
    refine lv_ladd hx hb dX1_joined_21 ?_
    obtain h09 := rt1 h
    subst o_r
    exact W.lret hx hb hr (fun t ht hW => ⟨⟨_, (), rfl, rfl, by rw [ht]; exact hP, va_K.moved hW.alike hK, hD⟩, hS.F ht⟩) hS.2.2 dX1_joined_22
  · have h := (if_neg c9).symm.trans h
    refine lv_ldc2 (v := 9218868437227405312) hx hb hown (hws _ ww_108) dX1_joined_7 ?_
    obtain h09 := rt1 h
    subst o_r
    exact W.lret hx hb hr (fun t ht hW => ⟨⟨_, (), rfl, rfl, by rw [ht]; exact hP, va_K.moved hW.alike hK, hD⟩, hS.F ht⟩) hS.2.2 dX1_joined_10
