set_option maxHeartbeats 4000000 in
set_option maxRecDepth 100000 in
theorem w_X1_takeEdges_45 (l : Launch) {p : Program} {e : Env} {s : State} {m : MethodId} {args : Array Value} {below : List Frame} {meth : Method} {c : Code} {A : Nat → Prop} {dC : Nat → ClassId} {dI : Nat → Nat → Nat} (a_this a_text a_number a_rounded a_lowEdge a_lowEdge_limbs a_highEdge a_highEdge_limbs : Nat) (c_lowEdge_limbs c_highEdge_limbs : ClassId) (hx : p.tables.exec = Jvm.exec) (hb : c.code = cX1_takeEdges) (hr : meth.sig.returnType = none) (hml : c.maxLocals = 7) (hown : s.vm.findClass RX1 = some m.cls) (hws : ∀ w ∈ wsL_law, w.before args s = true) (hlocks : meth.locks = false) (hA : ∀ q : Nat, s.heap.size ≤ q → A q) : ∀ (l3 : Int32) (l5 : Int64) (s1 : Int64) (s2 : Int32) (v_length : Int32) (v_digitsStart : Int32) (v_digitsEnd : Int32) (v_unitsAt : Int32) (v_tenPower : Int32) (v_lowEdge_first : Int32) (v_lowEdge_last : Int32) (v_lowEdge_limbs : Nat → Int64) (v_highEdge_first : Int32) (v_highEdge_last : Int32) (v_highEdge_limbs : Nat → Int64) (o_lowEdge_first : Int32) (o_lowEdge_last : Int32) (o_lowEdge_limbs : Nat → Int64) (o_highEdge_first : Int32) (o_highEdge_last : Int32) (o_highEdge_limbs : Nat → Int64), f_X1_takeEdges_b45 l3 l5 s1 s2 v_lowEdge_first v_lowEdge_last v_lowEdge_limbs v_highEdge_first v_highEdge_last v_highEdge_limbs = some (o_lowEdge_first, o_lowEdge_last, o_lowEdge_limbs, o_highEdge_first, o_highEdge_last, o_highEdge_limbs) → ∀ (H : Heap) (locs : List Loc), va_K (dC, dI) vwCl [(c_lowEdge_limbs, .long), (c_highEdge_limbs, .long)] s → va_P (dC, dI) vwCl (wd_X1_takeEdges a_this a_text a_number a_rounded a_lowEdge a_lowEdge_limbs a_highEdge a_highEdge_limbs c_lowEdge_limbs c_highEdge_limbs v_length v_digitsStart v_digitsEnd v_unitsAt v_tenPower v_lowEdge_first v_lowEdge_last v_lowEdge_limbs v_highEdge_first v_highEdge_last v_highEdge_limbs) H → va_D A (wd_X1_takeEdges a_this a_text a_number a_rounded a_lowEdge a_lowEdge_limbs a_highEdge a_highEdge_limbs c_lowEdge_limbs c_highEdge_limbs v_length v_digitsStart v_digitsEnd v_unitsAt v_tenPower v_lowEdge_first v_lowEdge_last v_lowEdge_limbs v_highEdge_first v_highEdge_last v_highEdge_limbs) → va_S A s.heap H locs → ∀ (ls : Array Slot), lv_has ls 7 [(0, .ref a_this), (3, .int l3), (5, .long l5)] → W p l e (headSpec (w_X1_takeEdges) ({ frames := 4, cells := 0, slots := 0, locals := 93 } : Room)).room s m args below meth c H locs 0 0 (MQ below (va_Qv (fun (_ : Unit) => True) (fun (_ : Unit) t => va_P (dC, dI) vwCl (wd_X1_takeEdges a_this a_text a_number a_rounded a_lowEdge a_lowEdge_limbs a_highEdge a_highEdge_limbs c_lowEdge_limbs c_highEdge_limbs v_length v_digitsStart v_digitsEnd v_unitsAt v_tenPower o_lowEdge_first o_lowEdge_last o_lowEdge_limbs o_highEdge_first o_highEdge_last o_highEdge_limbs) t.heap ∧ va_K (dC, dI) vwCl [(c_lowEdge_limbs, .long), (c_highEdge_limbs, .long)] t ∧ va_D A (wd_X1_takeEdges a_this a_text a_number a_rounded a_lowEdge a_lowEdge_limbs a_highEdge a_highEdge_limbs c_lowEdge_limbs c_highEdge_limbs v_length v_digitsStart v_digitsEnd v_unitsAt v_tenPower o_lowEdge_first o_lowEdge_last o_lowEdge_limbs o_highEdge_first o_highEdge_last o_highEdge_limbs)) A) args s 0 0 A) (F0 m 45 ls [.int s2, .long s1, .ref a_lowEdge]) := by
  intro l3 l5 s1 s2 v_length v_digitsStart v_digitsEnd v_unitsAt v_tenPower v_lowEdge_first v_lowEdge_last v_lowEdge_limbs v_highEdge_first v_highEdge_last v_highEdge_limbs o_lowEdge_first o_lowEdge_last o_lowEdge_limbs o_highEdge_first o_highEdge_last o_highEdge_limbs h H locs hK hP hD hS ls hl
  unfold f_X1_takeEdges_b45 at h
  refine lv_i2l hx hb dX1_takeEdges_45 rfl ?_
  refine lv_lsub hx hb dX1_takeEdges_46 ?_
  refine lv_iload_n hx hb dX1_takeEdges_47 rfl (lv_at hl 1 rfl) ?_
  refine lv_iconst (v := 2) hx hb dX1_takeEdges_48 (by decide) ?_
  refine lv_isub hx hb dX1_takeEdges_49 ?_
  obtain ⟨⟨v_lowEdge_first_50, v_lowEdge_last_50, v_lowEdge_limbs_50⟩, hc, h⟩ := bd h
  dsimp only at h
  have hPc := hP.sub (ws' := (wd_X0_takeScaled a_lowEdge a_lowEdge_limbs c_lowEdge_limbs v_lowEdge_first v_lowEdge_last v_lowEdge_limbs)) [1, 2] rfl
  have hDc := hD.sub (ws' := (wd_X0_takeScaled a_lowEdge a_lowEdge_limbs c_lowEdge_limbs v_lowEdge_first v_lowEdge_last v_lowEdge_limbs)) [1, 2] (by decide) rfl
  have hKc := hK.sub (tys' := [(c_lowEdge_limbs, .long)]) [0] rfl
  have hFc := va_free (wc := (wd_X0_takeScaled a_lowEdge a_lowEdge_limbs c_lowEdge_limbs v_lowEdge_first v_lowEdge_last v_lowEdge_limbs)) hD hS hA [1, 2] rfl
  refine va_callv (va_runV (As := [.long (s1 - (Int32.toInt64 s2)), .int (l3 - 2)]) (rest := []) ⟨hx, hb, hml, hown, hws⟩ (c_X0_takeScaled l dC dI  a_lowEdge a_lowEdge_limbs c_lowEdge_limbs (Array.size H) (s1 - (Int32.toInt64 s2)) (l3 - 2) v_lowEdge_first v_lowEdge_last v_lowEdge_limbs v_lowEdge_first_50 v_lowEdge_last_50 v_lowEdge_limbs_50 hc) (cwV 2 hws (gV ww_304 ww_305 ww_306 ww_18 ww_307) rfl rfl rfl (by decide +kernel) ⟨Nat.le_of_ble_eq_true rfl, Nat.le_of_ble_eq_true rfl⟩) ⟨(fun a U g mk q => by obtain ⟨q0, q1, qP, qK, qD⟩ := q; exact ⟨q0, q1, qP, va_K.moved (u := U) (U := U.calling g mk a) (Vm.Alike.refl U.vm) qK, qD⟩), va_recv hKc hPc (ci := 0) (q0 := 0) rfl rfl, (fun U hU hW => ⟨rfl, by rw [hU], by rw [hU]; exact hPc, va_K.moved hW.alike hKc, hDc.weaken (fun _ _ _ _ => trivial)⟩)⟩ rfl rfl hl.1 rfl (lv_room (Nat.le_of_ble_eq_true rfl)) dX1_takeEdges_50 ⟨Nat.zero_le _, Nat.zero_le _⟩) hS (fun q _ h => hFc q h) hFc (fun u9 t H1 locs ht hvm hw hB hz1 hk1 hS => ?_)
  obtain ⟨hP1, hK1, hD1⟩ := hB
  rw [ht] at hP1
  obtain ⟨hP, hD⟩ := va_join (wr := [(a_this, .inr (1, [.ref a_text, .int v_length, .int v_digitsStart, .int v_digitsEnd, .int v_unitsAt, .int v_tenPower, .ref a_number, .ref a_rounded, .ref a_lowEdge, .ref a_highEdge])), (a_highEdge, .inr (0, [.ref a_highEdge_limbs, .int v_highEdge_first, .int v_highEdge_last])), (a_highEdge_limbs, .inl (c_highEdge_limbs, 160, .inr (.inl v_highEdge_limbs)))]) (w1 := (wd_X0_takeScaled a_lowEdge a_lowEdge_limbs c_lowEdge_limbs v_lowEdge_first_50 v_lowEdge_last_50 v_lowEdge_limbs_50)) hP hD [1, 2] [0, 3, 4] rfl rfl (by decide) (by decide) hk1 hFc hP1 hD1
  generalize H1 = H at hP hS ⊢
  have hP : va_P (dC, dI) vwCl (wd_X1_takeEdges a_this a_text a_number a_rounded a_lowEdge a_lowEdge_limbs a_highEdge a_highEdge_limbs c_lowEdge_limbs c_highEdge_limbs v_length v_digitsStart v_digitsEnd v_unitsAt v_tenPower v_lowEdge_first_50 v_lowEdge_last_50 v_lowEdge_limbs_50 v_highEdge_first v_highEdge_last v_highEdge_limbs) H := hP.sub [0, 3, 4, 1, 2] rfl
  have hD : va_D A (wd_X1_takeEdges a_this a_text a_number a_rounded a_lowEdge a_lowEdge_limbs a_highEdge a_highEdge_limbs c_lowEdge_limbs c_highEdge_limbs v_length v_digitsStart v_digitsEnd v_unitsAt v_tenPower v_lowEdge_first_50 v_lowEdge_last_50 v_lowEdge_limbs_50 v_highEdge_first v_highEdge_last v_highEdge_limbs) := hD.sub [0, 3, 4, 1, 2] (by decide) rfl
  clear hP1 hK1 hD1 hPc hDc hKc hFc hk1 hz1 ht hvm
  refine lv_aload_n hx hb dX1_takeEdges_53 rfl (lv_at hl 0 rfl) ?_
  refine va_get (D := (dC, dI)) (ci := 1) (v := .ref a_highEdge) (C := RX1) (T := TX1) (N := 10) hx hb hws inlX1 hown hK hP 0 rfl rfl 9 (by decide) (hws _ ww_22) (fun _ h9 => h9) rfl dX1_takeEdges_54 ?_
  refine lv_lload hx hb dX1_takeEdges_57 (lv_at hl 2 rfl) ?_
  refine lv_ldc2 (v := 2) hx hb hown (hws _ ww_361) dX1_takeEdges_59 ?_
  refine lv_ladd hx hb dX1_takeEdges_62 ?_
  refine lv_iload_n hx hb dX1_takeEdges_63 rfl (lv_at hl 1 rfl) ?_
  refine lv_iconst (v := 2) hx hb dX1_takeEdges_64 (by decide) ?_
  refine lv_isub hx hb dX1_takeEdges_65 ?_
  obtain ⟨⟨v_highEdge_first_66, v_highEdge_last_66, v_highEdge_limbs_66⟩, hc, h⟩ := bd h
  dsimp only at h
  have hPc := hP.sub (ws' := (wd_X0_takeScaled a_highEdge a_highEdge_limbs c_highEdge_limbs v_highEdge_first v_highEdge_last v_highEdge_limbs)) [3, 4] rfl
  have hDc := hD.sub (ws' := (wd_X0_takeScaled a_highEdge a_highEdge_limbs c_highEdge_limbs v_highEdge_first v_highEdge_last v_highEdge_limbs)) [3, 4] (by decide) rfl
  have hKc := hK.sub (tys' := [(c_highEdge_limbs, .long)]) [1] rfl
  have hFc := va_free (wc := (wd_X0_takeScaled a_highEdge a_highEdge_limbs c_highEdge_limbs v_highEdge_first v_highEdge_last v_highEdge_limbs)) hD hS hA [3, 4] rfl
  refine va_callv (va_runV (As := [.long (l5 + 2), .int (l3 - 2)]) (rest := []) ⟨hx, hb, hml, hown, hws⟩ (c_X0_takeScaled l dC dI  a_highEdge a_highEdge_limbs c_highEdge_limbs (Array.size H) (l5 + 2) (l3 - 2) v_highEdge_first v_highEdge_last v_highEdge_limbs v_highEdge_first_66 v_highEdge_last_66 v_highEdge_limbs_66 hc) (cwV 2 hws (gV ww_304 ww_305 ww_306 ww_18 ww_307) rfl rfl rfl (by decide +kernel) ⟨Nat.le_of_ble_eq_true rfl, Nat.le_of_ble_eq_true rfl⟩) ⟨(fun a U g mk q => by obtain ⟨q0, q1, qP, qK, qD⟩ := q; exact ⟨q0, q1, qP, va_K.moved (u := U) (U := U.calling g mk a) (Vm.Alike.refl U.vm) qK, qD⟩), va_recv hKc hPc (ci := 0) (q0 := 0) rfl rfl, (fun U hU hW => ⟨rfl, by rw [hU], by rw [hU]; exact hPc, va_K.moved hW.alike hKc, hDc.weaken (fun _ _ _ _ => trivial)⟩)⟩ rfl rfl hl.1 rfl (lv_room (Nat.le_of_ble_eq_true rfl)) dX1_takeEdges_66 ⟨Nat.zero_le _, Nat.zero_le _⟩) hS (fun q _ h => hFc q h) hFc (fun u9 t H1 locs ht hvm hw hB hz1 hk1 hS => ?_)
  obtain ⟨hP1, hK1, hD1⟩ := hB
  rw [ht] at hP1
  obtain ⟨hP, hD⟩ := va_join (wr := [(a_this, .inr (1, [.ref a_text, .int v_length, .int v_digitsStart, .int v_digitsEnd, .int v_unitsAt, .int v_tenPower, .ref a_number, .ref a_rounded, .ref a_lowEdge, .ref a_highEdge])), (a_lowEdge, .inr (0, [.ref a_lowEdge_limbs, .int v_lowEdge_first_50, .int v_lowEdge_last_50])), (a_lowEdge_limbs, .inl (c_lowEdge_limbs, 160, .inr (.inl v_lowEdge_limbs_50)))]) (w1 := (wd_X0_takeScaled a_highEdge a_highEdge_limbs c_highEdge_limbs v_highEdge_first_66 v_highEdge_last_66 v_highEdge_limbs_66)) hP hD [3, 4] [0, 1, 2] rfl rfl (by decide) (by decide) hk1 hFc hP1 hD1
  generalize H1 = H at hP hS ⊢
  have hP : va_P (dC, dI) vwCl (wd_X1_takeEdges a_this a_text a_number a_rounded a_lowEdge a_lowEdge_limbs a_highEdge a_highEdge_limbs c_lowEdge_limbs c_highEdge_limbs v_length v_digitsStart v_digitsEnd v_unitsAt v_tenPower v_lowEdge_first_50 v_lowEdge_last_50 v_lowEdge_limbs_50 v_highEdge_first_66 v_highEdge_last_66 v_highEdge_limbs_66) H := hP.sub [0, 1, 2, 3, 4] rfl
  have hD : va_D A (wd_X1_takeEdges a_this a_text a_number a_rounded a_lowEdge a_lowEdge_limbs a_highEdge a_highEdge_limbs c_lowEdge_limbs c_highEdge_limbs v_length v_digitsStart v_digitsEnd v_unitsAt v_tenPower v_lowEdge_first_50 v_lowEdge_last_50 v_lowEdge_limbs_50 v_highEdge_first_66 v_highEdge_last_66 v_highEdge_limbs_66) := hD.sub [0, 1, 2, 3, 4] (by decide) rfl
  clear hP1 hK1 hD1 hPc hDc hKc hFc hk1 hz1 ht hvm
  obtain ⟨h09, h19, h29, h39, h49, h59⟩ := rt6 h
  subst o_lowEdge_first
  subst o_lowEdge_last
  subst o_lowEdge_limbs
  subst o_highEdge_first
  subst o_highEdge_last
  subst o_highEdge_limbs
  exact W.vret hx hb hr (fun t ht hW => ⟨⟨(), rfl, trivial, by rw [ht]; exact hP, va_K.moved hW.alike hK, hD⟩, hS.F ht⟩) hS.2.2 dX1_takeEdges_69
set_option maxHeartbeats 4000000 in
set_option maxRecDepth 100000 in
theorem w_X1_takeEdges_20 (l : Launch) {p : Program} {e : Env} {s : State} {m : MethodId} {args : Array Value} {below : List Frame} {meth : Method} {c : Code} {A : Nat → Prop} {dC : Nat → ClassId} {dI : Nat → Nat → Nat} (a_this a_text a_number a_rounded a_lowEdge a_lowEdge_limbs a_highEdge a_highEdge_limbs : Nat) (c_lowEdge_limbs c_highEdge_limbs : ClassId) (hx : p.tables.exec = Jvm.exec) (hb : c.code = cX1_takeEdges) (hr : meth.sig.returnType = none) (hml : c.maxLocals = 7) (hown : s.vm.findClass RX1 = some m.cls) (hws : ∀ w ∈ wsL_law, w.before args s = true) (hlocks : meth.locks = false) (hA : ∀ q : Nat, s.heap.size ≤ q → A q) : ∀ (l1 : Int64) (l3 : Int32) (s0 : Int32) (v_length : Int32) (v_digitsStart : Int32) (v_digitsEnd : Int32) (v_unitsAt : Int32) (v_tenPower : Int32) (v_lowEdge_first : Int32) (v_lowEdge_last : Int32) (v_lowEdge_limbs : Nat → Int64) (v_highEdge_first : Int32) (v_highEdge_last : Int32) (v_highEdge_limbs : Nat → Int64) (o_lowEdge_first : Int32) (o_lowEdge_last : Int32) (o_lowEdge_limbs : Nat → Int64) (o_highEdge_first : Int32) (o_highEdge_last : Int32) (o_highEdge_limbs : Nat → Int64), f_X1_takeEdges_b20 l1 l3 s0 v_lowEdge_first v_lowEdge_last v_lowEdge_limbs v_highEdge_first v_highEdge_last v_highEdge_limbs = some (o_lowEdge_first, o_lowEdge_last, o_lowEdge_limbs, o_highEdge_first, o_highEdge_last, o_highEdge_limbs) → ∀ (H : Heap) (locs : List Loc), va_K (dC, dI) vwCl [(c_lowEdge_limbs, .long), (c_highEdge_limbs, .long)] s → va_P (dC, dI) vwCl (wd_X1_takeEdges a_this a_text a_number a_rounded a_lowEdge a_lowEdge_limbs a_highEdge a_highEdge_limbs c_lowEdge_limbs c_highEdge_limbs v_length v_digitsStart v_digitsEnd v_unitsAt v_tenPower v_lowEdge_first v_lowEdge_last v_lowEdge_limbs v_highEdge_first v_highEdge_last v_highEdge_limbs) H → va_D A (wd_X1_takeEdges a_this a_text a_number a_rounded a_lowEdge a_lowEdge_limbs a_highEdge a_highEdge_limbs c_lowEdge_limbs c_highEdge_limbs v_length v_digitsStart v_digitsEnd v_unitsAt v_tenPower v_lowEdge_first v_lowEdge_last v_lowEdge_limbs v_highEdge_first v_highEdge_last v_highEdge_limbs) → va_S A s.heap H locs → ∀ (ls : Array Slot), lv_has ls 7 [(0, .ref a_this), (1, .long l1), (3, .int l3)] → W p l e (headSpec (w_X1_takeEdges) ({ frames := 4, cells := 0, slots := 0, locals := 93 } : Room)).room s m args below meth c H locs 0 0 (MQ below (va_Qv (fun (_ : Unit) => True) (fun (_ : Unit) t => va_P (dC, dI) vwCl (wd_X1_takeEdges a_this a_text a_number a_rounded a_lowEdge a_lowEdge_limbs a_highEdge a_highEdge_limbs c_lowEdge_limbs c_highEdge_limbs v_length v_digitsStart v_digitsEnd v_unitsAt v_tenPower o_lowEdge_first o_lowEdge_last o_lowEdge_limbs o_highEdge_first o_highEdge_last o_highEdge_limbs) t.heap ∧ va_K (dC, dI) vwCl [(c_lowEdge_limbs, .long), (c_highEdge_limbs, .long)] t ∧ va_D A (wd_X1_takeEdges a_this a_text a_number a_rounded a_lowEdge a_lowEdge_limbs a_highEdge a_highEdge_limbs c_lowEdge_limbs c_highEdge_limbs v_length v_digitsStart v_digitsEnd v_unitsAt v_tenPower o_lowEdge_first o_lowEdge_last o_lowEdge_limbs o_highEdge_first o_highEdge_last o_highEdge_limbs)) A) args s 0 0 A) (F0 m 20 ls [.int s0]) := by
  intro l1 l3 s0 v_length v_digitsStart v_digitsEnd v_unitsAt v_tenPower v_lowEdge_first v_lowEdge_last v_lowEdge_limbs v_highEdge_first v_highEdge_last v_highEdge_limbs o_lowEdge_first o_lowEdge_last o_lowEdge_limbs o_highEdge_first o_highEdge_last o_highEdge_limbs h H locs hK hP hD hS ls hl
  unfold f_X1_takeEdges_b20 at h
  refine lv_istore (lv' := [(4, .int s0), (0, .ref a_this), (1, .long l1), (3, .int l3)]) hx hb dX1_takeEdges_20 hl (by decide) rfl (fun ls hl => ?_)
  refine lv_ldc2 (v := 4) hx hb hown (hws _ ww_366) dX1_takeEdges_22 ?_
  refine lv_lload_n hx hb dX1_takeEdges_25 rfl (lv_at hl 2 rfl) ?_
  refine lv_lmul hx hb dX1_takeEdges_26 ?_
  refine lv_lstore (lv' := [(5, .long (4 * l1)), (4, .int s0), (0, .ref a_this), (1, .long l1), (3, .int l3)]) hx hb dX1_takeEdges_27 hl (by decide) rfl (fun ls hl => ?_)
  refine lv_aload_n hx hb dX1_takeEdges_29 rfl (lv_at hl 2 rfl) ?_
  refine va_get (D := (dC, dI)) (ci := 1) (v := .ref a_lowEdge) (C := RX1) (T := TX1) (N := 10) hx hb hws inlX1 hown hK hP 0 rfl rfl 8 (by decide) (hws _ ww_21) (fun _ h9 => h9) rfl dX1_takeEdges_30 ?_
  refine lv_lload hx hb dX1_takeEdges_33 (lv_at hl 0 rfl) ?_
  refine lv_iload hx hb dX1_takeEdges_35 (lv_at hl 1 rfl) ?_
  refine lv_if_eq (tgt := 44) hx hb dX1_takeEdges_37 (by decide) (fun c9 => ?_) (fun c9 => ?_)
  · have h := (if_pos c9).symm.trans h
    refine lv_iconst (v := 2) hx hb dX1_takeEdges_44 (by decide) ?_
    exact w_X1_takeEdges_45 l a_this a_text a_number a_rounded a_lowEdge a_lowEdge_limbs a_highEdge a_highEdge_limbs c_lowEdge_limbs c_highEdge_limbs hx hb hr hml hown hws hlocks hA l3 (4 * l1) (4 * l1) 2 v_length v_digitsStart v_digitsEnd v_unitsAt v_tenPower v_lowEdge_first v_lowEdge_last v_lowEdge_limbs v_highEdge_first v_highEdge_last v_highEdge_limbs o_lowEdge_first o_lowEdge_last o_lowEdge_limbs o_highEdge_first o_highEdge_last o_highEdge_limbs h H locs hK hP hD hS ls (lv_sub hl [2, 4, 0] rfl)
  · have h := (if_neg c9).symm.trans h
    refine lv_iconst (v := 1) hx hb dX1_takeEdges_40 (by decide) ?_
    refine lv_goto (tgt := 45) hx hb dX1_takeEdges_41 (by decide) ?_
    exact w_X1_takeEdges_45 l a_this a_text a_number a_rounded a_lowEdge a_lowEdge_limbs a_highEdge a_highEdge_limbs c_lowEdge_limbs c_highEdge_limbs hx hb hr hml hown hws hlocks hA l3 (4 * l1) (4 * l1) 1 v_length v_digitsStart v_digitsEnd v_unitsAt v_tenPower v_lowEdge_first v_lowEdge_last v_lowEdge_limbs v_highEdge_first v_highEdge_last v_highEdge_limbs o_lowEdge_first o_lowEdge_last o_lowEdge_limbs o_highEdge_first o_highEdge_last o_highEdge_limbs h H locs hK hP hD hS ls (lv_sub hl [2, 4, 0] rfl)
set_option maxHeartbeats 4000000 in
set_option maxRecDepth 100000 in
theorem w_X1_takeEdges_19 (l : Launch) {p : Program} {e : Env} {s : State} {m : MethodId} {args : Array Value} {below : List Frame} {meth : Method} {c : Code} {A : Nat → Prop} {dC : Nat → ClassId} {dI : Nat → Nat → Nat} (a_this a_text a_number a_rounded a_lowEdge a_lowEdge_limbs a_highEdge a_highEdge_limbs : Nat) (c_lowEdge_limbs c_highEdge_limbs : ClassId) (hx : p.tables.exec = Jvm.exec) (hb : c.code = cX1_takeEdges) (hr : meth.sig.returnType = none) (hml : c.maxLocals = 7) (hown : s.vm.findClass RX1 = some m.cls) (hws : ∀ w ∈ wsL_law, w.before args s = true) (hlocks : meth.locks = false) (hA : ∀ q : Nat, s.heap.size ≤ q → A q) : ∀ (l1 : Int64) (l3 : Int32) (v_length : Int32) (v_digitsStart : Int32) (v_digitsEnd : Int32) (v_unitsAt : Int32) (v_tenPower : Int32) (v_lowEdge_first : Int32) (v_lowEdge_last : Int32) (v_lowEdge_limbs : Nat → Int64) (v_highEdge_first : Int32) (v_highEdge_last : Int32) (v_highEdge_limbs : Nat → Int64) (o_lowEdge_first : Int32) (o_lowEdge_last : Int32) (o_lowEdge_limbs : Nat → Int64) (o_highEdge_first : Int32) (o_highEdge_last : Int32) (o_highEdge_limbs : Nat → Int64), f_X1_takeEdges_b19 l1 l3 v_lowEdge_first v_lowEdge_last v_lowEdge_limbs v_highEdge_first v_highEdge_last v_highEdge_limbs = some (o_lowEdge_first, o_lowEdge_last, o_lowEdge_limbs, o_highEdge_first, o_highEdge_last, o_highEdge_limbs) → ∀ (H : Heap) (locs : List Loc), va_K (dC, dI) vwCl [(c_lowEdge_limbs, .long), (c_highEdge_limbs, .long)] s → va_P (dC, dI) vwCl (wd_X1_takeEdges a_this a_text a_number a_rounded a_lowEdge a_lowEdge_limbs a_highEdge a_highEdge_limbs c_lowEdge_limbs c_highEdge_limbs v_length v_digitsStart v_digitsEnd v_unitsAt v_tenPower v_lowEdge_first v_lowEdge_last v_lowEdge_limbs v_highEdge_first v_highEdge_last v_highEdge_limbs) H → va_D A (wd_X1_takeEdges a_this a_text a_number a_rounded a_lowEdge a_lowEdge_limbs a_highEdge a_highEdge_limbs c_lowEdge_limbs c_highEdge_limbs v_length v_digitsStart v_digitsEnd v_unitsAt v_tenPower v_lowEdge_first v_lowEdge_last v_lowEdge_limbs v_highEdge_first v_highEdge_last v_highEdge_limbs) → va_S A s.heap H locs → ∀ (ls : Array Slot), lv_has ls 7 [(0, .ref a_this), (1, .long l1), (3, .int l3)] → W p l e (headSpec (w_X1_takeEdges) ({ frames := 4, cells := 0, slots := 0, locals := 93 } : Room)).room s m args below meth c H locs 0 0 (MQ below (va_Qv (fun (_ : Unit) => True) (fun (_ : Unit) t => va_P (dC, dI) vwCl (wd_X1_takeEdges a_this a_text a_number a_rounded a_lowEdge a_lowEdge_limbs a_highEdge a_highEdge_limbs c_lowEdge_limbs c_highEdge_limbs v_length v_digitsStart v_digitsEnd v_unitsAt v_tenPower o_lowEdge_first o_lowEdge_last o_lowEdge_limbs o_highEdge_first o_highEdge_last o_highEdge_limbs) t.heap ∧ va_K (dC, dI) vwCl [(c_lowEdge_limbs, .long), (c_highEdge_limbs, .long)] t ∧ va_D A (wd_X1_takeEdges a_this a_text a_number a_rounded a_lowEdge a_lowEdge_limbs a_highEdge a_highEdge_limbs c_lowEdge_limbs c_highEdge_limbs v_length v_digitsStart v_digitsEnd v_unitsAt v_tenPower o_lowEdge_first o_lowEdge_last o_lowEdge_limbs o_highEdge_first o_highEdge_last o_highEdge_limbs)) A) args s 0 0 A) (F0 m 19 ls []) := by
  intro l1 l3 v_length v_digitsStart v_digitsEnd v_unitsAt v_tenPower v_lowEdge_first v_lowEdge_last v_lowEdge_limbs v_highEdge_first v_highEdge_last v_highEdge_limbs o_lowEdge_first o_lowEdge_last o_lowEdge_limbs o_highEdge_first o_highEdge_last o_highEdge_limbs h H locs hK hP hD hS ls hl
  unfold f_X1_takeEdges_b19 at h
  refine lv_iconst (v := 0) hx hb dX1_takeEdges_19 (by decide) ?_
  exact w_X1_takeEdges_20 l a_this a_text a_number a_rounded a_lowEdge a_lowEdge_limbs a_highEdge a_highEdge_limbs c_lowEdge_limbs c_highEdge_limbs hx hb hr hml hown hws hlocks hA l1 l3 0 v_length v_digitsStart v_digitsEnd v_unitsAt v_tenPower v_lowEdge_first v_lowEdge_last v_lowEdge_limbs v_highEdge_first v_highEdge_last v_highEdge_limbs o_lowEdge_first o_lowEdge_last o_lowEdge_limbs o_highEdge_first o_highEdge_last o_highEdge_limbs h H locs hK hP hD hS ls (lv_sub hl [0, 1, 2] rfl)
set_option maxHeartbeats 4000000 in
set_option maxRecDepth 100000 in
theorem c_X1_takeEdges (l : Launch) (dC : Nat → ClassId) (dI : Nat → Nat → Nat)  (a_this a_text a_number a_rounded a_lowEdge a_lowEdge_limbs a_highEdge a_highEdge_limbs : Nat) (c_lowEdge_limbs c_highEdge_limbs : ClassId) (sz : Nat) (l1 : Int64) (l3 : Int32) (v_length : Int32) (v_digitsStart : Int32) (v_digitsEnd : Int32) (v_unitsAt : Int32) (v_tenPower : Int32) (v_lowEdge_first : Int32) (v_lowEdge_last : Int32) (v_lowEdge_limbs : Nat → Int64) (v_highEdge_first : Int32) (v_highEdge_last : Int32) (v_highEdge_limbs : Nat → Int64) (o_lowEdge_first : Int32) (o_lowEdge_last : Int32) (o_lowEdge_limbs : Nat → Int64) (o_highEdge_first : Int32) (o_highEdge_last : Int32) (o_highEdge_limbs : Nat → Int64) (h : f_X1_takeEdges l1 l3 v_lowEdge_first v_lowEdge_last v_lowEdge_limbs v_highEdge_first v_highEdge_last v_highEdge_limbs = some (o_lowEdge_first, o_lowEdge_last, o_lowEdge_limbs, o_highEdge_first, o_highEdge_last, o_highEdge_limbs)) : Met l yX1_takeEdges w_X1_takeEdges ({ frames := 4, cells := 0, slots := 0, locals := 93 } : Room) (va_Pc [.ref a_this, .long l1, .int l3] (fun U => U.heap.size = sz ∧ va_P (dC, dI) vwCl (wd_X1_takeEdges a_this a_text a_number a_rounded a_lowEdge a_lowEdge_limbs a_highEdge a_highEdge_limbs c_lowEdge_limbs c_highEdge_limbs v_length v_digitsStart v_digitsEnd v_unitsAt v_tenPower v_lowEdge_first v_lowEdge_last v_lowEdge_limbs v_highEdge_first v_highEdge_last v_highEdge_limbs) U.heap ∧ va_K (dC, dI) vwCl [(c_lowEdge_limbs, .long), (c_highEdge_limbs, .long)] U ∧ va_D (fun _ => True) (wd_X1_takeEdges a_this a_text a_number a_rounded a_lowEdge a_lowEdge_limbs a_highEdge a_highEdge_limbs c_lowEdge_limbs c_highEdge_limbs v_length v_digitsStart v_digitsEnd v_unitsAt v_tenPower v_lowEdge_first v_lowEdge_last v_lowEdge_limbs v_highEdge_first v_highEdge_last v_highEdge_limbs))) (va_Qv (fun (_ : Unit) => True) (fun (_ : Unit) t => va_P (dC, dI) vwCl (wd_X1_takeEdges a_this a_text a_number a_rounded a_lowEdge a_lowEdge_limbs a_highEdge a_highEdge_limbs c_lowEdge_limbs c_highEdge_limbs v_length v_digitsStart v_digitsEnd v_unitsAt v_tenPower o_lowEdge_first o_lowEdge_last o_lowEdge_limbs o_highEdge_first o_highEdge_last o_highEdge_limbs) t.heap ∧ va_K (dC, dI) vwCl [(c_lowEdge_limbs, .long), (c_highEdge_limbs, .long)] t ∧ va_D (va_A (wd_X1_takeEdges a_this a_text a_number a_rounded a_lowEdge a_lowEdge_limbs a_highEdge a_highEdge_limbs c_lowEdge_limbs c_highEdge_limbs v_length v_digitsStart v_digitsEnd v_unitsAt v_tenPower v_lowEdge_first v_lowEdge_last v_lowEdge_limbs v_highEdge_first v_highEdge_last v_highEdge_limbs) sz) (wd_X1_takeEdges a_this a_text a_number a_rounded a_lowEdge a_lowEdge_limbs a_highEdge a_highEdge_limbs c_lowEdge_limbs c_highEdge_limbs v_length v_digitsStart v_digitsEnd v_unitsAt v_tenPower o_lowEdge_first o_lowEdge_last o_lowEdge_limbs o_highEdge_first o_highEdge_last o_highEdge_limbs)) (va_A (wd_X1_takeEdges a_this a_text a_number a_rounded a_lowEdge a_lowEdge_limbs a_highEdge a_highEdge_limbs c_lowEdge_limbs c_highEdge_limbs v_length v_digitsStart v_digitsEnd v_unitsAt v_tenPower v_lowEdge_first v_lowEdge_last v_lowEdge_limbs v_highEdge_first v_highEdge_last v_highEdge_limbs) sz)) 0 0 (va_A (wd_X1_takeEdges a_this a_text a_number a_rounded a_lowEdge a_lowEdge_limbs a_highEdge a_highEdge_limbs c_lowEdge_limbs c_highEdge_limbs v_length v_digitsStart v_digitsEnd v_unitsAt v_tenPower v_lowEdge_first v_lowEdge_last v_lowEdge_limbs v_highEdge_first v_highEdge_last v_highEdge_limbs) sz) := by
  refine Met.ofW (cc := cX1_takeEdges) (maxL := 7) (ret := none) (by decide) rfl ?_
  intro p e s m args below meth c s₁ B hml hv
  obtain ⟨rfl, hsz, hP, hK, hD0⟩ := hv
  have hx := B.exec
  have hb := B.bytes
  have hr := B.returns
  have hws : ∀ w ∈ wsL_law, w.before _ s = true := fun w hw => atoms_spec (ws := w_X1_takeEdges) B.pre w (List.mem_cons_of_mem _ hw)
  have hown : s.vm.findClass RX1 = some m.cls := findClass_of_methodNamed B.named
  have hlocks := B.notSynchronized
  subst hsz
  have hD := hD0.self (sz := s.heap.size)
  generalize hAe : va_A (wd_X1_takeEdges a_this a_text a_number a_rounded a_lowEdge a_lowEdge_limbs a_highEdge a_highEdge_limbs c_lowEdge_limbs c_highEdge_limbs v_length v_digitsStart v_digitsEnd v_unitsAt v_tenPower v_lowEdge_first v_lowEdge_last v_lowEdge_limbs v_highEdge_first v_highEdge_last v_highEdge_limbs) s.heap.size = A at hD ⊢
  have hA : ∀ q : Nat, s.heap.size ≤ q → A q := fun q h => by rw [← hAe]; exact Or.inr h
  have hS : va_S A s.heap s.heap [] := va_S.rf
  have hl := lv_entry ([.ref a_this, .long l1, .int l3]) (n := 7) (Nat.le_of_ble_eq_true rfl)
  rw [lg_entry_eq]
  generalize (lg_sl ([.ref a_this, .long l1, .int l3]) ++ List.replicate (7 - (lg_sl ([.ref a_this, .long l1, .int l3])).length) Slot.unset).toArray = ls at hl ⊢
  have hl : lv_has ls 7 [(0, .ref a_this), (1, .long l1), (3, .int l3)] := hl
  unfold f_X1_takeEdges at h
  refine lv_lload_n hx hb dX1_takeEdges_0 rfl (lv_at hl 1 rfl) ?_
  refine lv_ldc2 (v := 4503599627370496) hx hb hown (hws _ ww_300) dX1_takeEdges_1 ?_
  refine W.lcmp hx hb dX1_takeEdges_4 ?_
  refine lv_if_ne (tgt := 19) hx hb dX1_takeEdges_5 (by decide) (fun c9 => ?_) (fun c9 => ?_)
  · have h := (if_neg c9).symm.trans h
    exact w_X1_takeEdges_19 l a_this a_text a_number a_rounded a_lowEdge a_lowEdge_limbs a_highEdge a_highEdge_limbs c_lowEdge_limbs c_highEdge_limbs hx hb hr hml hown hws hlocks hA l1 l3 v_length v_digitsStart v_digitsEnd v_unitsAt v_tenPower v_lowEdge_first v_lowEdge_last v_lowEdge_limbs v_highEdge_first v_highEdge_last v_highEdge_limbs o_lowEdge_first o_lowEdge_last o_lowEdge_limbs o_highEdge_first o_highEdge_last o_highEdge_limbs h s.heap [] hK hP hD hS ls (lv_sub hl [0, 1, 2] rfl)
  · have h := (if_pos c9).symm.trans h
    refine lv_iload_n hx hb dX1_takeEdges_8 rfl (lv_at hl 2 rfl) ?_
    refine lv_sipush (v := (-1074)) hx hb dX1_takeEdges_9 (by decide) ?_
    refine lv_icmp_le (tgt := 19) hx hb dX1_takeEdges_12 (by decide) (fun c9 => ?_) (fun c9 => ?_)
    · have h := (if_pos c9).symm.trans h
      exact w_X1_takeEdges_19 l a_this a_text a_number a_rounded a_lowEdge a_lowEdge_limbs a_highEdge a_highEdge_limbs c_lowEdge_limbs c_highEdge_limbs hx hb hr hml hown hws hlocks hA l1 l3 v_length v_digitsStart v_digitsEnd v_unitsAt v_tenPower v_lowEdge_first v_lowEdge_last v_lowEdge_limbs v_highEdge_first v_highEdge_last v_highEdge_limbs o_lowEdge_first o_lowEdge_last o_lowEdge_limbs o_highEdge_first o_highEdge_last o_highEdge_limbs h s.heap [] hK hP hD hS ls (lv_sub hl [0, 1, 2] rfl)
    · have h := (if_neg c9).symm.trans h
      refine lv_iconst (v := 1) hx hb dX1_takeEdges_15 (by decide) ?_
      refine lv_goto (tgt := 20) hx hb dX1_takeEdges_16 (by decide) ?_
      exact w_X1_takeEdges_20 l a_this a_text a_number a_rounded a_lowEdge a_lowEdge_limbs a_highEdge a_highEdge_limbs c_lowEdge_limbs c_highEdge_limbs hx hb hr hml hown hws hlocks hA l1 l3 1 v_length v_digitsStart v_digitsEnd v_unitsAt v_tenPower v_lowEdge_first v_lowEdge_last v_lowEdge_limbs v_highEdge_first v_highEdge_last v_highEdge_limbs o_lowEdge_first o_lowEdge_last o_lowEdge_limbs o_highEdge_first o_highEdge_last o_highEdge_limbs h s.heap [] hK hP hD hS ls (lv_sub hl [0, 1, 2] rfl)
set_option maxHeartbeats 4000000 in
set_option maxRecDepth 100000 in
theorem c_X1_isBetweenEdges (l : Launch) (dC : Nat → ClassId) (dI : Nat → Nat → Nat)  (a_this a_text a_number a_rounded a_rounded_limbs a_lowEdge a_lowEdge_limbs a_highEdge a_highEdge_limbs : Nat) (c_rounded_limbs c_lowEdge_limbs c_highEdge_limbs : ClassId) (sz : Nat) (l1 : Int32) (v_length : Int32) (v_digitsStart : Int32) (v_digitsEnd : Int32) (v_unitsAt : Int32) (v_tenPower : Int32) (v_rounded_first : Int32) (v_rounded_last : Int32) (v_rounded_limbs : Nat → Int64) (v_lowEdge_first : Int32) (v_lowEdge_last : Int32) (v_lowEdge_limbs : Nat → Int64) (v_highEdge_first : Int32) (v_highEdge_last : Int32) (v_highEdge_limbs : Nat → Int64) (o_r : Int32) (h : f_X1_isBetweenEdges l1 v_rounded_first v_rounded_last v_rounded_limbs v_lowEdge_first v_lowEdge_last v_lowEdge_limbs v_highEdge_first v_highEdge_last v_highEdge_limbs = some o_r) : Met l yX1_isBetweenEdges w_X1_isBetweenEdges ({ frames := 2, cells := 0, slots := 0, locals := 44 } : Room) (va_Pc [.ref a_this, .int l1] (fun U => U.heap.size = sz ∧ va_P (dC, dI) vwCl (wd_X1_isBetweenEdges a_this a_text a_number a_rounded a_rounded_limbs a_lowEdge a_lowEdge_limbs a_highEdge a_highEdge_limbs c_rounded_limbs c_lowEdge_limbs c_highEdge_limbs v_length v_digitsStart v_digitsEnd v_unitsAt v_tenPower v_rounded_first v_rounded_last v_rounded_limbs v_lowEdge_first v_lowEdge_last v_lowEdge_limbs v_highEdge_first v_highEdge_last v_highEdge_limbs) U.heap ∧ va_K (dC, dI) vwCl [(c_rounded_limbs, .long), (c_lowEdge_limbs, .long), (c_highEdge_limbs, .long)] U ∧ va_D (fun _ => True) (wd_X1_isBetweenEdges a_this a_text a_number a_rounded a_rounded_limbs a_lowEdge a_lowEdge_limbs a_highEdge a_highEdge_limbs c_rounded_limbs c_lowEdge_limbs c_highEdge_limbs v_length v_digitsStart v_digitsEnd v_unitsAt v_tenPower v_rounded_first v_rounded_last v_rounded_limbs v_lowEdge_first v_lowEdge_last v_lowEdge_limbs v_highEdge_first v_highEdge_last v_highEdge_limbs))) (va_Qi (fun r9 (_ : Unit) => r9 = o_r) (fun (_ : Unit) t => va_P (dC, dI) vwCl (wd_X1_isBetweenEdges a_this a_text a_number a_rounded a_rounded_limbs a_lowEdge a_lowEdge_limbs a_highEdge a_highEdge_limbs c_rounded_limbs c_lowEdge_limbs c_highEdge_limbs v_length v_digitsStart v_digitsEnd v_unitsAt v_tenPower v_rounded_first v_rounded_last v_rounded_limbs v_lowEdge_first v_lowEdge_last v_lowEdge_limbs v_highEdge_first v_highEdge_last v_highEdge_limbs) t.heap ∧ va_K (dC, dI) vwCl [(c_rounded_limbs, .long), (c_lowEdge_limbs, .long), (c_highEdge_limbs, .long)] t ∧ va_D (va_A (wd_X1_isBetweenEdges a_this a_text a_number a_rounded a_rounded_limbs a_lowEdge a_lowEdge_limbs a_highEdge a_highEdge_limbs c_rounded_limbs c_lowEdge_limbs c_highEdge_limbs v_length v_digitsStart v_digitsEnd v_unitsAt v_tenPower v_rounded_first v_rounded_last v_rounded_limbs v_lowEdge_first v_lowEdge_last v_lowEdge_limbs v_highEdge_first v_highEdge_last v_highEdge_limbs) sz) (wd_X1_isBetweenEdges a_this a_text a_number a_rounded a_rounded_limbs a_lowEdge a_lowEdge_limbs a_highEdge a_highEdge_limbs c_rounded_limbs c_lowEdge_limbs c_highEdge_limbs v_length v_digitsStart v_digitsEnd v_unitsAt v_tenPower v_rounded_first v_rounded_last v_rounded_limbs v_lowEdge_first v_lowEdge_last v_lowEdge_limbs v_highEdge_first v_highEdge_last v_highEdge_limbs)) (va_A (wd_X1_isBetweenEdges a_this a_text a_number a_rounded a_rounded_limbs a_lowEdge a_lowEdge_limbs a_highEdge a_highEdge_limbs c_rounded_limbs c_lowEdge_limbs c_highEdge_limbs v_length v_digitsStart v_digitsEnd v_unitsAt v_tenPower v_rounded_first v_rounded_last v_rounded_limbs v_lowEdge_first v_lowEdge_last v_lowEdge_limbs v_highEdge_first v_highEdge_last v_highEdge_limbs) sz)) 0 0 (va_A (wd_X1_isBetweenEdges a_this a_text a_number a_rounded a_rounded_limbs a_lowEdge a_lowEdge_limbs a_highEdge a_highEdge_limbs c_rounded_limbs c_lowEdge_limbs c_highEdge_limbs v_length v_digitsStart v_digitsEnd v_unitsAt v_tenPower v_rounded_first v_rounded_last v_rounded_limbs v_lowEdge_first v_lowEdge_last v_lowEdge_limbs v_highEdge_first v_highEdge_last v_highEdge_limbs) sz) := by
  refine Met.ofW (cc := cX1_isBetweenEdges) (maxL := 4) (ret := (some .boolean)) (by decide) rfl ?_
  intro p e s m args below meth c s₁ B hml hv
  obtain ⟨rfl, hsz, hP, hK, hD0⟩ := hv
  have hx := B.exec
  have hb := B.bytes
  have hr := B.returns
  have hws : ∀ w ∈ wsL_law, w.before _ s = true := fun w hw => atoms_spec (ws := w_X1_isBetweenEdges) B.pre w (List.mem_cons_of_mem _ hw)
  have hown : s.vm.findClass RX1 = some m.cls := findClass_of_methodNamed B.named
  have hlocks := B.notSynchronized
  subst hsz
  have hD := hD0.self (sz := s.heap.size)
  generalize hAe : va_A (wd_X1_isBetweenEdges a_this a_text a_number a_rounded a_rounded_limbs a_lowEdge a_lowEdge_limbs a_highEdge a_highEdge_limbs c_rounded_limbs c_lowEdge_limbs c_highEdge_limbs v_length v_digitsStart v_digitsEnd v_unitsAt v_tenPower v_rounded_first v_rounded_last v_rounded_limbs v_lowEdge_first v_lowEdge_last v_lowEdge_limbs v_highEdge_first v_highEdge_last v_highEdge_limbs) s.heap.size = A at hD ⊢
  have hA : ∀ q : Nat, s.heap.size ≤ q → A q := fun q h => by rw [← hAe]; exact Or.inr h
  have hS : va_S A s.heap s.heap [] := va_S.rf
  have hl := lv_entry ([.ref a_this, .int l1]) (n := 4) (Nat.le_of_ble_eq_true rfl)
  rw [lg_entry_eq]
  generalize (lg_sl ([.ref a_this, .int l1]) ++ List.replicate (4 - (lg_sl ([.ref a_this, .int l1])).length) Slot.unset).toArray = ls at hl ⊢
  have hl : lv_has ls 4 [(0, .ref a_this), (1, .int l1)] := hl
  unfold f_X1_isBetweenEdges at h
  refine lv_aload_n hx hb dX1_isBetweenEdges_0 rfl (lv_at hl 0 rfl) ?_
  refine va_get (D := (dC, dI)) (ci := 1) (v := .ref a_rounded) (C := RX1) (T := TX1) (N := 10) hx hb hws inlX1 hown hK hP 0 rfl rfl 7 (by decide) (hws _ ww_20) (fun _ h9 => h9) rfl dX1_isBetweenEdges_1 ?_
  refine lv_aload_n hx hb dX1_isBetweenEdges_4 rfl (lv_at hl 0 rfl) ?_
  refine va_get (D := (dC, dI)) (ci := 1) (v := .ref a_lowEdge) (C := RX1) (T := TX1) (N := 10) hx hb hws inlX1 hown hK hP 0 rfl rfl 8 (by decide) (hws _ ww_21) (fun _ h9 => h9) rfl dX1_isBetweenEdges_5 ?_
  obtain ⟨r8, hc, h⟩ := bd h
  have hPc := hP.sub (ws' := (wd_X0_comparedTo a_rounded a_rounded_limbs a_lowEdge a_lowEdge_limbs c_rounded_limbs c_lowEdge_limbs v_rounded_first v_rounded_last v_rounded_limbs v_lowEdge_first v_lowEdge_last v_lowEdge_limbs)) [1, 2, 3, 4] rfl
  have hDc := hD.sub (ws' := (wd_X0_comparedTo a_rounded a_rounded_limbs a_lowEdge a_lowEdge_limbs c_rounded_limbs c_lowEdge_limbs v_rounded_first v_rounded_last v_rounded_limbs v_lowEdge_first v_lowEdge_last v_lowEdge_limbs)) [1, 2, 3, 4] (by decide) rfl
  have hKc := hK.sub (tys' := [(c_rounded_limbs, .long), (c_lowEdge_limbs, .long)]) [0, 1] rfl
  have hFc := va_free (wc := (wd_X0_comparedTo a_rounded a_rounded_limbs a_lowEdge a_lowEdge_limbs c_rounded_limbs c_lowEdge_limbs v_rounded_first v_rounded_last v_rounded_limbs v_lowEdge_first v_lowEdge_last v_lowEdge_limbs)) hD hS hA [1, 2, 3, 4] rfl
  refine va_calli (va_runV (As := [.ref a_lowEdge]) (rest := []) ⟨hx, hb, hml, hown, hws⟩ (c_X0_comparedTo l dC dI  a_rounded a_rounded_limbs a_lowEdge a_lowEdge_limbs c_rounded_limbs c_lowEdge_limbs (Array.size s.heap)  v_rounded_first v_rounded_last v_rounded_limbs v_lowEdge_first v_lowEdge_last v_lowEdge_limbs r8 hc) (cwV 1 hws (gV ww_375 ww_376 ww_377 ww_18 ww_378) rfl rfl rfl (by decide +kernel) ⟨Nat.le_of_ble_eq_true rfl, Nat.le_of_ble_eq_true rfl⟩) ⟨(fun a U g mk q => by obtain ⟨q0, q1, qP, qK, qD⟩ := q; exact ⟨q0, q1, qP, va_K.moved (u := U) (U := U.calling g mk a) (Vm.Alike.refl U.vm) qK, qD⟩), va_recv hKc hPc (ci := 0) (q0 := 0) rfl rfl, (fun U hU hW => ⟨rfl, by rw [hU], by rw [hU]; exact hPc, va_K.moved hW.alike hKc, hDc.weaken (fun _ _ _ _ => trivial)⟩)⟩ rfl rfl hl.1 rfl (lv_room (Nat.le_of_ble_eq_true rfl)) dX1_isBetweenEdges_8 ⟨Nat.zero_le _, Nat.zero_le _⟩) hS (fun q _ h => hFc q h) hFc (fun r9 u9 t H1 locs ht hvm hw hB hz1 hk1 hS => ?_)
  obtain ⟨hP1, hK1, hD1⟩ := hB
  rw [ht] at hP1
  subst r9
  obtain ⟨hP, hD⟩ := va_join (wr := [(a_this, .inr (1, [.ref a_text, .int v_length, .int v_digitsStart, .int v_digitsEnd, .int v_unitsAt, .int v_tenPower, .ref a_number, .ref a_rounded, .ref a_lowEdge, .ref a_highEdge])), (a_highEdge, .inr (0, [.ref a_highEdge_limbs, .int v_highEdge_first, .int v_highEdge_last])), (a_highEdge_limbs, .inl (c_highEdge_limbs, 160, .inr (.inl v_highEdge_limbs)))]) (w1 := (wd_X0_comparedTo a_rounded a_rounded_limbs a_lowEdge a_lowEdge_limbs c_rounded_limbs c_lowEdge_limbs v_rounded_first v_rounded_last v_rounded_limbs v_lowEdge_first v_lowEdge_last v_lowEdge_limbs)) hP hD [1, 2, 3, 4] [0, 5, 6] rfl rfl (by decide) (by decide) hk1 hFc hP1 hD1
  generalize H1 = H at hP hS ⊢
  have hP : va_P (dC, dI) vwCl (wd_X1_isBetweenEdges a_this a_text a_number a_rounded a_rounded_limbs a_lowEdge a_lowEdge_limbs a_highEdge a_highEdge_limbs c_rounded_limbs c_lowEdge_limbs c_highEdge_limbs v_length v_digitsStart v_digitsEnd v_unitsAt v_tenPower v_rounded_first v_rounded_last v_rounded_limbs v_lowEdge_first v_lowEdge_last v_lowEdge_limbs v_highEdge_first v_highEdge_last v_highEdge_limbs) H := hP.sub [0, 3, 4, 5, 6, 1, 2] rfl
  have hD : va_D A (wd_X1_isBetweenEdges a_this a_text a_number a_rounded a_rounded_limbs a_lowEdge a_lowEdge_limbs a_highEdge a_highEdge_limbs c_rounded_limbs c_lowEdge_limbs c_highEdge_limbs v_length v_digitsStart v_digitsEnd v_unitsAt v_tenPower v_rounded_first v_rounded_last v_rounded_limbs v_lowEdge_first v_lowEdge_last v_lowEdge_limbs v_highEdge_first v_highEdge_last v_highEdge_limbs) := hD.sub [0, 3, 4, 5, 6, 1, 2] (by decide) rfl
  clear hP1 hK1 hD1 hPc hDc hKc hFc hk1 hz1 ht hvm
  refine lv_istore_n (lv' := [(2, .int r8), (0, .ref a_this), (1, .int l1)]) hx hb dX1_isBetweenEdges_11 rfl hl (by decide) rfl (fun ls hl => ?_)
  refine lv_aload_n hx hb dX1_isBetweenEdges_12 rfl (lv_at hl 1 rfl) ?_
  refine va_get (D := (dC, dI)) (ci := 1) (v := .ref a_highEdge) (C := RX1) (T := TX1) (N := 10) hx hb hws inlX1 hown hK hP 0 rfl rfl 9 (by decide) (hws _ ww_22) (fun _ h9 => h9) rfl dX1_isBetweenEdges_13 ?_
  refine lv_aload_n hx hb dX1_isBetweenEdges_16 rfl (lv_at hl 1 rfl) ?_
  refine va_get (D := (dC, dI)) (ci := 1) (v := .ref a_rounded) (C := RX1) (T := TX1) (N := 10) hx hb hws inlX1 hown hK hP 0 rfl rfl 7 (by decide) (hws _ ww_20) (fun _ h9 => h9) rfl dX1_isBetweenEdges_17 ?_
  obtain ⟨r20, hc, h⟩ := bd h
  have hPc := hP.sub (ws' := (wd_X0_comparedTo a_highEdge a_highEdge_limbs a_rounded a_rounded_limbs c_highEdge_limbs c_rounded_limbs v_highEdge_first v_highEdge_last v_highEdge_limbs v_rounded_first v_rounded_last v_rounded_limbs)) [5, 6, 1, 2] rfl
  have hDc := hD.sub (ws' := (wd_X0_comparedTo a_highEdge a_highEdge_limbs a_rounded a_rounded_limbs c_highEdge_limbs c_rounded_limbs v_highEdge_first v_highEdge_last v_highEdge_limbs v_rounded_first v_rounded_last v_rounded_limbs)) [5, 6, 1, 2] (by decide) rfl
  have hKc := hK.sub (tys' := [(c_highEdge_limbs, .long), (c_rounded_limbs, .long)]) [2, 0] rfl
  have hFc := va_free (wc := (wd_X0_comparedTo a_highEdge a_highEdge_limbs a_rounded a_rounded_limbs c_highEdge_limbs c_rounded_limbs v_highEdge_first v_highEdge_last v_highEdge_limbs v_rounded_first v_rounded_last v_rounded_limbs)) hD hS hA [5, 6, 1, 2] rfl
  refine va_calli (va_runV (As := [.ref a_rounded]) (rest := []) ⟨hx, hb, hml, hown, hws⟩ (c_X0_comparedTo l dC dI  a_highEdge a_highEdge_limbs a_rounded a_rounded_limbs c_highEdge_limbs c_rounded_limbs (Array.size H)  v_highEdge_first v_highEdge_last v_highEdge_limbs v_rounded_first v_rounded_last v_rounded_limbs r20 hc) (cwV 1 hws (gV ww_375 ww_376 ww_377 ww_18 ww_378) rfl rfl rfl (by decide +kernel) ⟨Nat.le_of_ble_eq_true rfl, Nat.le_of_ble_eq_true rfl⟩) ⟨(fun a U g mk q => by obtain ⟨q0, q1, qP, qK, qD⟩ := q; exact ⟨q0, q1, qP, va_K.moved (u := U) (U := U.calling g mk a) (Vm.Alike.refl U.vm) qK, qD⟩), va_recv hKc hPc (ci := 0) (q0 := 0) rfl rfl, (fun U hU hW => ⟨rfl, by rw [hU], by rw [hU]; exact hPc, va_K.moved hW.alike hKc, hDc.weaken (fun _ _ _ _ => trivial)⟩)⟩ rfl rfl hl.1 rfl (lv_room (Nat.le_of_ble_eq_true rfl)) dX1_isBetweenEdges_20 ⟨Nat.zero_le _, Nat.zero_le _⟩) hS (fun q _ h => hFc q h) hFc (fun r9 u9 t H1 locs ht hvm hw hB hz1 hk1 hS => ?_)
  obtain ⟨hP1, hK1, hD1⟩ := hB
  rw [ht] at hP1
  subst r9
  obtain ⟨hP, hD⟩ := va_join (wr := [(a_this, .inr (1, [.ref a_text, .int v_length, .int v_digitsStart, .int v_digitsEnd, .int v_unitsAt, .int v_tenPower, .ref a_number, .ref a_rounded, .ref a_lowEdge, .ref a_highEdge])), (a_lowEdge, .inr (0, [.ref a_lowEdge_limbs, .int v_lowEdge_first, .int v_lowEdge_last])), (a_lowEdge_limbs, .inl (c_lowEdge_limbs, 160, .inr (.inl v_lowEdge_limbs)))]) (w1 := (wd_X0_comparedTo a_highEdge a_highEdge_limbs a_rounded a_rounded_limbs c_highEdge_limbs c_rounded_limbs v_highEdge_first v_highEdge_last v_highEdge_limbs v_rounded_first v_rounded_last v_rounded_limbs)) hP hD [5, 6, 1, 2] [0, 3, 4] rfl rfl (by decide) (by decide) hk1 hFc hP1 hD1
  generalize H1 = H at hP hS ⊢
  have hP : va_P (dC, dI) vwCl (wd_X1_isBetweenEdges a_this a_text a_number a_rounded a_rounded_limbs a_lowEdge a_lowEdge_limbs a_highEdge a_highEdge_limbs c_rounded_limbs c_lowEdge_limbs c_highEdge_limbs v_length v_digitsStart v_digitsEnd v_unitsAt v_tenPower v_rounded_first v_rounded_last v_rounded_limbs v_lowEdge_first v_lowEdge_last v_lowEdge_limbs v_highEdge_first v_highEdge_last v_highEdge_limbs) H := hP.sub [0, 5, 6, 1, 2, 3, 4] rfl
  have hD : va_D A (wd_X1_isBetweenEdges a_this a_text a_number a_rounded a_rounded_limbs a_lowEdge a_lowEdge_limbs a_highEdge a_highEdge_limbs c_rounded_limbs c_lowEdge_limbs c_highEdge_limbs v_length v_digitsStart v_digitsEnd v_unitsAt v_tenPower v_rounded_first v_rounded_last v_rounded_limbs v_lowEdge_first v_lowEdge_last v_lowEdge_limbs v_highEdge_first v_highEdge_last v_highEdge_limbs) := hD.sub [0, 5, 6, 1, 2, 3, 4] (by decide) rfl
  clear hP1 hK1 hD1 hPc hDc hKc hFc hk1 hz1 ht hvm
  refine lv_istore_n (lv' := [(3, .int r20), (2, .int r8), (0, .ref a_this), (1, .int l1)]) hx hb dX1_isBetweenEdges_23 rfl hl (by decide) rfl (fun ls hl => ?_)
  refine lv_iload_n hx hb dX1_isBetweenEdges_24 rfl (lv_at hl 3 rfl) ?_
  refine lv_if_eq (tgt := 42) hx hb dX1_isBetweenEdges_25 (by decide) (fun c9 => ?_) (fun c9 => ?_)
  · have h := (if_pos c9).symm.trans h
    refine lv_iload_n hx hb dX1_isBetweenEdges_42 rfl (lv_at hl 1 rfl) ?_
    refine lv_if_le (tgt := 54) hx hb dX1_isBetweenEdges_43 (by decide) (fun c9 => ?_) (fun c9 => ?_)
    · have h := (if_pos c9).symm.trans h
      refine lv_iconst (v := 0) hx hb dX1_isBetweenEdges_54 (by decide) ?_
      obtain h09 := rt1 h
      subst o_r
      exact W.zret hx hb hr rfl (fun t ht hW => ⟨⟨_, (), rfl, rfl, by rw [ht]; exact hP, va_K.moved hW.alike hK, hD⟩, hS.F ht⟩) hS.2.2 dX1_isBetweenEdges_55
    · have h := (if_neg c9).symm.trans h
      refine lv_iload_n hx hb dX1_isBetweenEdges_46 rfl (lv_at hl 0 rfl) ?_
      refine lv_if_le (tgt := 54) hx hb dX1_isBetweenEdges_47 (by decide) (fun c9 => ?_) (fun c9 => ?_)
      · have h := (if_pos c9).symm.trans h
        refine lv_iconst (v := 0) hx hb dX1_isBetweenEdges_54 (by decide) ?_
        obtain h09 := rt1 h
        subst o_r
        exact W.zret hx hb hr rfl (fun t ht hW => ⟨⟨_, (), rfl, rfl, by rw [ht]; exact hP, va_K.moved hW.alike hK, hD⟩, hS.F ht⟩) hS.2.2 dX1_isBetweenEdges_55
      · have h := (if_neg c9).symm.trans h
        refine lv_iconst (v := 1) hx hb dX1_isBetweenEdges_50 (by decide) ?_
        refine lv_goto (tgt := 55) hx hb dX1_isBetweenEdges_51 (by decide) ?_
        obtain h09 := rt1 h
        subst o_r
        exact W.zret hx hb hr rfl (fun t ht hW => ⟨⟨_, (), rfl, rfl, by rw [ht]; exact hP, va_K.moved hW.alike hK, hD⟩, hS.F ht⟩) hS.2.2 dX1_isBetweenEdges_55
  · have h := (if_neg c9).symm.trans h
    refine lv_iload_n hx hb dX1_isBetweenEdges_28 rfl (lv_at hl 1 rfl) ?_
    refine lv_if_lt (tgt := 40) hx hb dX1_isBetweenEdges_29 (by decide) (fun c9 => ?_) (fun c9 => ?_)
    · have h := (if_pos c9).symm.trans h
      refine lv_iconst (v := 0) hx hb dX1_isBetweenEdges_40 (by decide) ?_
      obtain h09 := rt1 h
      subst o_r
      exact W.zret hx hb hr rfl (fun t ht hW => ⟨⟨_, (), rfl, rfl, by rw [ht]; exact hP, va_K.moved hW.alike hK, hD⟩, hS.F ht⟩) hS.2.2 dX1_isBetweenEdges_41
    · have h := (if_neg c9).symm.trans h
      refine lv_iload_n hx hb dX1_isBetweenEdges_32 rfl (lv_at hl 0 rfl) ?_
      refine lv_if_lt (tgt := 40) hx hb dX1_isBetweenEdges_33 (by decide) (fun c9 => ?_) (fun c9 => ?_)
      · have h := (if_pos c9).symm.trans h
        refine lv_iconst (v := 0) hx hb dX1_isBetweenEdges_40 (by decide) ?_
        obtain h09 := rt1 h
        subst o_r
        exact W.zret hx hb hr rfl (fun t ht hW => ⟨⟨_, (), rfl, rfl, by rw [ht]; exact hP, va_K.moved hW.alike hK, hD⟩, hS.F ht⟩) hS.2.2 dX1_isBetweenEdges_41
      · have h := (if_neg c9).symm.trans h
        refine lv_iconst (v := 1) hx hb dX1_isBetweenEdges_36 (by decide) ?_
        refine lv_goto (tgt := 41) hx hb dX1_isBetweenEdges_37 (by decide) ?_
        obtain h09 := rt1 h
        subst o_r
        exact W.zret hx hb hr rfl (fun t ht hW => ⟨⟨_, (), rfl, rfl, by rw [ht]; exact hP, va_K.moved hW.alike hK, hD⟩, hS.F ht⟩) hS.2.2 dX1_isBetweenEdges_41
