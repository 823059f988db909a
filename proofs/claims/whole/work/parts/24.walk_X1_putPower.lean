set_option maxHeartbeats 4000000 in
set_option maxRecDepth 100000 in
theorem w_X1_putPower_58 (l : Launch) {p : Program} {e : Env} {s : State} {m : MethodId} {args : Array Value} {below : List Frame} {meth : Method} {c : Code} {A : Nat → Prop} {dC : Nat → ClassId} {dI : Nat → Nat → Nat} (a_this a_text a_number a_rounded a_lowEdge a_highEdge : Nat) (c_text : ClassId) (hx : p.tables.exec = Jvm.exec) (hb : c.code = cX1_putPower) (hr : meth.sig.returnType = none) (hml : c.maxLocals = 3) (hown : s.vm.findClass RX1 = some m.cls) (hws : ∀ w ∈ wsL_law, w.before args s = true) (hlocks : meth.locks = false) (hA : ∀ q : Nat, s.heap.size ≤ q → A q) : ∀ (l2 : Int32) (v_length : Int32) (v_digitsStart : Int32) (v_digitsEnd : Int32) (v_unitsAt : Int32) (v_tenPower : Int32) (v_text : Nat → Int32) (o_length : Int32) (o_text : Nat → Int32), f_X1_putPower_b58 l2 v_length v_text = some (o_length, o_text) → ∀ (H : Heap) (locs : List Loc), va_K (dC, dI) vwCl [(c_text, .int)] s → va_P (dC, dI) vwCl (wd_X1_putPower a_this a_text a_number a_rounded a_lowEdge a_highEdge c_text v_length v_digitsStart v_digitsEnd v_unitsAt v_tenPower v_text) H → va_D A (wd_X1_putPower a_this a_text a_number a_rounded a_lowEdge a_highEdge c_text v_length v_digitsStart v_digitsEnd v_unitsAt v_tenPower v_text) → va_S A s.heap H locs → ∀ (ls : Array Slot), lv_has ls 3 [(0, .ref a_this), (2, .int l2)] → W p l e (headSpec (w_X1_putPower) ({ frames := 1, cells := 0, slots := 0, locals := 21 } : Room)).room s m args below meth c H locs 0 0 (MQ below (va_Qv (fun (_ : Unit) => True) (fun (_ : Unit) t => va_P (dC, dI) vwCl (wd_X1_putPower a_this a_text a_number a_rounded a_lowEdge a_highEdge c_text o_length v_digitsStart v_digitsEnd v_unitsAt v_tenPower o_text) t.heap ∧ va_K (dC, dI) vwCl [(c_text, .int)] t ∧ va_D A (wd_X1_putPower a_this a_text a_number a_rounded a_lowEdge a_highEdge c_text o_length v_digitsStart v_digitsEnd v_unitsAt v_tenPower o_text)) A) args s 0 0 A) (F0 m 58 ls []) := by
  intro l2 v_length v_digitsStart v_digitsEnd v_unitsAt v_tenPower v_text o_length o_text h H locs hK hP hD hS ls hl
  unfold f_X1_putPower_b58 at h
  refine lv_aload_n hx hb dX1_putPower_58 rfl (lv_at hl 0 rfl) ?_
  refine lv_bipush (v := 48) hx hb dX1_putPower_59 (by decide) ?_
  refine lv_iload_n hx hb dX1_putPower_61 rfl (lv_at hl 1 rfl) ?_
  refine lv_bipush (v := 10) hx hb dX1_putPower_62 (by decide) ?_
  refine lv_irem hx hb dX1_putPower_64 (by decide) ?_
  refine lv_iadd hx hb dX1_putPower_65 ?_
  obtain ⟨⟨v_length_66, v_text_66⟩, hc, h⟩ := bd h
  dsimp only at h
  have hPc := hP.sub (ws' := (wd_X1_put a_this a_text a_number a_rounded a_lowEdge a_highEdge c_text v_length v_digitsStart v_digitsEnd v_unitsAt v_tenPower v_text)) [0, 1] rfl
  have hDc := hD.sub (ws' := (wd_X1_put a_this a_text a_number a_rounded a_lowEdge a_highEdge c_text v_length v_digitsStart v_digitsEnd v_unitsAt v_tenPower v_text)) [0, 1] (by decide) rfl
  have hKc := hK.sub (tys' := [(c_text, .int)]) [0] rfl
  have hFc := va_free (wc := (wd_X1_put a_this a_text a_number a_rounded a_lowEdge a_highEdge c_text v_length v_digitsStart v_digitsEnd v_unitsAt v_tenPower v_text)) hD hS hA [0, 1] rfl
  refine va_callv (va_runV (As := [.int (48 + (l2 - l2 / 10 * 10))]) (rest := []) ⟨hx, hb, hml, hown, hws⟩ (c_X1_put l dC dI  a_this a_text a_number a_rounded a_lowEdge a_highEdge c_text (Array.size H) (48 + (l2 - l2 / 10 * 10)) v_length v_digitsStart v_digitsEnd v_unitsAt v_tenPower v_text v_length_66 v_text_66 hc) (cwV 1 hws (gV ww_64 ww_65 ww_66 ww_2 ww_67) rfl rfl rfl (by decide +kernel) ⟨Nat.le_of_ble_eq_true rfl, Nat.le_of_ble_eq_true rfl⟩) ⟨(fun a U g mk q => by obtain ⟨q0, q1, qP, qK, qD⟩ := q; exact ⟨q0, q1, qP, va_K.moved (u := U) (U := U.calling g mk a) (Vm.Alike.refl U.vm) qK, qD⟩), va_recv hKc hPc (ci := 1) (q0 := 0) rfl rfl, (fun U hU hW => ⟨rfl, by rw [hU], by rw [hU]; exact hPc, va_K.moved hW.alike hKc, hDc.weaken (fun _ _ _ _ => trivial)⟩)⟩ rfl rfl hl.1 rfl (lv_room (Nat.le_of_ble_eq_true rfl)) dX1_putPower_66 ⟨Nat.zero_le _, Nat.zero_le _⟩) hS (fun q _ h => hFc q h) hFc (fun u9 t H1 locs ht hvm hw hB hz1 hk1 hS => ?_)
  obtain ⟨hP1, hK1, hD1⟩ := hB
  rw [ht] at hP1
  obtain ⟨hP, hD⟩ := va_join (wr := []) (w1 := (wd_X1_put a_this a_text a_number a_rounded a_lowEdge a_highEdge c_text v_length_66 v_digitsStart v_digitsEnd v_unitsAt v_tenPower v_text_66)) hP hD [0, 1] [] rfl rfl (by decide) (by decide) hk1 hFc hP1 hD1
  generalize H1 = H at hP hS ⊢
  have hP : va_P (dC, dI) vwCl (wd_X1_putPower a_this a_text a_number a_rounded a_lowEdge a_highEdge c_text v_length_66 v_digitsStart v_digitsEnd v_unitsAt v_tenPower v_text_66) H := hP.sub [0, 1] rfl
  have hD : va_D A (wd_X1_putPower a_this a_text a_number a_rounded a_lowEdge a_highEdge c_text v_length_66 v_digitsStart v_digitsEnd v_unitsAt v_tenPower v_text_66) := hD.sub [0, 1] (by decide) rfl
  clear hP1 hK1 hD1 hPc hDc hKc hFc hk1 hz1 ht hvm
  obtain ⟨h09, h19⟩ := rt2 h
  subst o_length
  subst o_text
  exact W.vret hx hb hr (fun t ht hW => ⟨⟨(), rfl, trivial, by rw [ht]; exact hP, va_K.moved hW.alike hK, hD⟩, hS.F ht⟩) hS.2.2 dX1_putPower_69
set_option maxHeartbeats 4000000 in
set_option maxRecDepth 100000 in
theorem w_X1_putPower_38 (l : Launch) {p : Program} {e : Env} {s : State} {m : MethodId} {args : Array Value} {below : List Frame} {meth : Method} {c : Code} {A : Nat → Prop} {dC : Nat → ClassId} {dI : Nat → Nat → Nat} (a_this a_text a_number a_rounded a_lowEdge a_highEdge : Nat) (c_text : ClassId) (hx : p.tables.exec = Jvm.exec) (hb : c.code = cX1_putPower) (hr : meth.sig.returnType = none) (hml : c.maxLocals = 3) (hown : s.vm.findClass RX1 = some m.cls) (hws : ∀ w ∈ wsL_law, w.before args s = true) (hlocks : meth.locks = false) (hA : ∀ q : Nat, s.heap.size ≤ q → A q) : ∀ (l2 : Int32) (v_length : Int32) (v_digitsStart : Int32) (v_digitsEnd : Int32) (v_unitsAt : Int32) (v_tenPower : Int32) (v_text : Nat → Int32) (o_length : Int32) (o_text : Nat → Int32), f_X1_putPower_b38 l2 v_length v_text = some (o_length, o_text) → ∀ (H : Heap) (locs : List Loc), va_K (dC, dI) vwCl [(c_text, .int)] s → va_P (dC, dI) vwCl (wd_X1_putPower a_this a_text a_number a_rounded a_lowEdge a_highEdge c_text v_length v_digitsStart v_digitsEnd v_unitsAt v_tenPower v_text) H → va_D A (wd_X1_putPower a_this a_text a_number a_rounded a_lowEdge a_highEdge c_text v_length v_digitsStart v_digitsEnd v_unitsAt v_tenPower v_text) → va_S A s.heap H locs → ∀ (ls : Array Slot), lv_has ls 3 [(0, .ref a_this), (2, .int l2)] → W p l e (headSpec (w_X1_putPower) ({ frames := 1, cells := 0, slots := 0, locals := 21 } : Room)).room s m args below meth c H locs 0 0 (MQ below (va_Qv (fun (_ : Unit) => True) (fun (_ : Unit) t => va_P (dC, dI) vwCl (wd_X1_putPower a_this a_text a_number a_rounded a_lowEdge a_highEdge c_text o_length v_digitsStart v_digitsEnd v_unitsAt v_tenPower o_text) t.heap ∧ va_K (dC, dI) vwCl [(c_text, .int)] t ∧ va_D A (wd_X1_putPower a_this a_text a_number a_rounded a_lowEdge a_highEdge c_text o_length v_digitsStart v_digitsEnd v_unitsAt v_tenPower o_text)) A) args s 0 0 A) (F0 m 38 ls []) := by
  intro l2 v_length v_digitsStart v_digitsEnd v_unitsAt v_tenPower v_text o_length o_text h H locs hK hP hD hS ls hl
  unfold f_X1_putPower_b38 at h
  refine lv_iload_n hx hb dX1_putPower_38 rfl (lv_at hl 1 rfl) ?_
  refine lv_bipush (v := 10) hx hb dX1_putPower_39 (by decide) ?_
  refine lv_icmp_lt (tgt := 58) hx hb dX1_putPower_41 (by decide) (fun c9 => ?_) (fun c9 => ?_)
  · have h := (if_pos c9).symm.trans h
    exact w_X1_putPower_58 l a_this a_text a_number a_rounded a_lowEdge a_highEdge c_text hx hb hr hml hown hws hlocks hA l2 v_length v_digitsStart v_digitsEnd v_unitsAt v_tenPower v_text o_length o_text h H locs hK hP hD hS ls (lv_sub hl [0, 1] rfl)
  · have h := (if_neg c9).symm.trans h
    refine lv_aload_n hx hb dX1_putPower_44 rfl (lv_at hl 0 rfl) ?_
    refine lv_bipush (v := 48) hx hb dX1_putPower_45 (by decide) ?_
    refine lv_iload_n hx hb dX1_putPower_47 rfl (lv_at hl 1 rfl) ?_
    refine lv_bipush (v := 10) hx hb dX1_putPower_48 (by decide) ?_
    refine lv_idiv hx hb dX1_putPower_50 (by decide) ?_
    refine lv_bipush (v := 10) hx hb dX1_putPower_51 (by decide) ?_
    refine lv_irem hx hb dX1_putPower_53 (by decide) ?_
    refine lv_iadd hx hb dX1_putPower_54 ?_
    obtain ⟨⟨v_length_55, v_text_55⟩, hc, h⟩ := bd h
    dsimp only at h
    have hPc := hP.sub (ws' := (wd_X1_put a_this a_text a_number a_rounded a_lowEdge a_highEdge c_text v_length v_digitsStart v_digitsEnd v_unitsAt v_tenPower v_text)) [0, 1] rfl
    have hDc := hD.sub (ws' := (wd_X1_put a_this a_text a_number a_rounded a_lowEdge a_highEdge c_text v_length v_digitsStart v_digitsEnd v_unitsAt v_tenPower v_text)) [0, 1] (by decide) rfl
    have hKc := hK.sub (tys' := [(c_text, .int)]) [0] rfl
    have hFc := va_free (wc := (wd_X1_put a_this a_text a_number a_rounded a_lowEdge a_highEdge c_text v_length v_digitsStart v_digitsEnd v_unitsAt v_tenPower v_text)) hD hS hA [0, 1] rfl
    refine va_callv (va_runV (As := [.int (48 + ((l2 / 10) - (l2 / 10) / 10 * 10))]) (rest := []) ⟨hx, hb, hml, hown, hws⟩ (c_X1_put l dC dI  a_this a_text a_number a_rounded a_lowEdge a_highEdge c_text (Array.size H) (48 + ((l2 / 10) - (l2 / 10) / 10 * 10)) v_length v_digitsStart v_digitsEnd v_unitsAt v_tenPower v_text v_length_55 v_text_55 hc) (cwV 1 hws (gV ww_64 ww_65 ww_66 ww_2 ww_67) rfl rfl rfl (by decide +kernel) ⟨Nat.le_of_ble_eq_true rfl, Nat.le_of_ble_eq_true rfl⟩) ⟨(fun a U g mk q => by obtain ⟨q0, q1, qP, qK, qD⟩ := q; exact ⟨q0, q1, qP, va_K.moved (u := U) (U := U.calling g mk a) (Vm.Alike.refl U.vm) qK, qD⟩), va_recv hKc hPc (ci := 1) (q0 := 0) rfl rfl, (fun U hU hW => ⟨rfl, by rw [hU], by rw [hU]; exact hPc, va_K.moved hW.alike hKc, hDc.weaken (fun _ _ _ _ => trivial)⟩)⟩ rfl rfl hl.1 rfl (lv_room (Nat.le_of_ble_eq_true rfl)) dX1_putPower_55 ⟨Nat.zero_le _, Nat.zero_le _⟩) hS (fun q _ h => hFc q h) hFc (fun u9 t H1 locs ht hvm hw hB hz1 hk1 hS => ?_)
    obtain ⟨hP1, hK1, hD1⟩ := hB
    rw [ht] at hP1
    obtain ⟨hP, hD⟩ := va_join (wr := []) (w1 := (wd_X1_put a_this a_text a_number a_rounded a_lowEdge a_highEdge c_text v_length_55 v_digitsStart v_digitsEnd v_unitsAt v_tenPower v_text_55)) hP hD [0, 1] [] rfl rfl (by decide) (by decide) hk1 hFc hP1 hD1
    generalize H1 = H at hP hS ⊢
    have hP : va_P (dC, dI) vwCl (wd_X1_putPower a_this a_text a_number a_rounded a_lowEdge a_highEdge c_text v_length_55 v_digitsStart v_digitsEnd v_unitsAt v_tenPower v_text_55) H := hP.sub [0, 1] rfl
    have hD : va_D A (wd_X1_putPower a_this a_text a_number a_rounded a_lowEdge a_highEdge c_text v_length_55 v_digitsStart v_digitsEnd v_unitsAt v_tenPower v_text_55) := hD.sub [0, 1] (by decide) rfl
    clear hP1 hK1 hD1 hPc hDc hKc hFc hk1 hz1 ht hvm
    exact w_X1_putPower_58 l a_this a_text a_number a_rounded a_lowEdge a_highEdge c_text hx hb hr hml hown hws hlocks hA l2 v_length_55 v_digitsStart v_digitsEnd v_unitsAt v_tenPower v_text_55 o_length o_text h H locs hK hP hD hS ls (lv_sub hl [0, 1] rfl)
set_option maxHeartbeats 4000000 in
set_option maxRecDepth 100000 in
theorem w_X1_putPower_16 (l : Launch) {p : Program} {e : Env} {s : State} {m : MethodId} {args : Array Value} {below : List Frame} {meth : Method} {c : Code} {A : Nat → Prop} {dC : Nat → ClassId} {dI : Nat → Nat → Nat} (a_this a_text a_number a_rounded a_lowEdge a_highEdge : Nat) (c_text : ClassId) (hx : p.tables.exec = Jvm.exec) (hb : c.code = cX1_putPower) (hr : meth.sig.returnType = none) (hml : c.maxLocals = 3) (hown : s.vm.findClass RX1 = some m.cls) (hws : ∀ w ∈ wsL_law, w.before args s = true) (hlocks : meth.locks = false) (hA : ∀ q : Nat, s.heap.size ≤ q → A q) : ∀ (l1 : Int32) (v_length : Int32) (v_digitsStart : Int32) (v_digitsEnd : Int32) (v_unitsAt : Int32) (v_tenPower : Int32) (v_text : Nat → Int32) (o_length : Int32) (o_text : Nat → Int32), f_X1_putPower_b16 l1 v_length v_text = some (o_length, o_text) → ∀ (H : Heap) (locs : List Loc), va_K (dC, dI) vwCl [(c_text, .int)] s → va_P (dC, dI) vwCl (wd_X1_putPower a_this a_text a_number a_rounded a_lowEdge a_highEdge c_text v_length v_digitsStart v_digitsEnd v_unitsAt v_tenPower v_text) H → va_D A (wd_X1_putPower a_this a_text a_number a_rounded a_lowEdge a_highEdge c_text v_length v_digitsStart v_digitsEnd v_unitsAt v_tenPower v_text) → va_S A s.heap H locs → ∀ (ls : Array Slot), lv_has ls 3 [(0, .ref a_this), (1, .int l1)] → W p l e (headSpec (w_X1_putPower) ({ frames := 1, cells := 0, slots := 0, locals := 21 } : Room)).room s m args below meth c H locs 0 0 (MQ below (va_Qv (fun (_ : Unit) => True) (fun (_ : Unit) t => va_P (dC, dI) vwCl (wd_X1_putPower a_this a_text a_number a_rounded a_lowEdge a_highEdge c_text o_length v_digitsStart v_digitsEnd v_unitsAt v_tenPower o_text) t.heap ∧ va_K (dC, dI) vwCl [(c_text, .int)] t ∧ va_D A (wd_X1_putPower a_this a_text a_number a_rounded a_lowEdge a_highEdge c_text o_length v_digitsStart v_digitsEnd v_unitsAt v_tenPower o_text)) A) args s 0 0 A) (F0 m 16 ls []) := by
  intro l1 v_length v_digitsStart v_digitsEnd v_unitsAt v_tenPower v_text o_length o_text h H locs hK hP hD hS ls hl
  unfold f_X1_putPower_b16 at h
  refine lv_iload_n hx hb dX1_putPower_16 rfl (lv_at hl 1 rfl) ?_
  refine va_mabs hx hb (hml.trans hl.1.symm) hown (hws _ ww_354) (hws _ ww_355) (hws _ ww_127) (hws _ ww_356) (Nat.le_of_ble_eq_true rfl) (Nat.le_of_ble_eq_true rfl) (Nat.le_of_ble_eq_true rfl) (Nat.le_of_ble_eq_true rfl) dX1_putPower_17 ?_
  refine lv_istore_n (lv' := [(2, .int (if 0 ≤ l1 then l1 else 0 - l1)), (0, .ref a_this), (1, .int l1)]) hx hb dX1_putPower_20 rfl hl (by decide) rfl (fun ls hl => ?_)
  refine lv_iload_n hx hb dX1_putPower_21 rfl (lv_at hl 0 rfl) ?_
  refine lv_bipush (v := 100) hx hb dX1_putPower_22 (by decide) ?_
  refine lv_icmp_lt (tgt := 38) hx hb dX1_putPower_24 (by decide) (fun c9 => ?_) (fun c9 => ?_)
  · have h := (if_pos c9).symm.trans h
    exact w_X1_putPower_38 l a_this a_text a_number a_rounded a_lowEdge a_highEdge c_text hx hb hr hml hown hws hlocks hA (if 0 ≤ l1 then l1 else 0 - l1) v_length v_digitsStart v_digitsEnd v_unitsAt v_tenPower v_text o_length o_text h H locs hK hP hD hS ls (lv_sub hl [1, 0] rfl)
  · have h := (if_neg c9).symm.trans h
    refine lv_aload_n hx hb dX1_putPower_27 rfl (lv_at hl 1 rfl) ?_
    refine lv_bipush (v := 48) hx hb dX1_putPower_28 (by decide) ?_
    refine lv_iload_n hx hb dX1_putPower_30 rfl (lv_at hl 0 rfl) ?_
    refine lv_bipush (v := 100) hx hb dX1_putPower_31 (by decide) ?_
    refine lv_idiv hx hb dX1_putPower_33 (by decide) ?_
    refine lv_iadd hx hb dX1_putPower_34 ?_
    obtain ⟨⟨v_length_35, v_text_35⟩, hc, h⟩ := bd h
    dsimp only at h
    have hPc := hP.sub (ws' := (wd_X1_put a_this a_text a_number a_rounded a_lowEdge a_highEdge c_text v_length v_digitsStart v_digitsEnd v_unitsAt v_tenPower v_text)) [0, 1] rfl
    have hDc := hD.sub (ws' := (wd_X1_put a_this a_text a_number a_rounded a_lowEdge a_highEdge c_text v_length v_digitsStart v_digitsEnd v_unitsAt v_tenPower v_text)) [0, 1] (by decide) rfl
    have hKc := hK.sub (tys' := [(c_text, .int)]) [0] rfl
    have hFc := va_free (wc := (wd_X1_put a_this a_text a_number a_rounded a_lowEdge a_highEdge c_text v_length v_digitsStart v_digitsEnd v_unitsAt v_tenPower v_text)) hD hS hA [0, 1] rfl
    refine va_callv (va_runV (As := [.int (48 + ((if 0 ≤ l1 then l1 else 0 - l1) / 100))]) (rest := []) ⟨hx, hb, hml, hown, hws⟩ (c_X1_put l dC dI  a_this a_text a_number a_rounded a_lowEdge a_highEdge c_text (Array.size H) (48 + ((if 0 ≤ l1 then l1 else 0 - l1) / 100)) v_length v_digitsStart v_digitsEnd v_unitsAt v_tenPower v_text v_length_35 v_text_35 hc) (cwV 1 hws (gV ww_64 ww_65 ww_66 ww_2 ww_67) rfl rfl rfl (by decide +kernel) ⟨Nat.le_of_ble_eq_true rfl, Nat.le_of_ble_eq_true rfl⟩) ⟨(fun a U g mk q => by obtain ⟨q0, q1, qP, qK, qD⟩ := q; exact ⟨q0, q1, qP, va_K.moved (u := U) (U := U.calling g mk a) (Vm.Alike.refl U.vm) qK, qD⟩), va_recv hKc hPc (ci := 1) (q0 := 0) rfl rfl, (fun U hU hW => ⟨rfl, by rw [hU], by rw [hU]; exact hPc, va_K.moved hW.alike hKc, hDc.weaken (fun _ _ _ _ => trivial)⟩)⟩ rfl rfl hl.1 rfl (lv_room (Nat.le_of_ble_eq_true rfl)) dX1_putPower_35 ⟨Nat.zero_le _, Nat.zero_le _⟩) hS (fun q _ h => hFc q h) hFc (fun u9 t H1 locs ht hvm hw hB hz1 hk1 hS => ?_)
    obtain ⟨hP1, hK1, hD1⟩ := hB
    rw [ht] at hP1
    obtain ⟨hP, hD⟩ := va_join (wr := []) (w1 := (wd_X1_put a_this a_text a_number a_rounded a_lowEdge a_highEdge c_text v_length_35 v_digitsStart v_digitsEnd v_unitsAt v_tenPower v_text_35)) hP hD [0, 1] [] rfl rfl (by decide) (by decide) hk1 hFc hP1 hD1
    generalize H1 = H at hP hS ⊢
    have hP : va_P (dC, dI) vwCl (wd_X1_putPower a_this a_text a_number a_rounded a_lowEdge a_highEdge c_text v_length_35 v_digitsStart v_digitsEnd v_unitsAt v_tenPower v_text_35) H := hP.sub [0, 1] rfl
    have hD : va_D A (wd_X1_putPower a_this a_text a_number a_rounded a_lowEdge a_highEdge c_text v_length_35 v_digitsStart v_digitsEnd v_unitsAt v_tenPower v_text_35) := hD.sub [0, 1] (by decide) rfl
    clear hP1 hK1 hD1 hPc hDc hKc hFc hk1 hz1 ht hvm
    exact w_X1_putPower_38 l a_this a_text a_number a_rounded a_lowEdge a_highEdge c_text hx hb hr hml hown hws hlocks hA (if 0 ≤ l1 then l1 else 0 - l1) v_length_35 v_digitsStart v_digitsEnd v_unitsAt v_tenPower v_text_35 o_length o_text h H locs hK hP hD hS ls (lv_sub hl [1, 0] rfl)
set_option maxHeartbeats 4000000 in
set_option maxRecDepth 100000 in
theorem c_X1_putPower (l : Launch) (dC : Nat → ClassId) (dI : Nat → Nat → Nat)  (a_this a_text a_number a_rounded a_lowEdge a_highEdge : Nat) (c_text : ClassId) (sz : Nat) (l1 : Int32) (v_length : Int32) (v_digitsStart : Int32) (v_digitsEnd : Int32) (v_unitsAt : Int32) (v_tenPower : Int32) (v_text : Nat → Int32) (o_length : Int32) (o_text : Nat → Int32) (h : f_X1_putPower l1 v_length v_text = some (o_length, o_text)) : Met l yX1_putPower w_X1_putPower ({ frames := 1, cells := 0, slots := 0, locals := 21 } : Room) (va_Pc [.ref a_this, .int l1] (fun U => U.heap.size = sz ∧ va_P (dC, dI) vwCl (wd_X1_putPower a_this a_text a_number a_rounded a_lowEdge a_highEdge c_text v_length v_digitsStart v_digitsEnd v_unitsAt v_tenPower v_text) U.heap ∧ va_K (dC, dI) vwCl [(c_text, .int)] U ∧ va_D (fun _ => True) (wd_X1_putPower a_this a_text a_number a_rounded a_lowEdge a_highEdge c_text v_length v_digitsStart v_digitsEnd v_unitsAt v_tenPower v_text))) (va_Qv (fun (_ : Unit) => True) (fun (_ : Unit) t => va_P (dC, dI) vwCl (wd_X1_putPower a_this a_text a_number a_rounded a_lowEdge a_highEdge c_text o_length v_digitsStart v_digitsEnd v_unitsAt v_tenPower o_text) t.heap ∧ va_K (dC, dI) vwCl [(c_text, .int)] t ∧ va_D (va_A (wd_X1_putPower a_this a_text a_number a_rounded a_lowEdge a_highEdge c_text v_length v_digitsStart v_digitsEnd v_unitsAt v_tenPower v_text) sz) (wd_X1_putPower a_this a_text a_number a_rounded a_lowEdge a_highEdge c_text o_length v_digitsStart v_digitsEnd v_unitsAt v_tenPower o_text)) (va_A (wd_X1_putPower a_this a_text a_number a_rounded a_lowEdge a_highEdge c_text v_length v_digitsStart v_digitsEnd v_unitsAt v_tenPower v_text) sz)) 0 0 (va_A (wd_X1_putPower a_this a_text a_number a_rounded a_lowEdge a_highEdge c_text v_length v_digitsStart v_digitsEnd v_unitsAt v_tenPower v_text) sz) := by
  refine Met.ofW (cc := cX1_putPower) (maxL := 3) (ret := none) (by decide) rfl ?_
  intro p e s m args below meth c s₁ B hml hv
  obtain ⟨rfl, hsz, hP, hK, hD0⟩ := hv
  have hx := B.exec
  have hb := B.bytes
  have hr := B.returns
  have hws : ∀ w ∈ wsL_law, w.before _ s = true := fun w hw => atoms_spec (ws := w_X1_putPower) B.pre w (List.mem_cons_of_mem _ hw)
  have hown : s.vm.findClass RX1 = some m.cls := findClass_of_methodNamed B.named
  have hlocks := B.notSynchronized
  subst hsz
  have hD := hD0.self (sz := s.heap.size)
  generalize hAe : va_A (wd_X1_putPower a_this a_text a_number a_rounded a_lowEdge a_highEdge c_text v_length v_digitsStart v_digitsEnd v_unitsAt v_tenPower v_text) s.heap.size = A at hD ⊢
  have hA : ∀ q : Nat, s.heap.size ≤ q → A q := fun q h => by rw [← hAe]; exact Or.inr h
  have hS : va_S A s.heap s.heap [] := va_S.rf
  have hl := lv_entry ([.ref a_this, .int l1]) (n := 3) (Nat.le_of_ble_eq_true rfl)
  rw [lg_entry_eq]
  generalize (lg_sl ([.ref a_this, .int l1]) ++ List.replicate (3 - (lg_sl ([.ref a_this, .int l1])).length) Slot.unset).toArray = ls at hl ⊢
  have hl : lv_has ls 3 [(0, .ref a_this), (1, .int l1)] := hl
  unfold f_X1_putPower at h
  refine lv_aload_n hx hb dX1_putPower_0 rfl (lv_at hl 0 rfl) ?_
  refine lv_bipush (v := 101) hx hb dX1_putPower_1 (by decide) ?_
  obtain ⟨⟨v_length_3, v_text_3⟩, hc, h⟩ := bd h
  dsimp only at h
  have hPc := hP.sub (ws' := (wd_X1_put a_this a_text a_number a_rounded a_lowEdge a_highEdge c_text v_length v_digitsStart v_digitsEnd v_unitsAt v_tenPower v_text)) [0, 1] rfl
  have hDc := hD.sub (ws' := (wd_X1_put a_this a_text a_number a_rounded a_lowEdge a_highEdge c_text v_length v_digitsStart v_digitsEnd v_unitsAt v_tenPower v_text)) [0, 1] (by decide) rfl
  have hKc := hK.sub (tys' := [(c_text, .int)]) [0] rfl
  have hFc := va_free (wc := (wd_X1_put a_this a_text a_number a_rounded a_lowEdge a_highEdge c_text v_length v_digitsStart v_digitsEnd v_unitsAt v_tenPower v_text)) hD hS hA [0, 1] rfl
  refine va_callv (va_runV (As := [.int 101]) (rest := []) ⟨hx, hb, hml, hown, hws⟩ (c_X1_put l dC dI  a_this a_text a_number a_rounded a_lowEdge a_highEdge c_text (Array.size s.heap) 101 v_length v_digitsStart v_digitsEnd v_unitsAt v_tenPower v_text v_length_3 v_text_3 hc) (cwV 1 hws (gV ww_64 ww_65 ww_66 ww_2 ww_67) rfl rfl rfl (by decide +kernel) ⟨Nat.le_of_ble_eq_true rfl, Nat.le_of_ble_eq_true rfl⟩) ⟨(fun a U g mk q => by obtain ⟨q0, q1, qP, qK, qD⟩ := q; exact ⟨q0, q1, qP, va_K.moved (u := U) (U := U.calling g mk a) (Vm.Alike.refl U.vm) qK, qD⟩), va_recv hKc hPc (ci := 1) (q0 := 0) rfl rfl, (fun U hU hW => ⟨rfl, by rw [hU], by rw [hU]; exact hPc, va_K.moved hW.alike hKc, hDc.weaken (fun _ _ _ _ => trivial)⟩)⟩ rfl rfl hl.1 rfl (lv_room (Nat.le_of_ble_eq_true rfl)) dX1_putPower_3 ⟨Nat.zero_le _, Nat.zero_le _⟩) hS (fun q _ h => hFc q h) hFc (fun u9 t H1 locs ht hvm hw hB hz1 hk1 hS => ?_)
  obtain ⟨hP1, hK1, hD1⟩ := hB
  rw [ht] at hP1
  obtain ⟨hP, hD⟩ := va_join (wr := []) (w1 := (wd_X1_put a_this a_text a_number a_rounded a_lowEdge a_highEdge c_text v_length_3 v_digitsStart v_digitsEnd v_unitsAt v_tenPower v_text_3)) hP hD [0, 1] [] rfl rfl (by decide) (by decide) hk1 hFc hP1 hD1
  generalize H1 = H at hP hS ⊢
  have hP : va_P (dC, dI) vwCl (wd_X1_putPower a_this a_text a_number a_rounded a_lowEdge a_highEdge c_text v_length_3 v_digitsStart v_digitsEnd v_unitsAt v_tenPower v_text_3) H := hP.sub [0, 1] rfl
  have hD : va_D A (wd_X1_putPower a_this a_text a_number a_rounded a_lowEdge a_highEdge c_text v_length_3 v_digitsStart v_digitsEnd v_unitsAt v_tenPower v_text_3) := hD.sub [0, 1] (by decide) rfl
  clear hP1 hK1 hD1 hPc hDc hKc hFc hk1 hz1 ht hvm
  refine lv_iload_n hx hb dX1_putPower_6 rfl (lv_at hl 1 rfl) ?_
  refine lv_if_ge (tgt := 16) hx hb dX1_putPower_7 (by decide) (fun c9 => ?_) (fun c9 => ?_)
  · have h := (if_pos c9).symm.trans h
    exact w_X1_putPower_16 l a_this a_text a_number a_rounded a_lowEdge a_highEdge c_text hx hb hr hml hown hws hlocks hA l1 v_length_3 v_digitsStart v_digitsEnd v_unitsAt v_tenPower v_text_3 o_length o_text h H locs hK hP hD hS ls (lv_sub hl [0, 1] rfl)
  · have h := (if_neg c9).symm.trans h
    refine lv_aload_n hx hb dX1_putPower_10 rfl (lv_at hl 0 rfl) ?_
    refine lv_bipush (v := 45) hx hb dX1_putPower_11 (by decide) ?_
    obtain ⟨⟨v_length_13, v_text_13⟩, hc, h⟩ := bd h
    dsimp only at h
    have hPc := hP.sub (ws' := (wd_X1_put a_this a_text a_number a_rounded a_lowEdge a_highEdge c_text v_length_3 v_digitsStart v_digitsEnd v_unitsAt v_tenPower v_text_3)) [0, 1] rfl
    have hDc := hD.sub (ws' := (wd_X1_put a_this a_text a_number a_rounded a_lowEdge a_highEdge c_text v_length_3 v_digitsStart v_digitsEnd v_unitsAt v_tenPower v_text_3)) [0, 1] (by decide) rfl
    have hKc := hK.sub (tys' := [(c_text, .int)]) [0] rfl
    have hFc := va_free (wc := (wd_X1_put a_this a_text a_number a_rounded a_lowEdge a_highEdge c_text v_length_3 v_digitsStart v_digitsEnd v_unitsAt v_tenPower v_text_3)) hD hS hA [0, 1] rfl
    refine va_callv (va_runV (As := [.int 45]) (rest := []) ⟨hx, hb, hml, hown, hws⟩ (c_X1_put l dC dI  a_this a_text a_number a_rounded a_lowEdge a_highEdge c_text (Array.size H) 45 v_length_3 v_digitsStart v_digitsEnd v_unitsAt v_tenPower v_text_3 v_length_13 v_text_13 hc) (cwV 1 hws (gV ww_64 ww_65 ww_66 ww_2 ww_67) rfl rfl rfl (by decide +kernel) ⟨Nat.le_of_ble_eq_true rfl, Nat.le_of_ble_eq_true rfl⟩) ⟨(fun a U g mk q => by obtain ⟨q0, q1, qP, qK, qD⟩ := q; exact ⟨q0, q1, qP, va_K.moved (u := U) (U := U.calling g mk a) (Vm.Alike.refl U.vm) qK, qD⟩), va_recv hKc hPc (ci := 1) (q0 := 0) rfl rfl, (fun U hU hW => ⟨rfl, by rw [hU], by rw [hU]; exact hPc, va_K.moved hW.alike hKc, hDc.weaken (fun _ _ _ _ => trivial)⟩)⟩ rfl rfl hl.1 rfl (lv_room (Nat.le_of_ble_eq_true rfl)) dX1_putPower_13 ⟨Nat.zero_le _, Nat.zero_le _⟩) hS (fun q _ h => hFc q h) hFc (fun u9 t H1 locs ht hvm hw hB hz1 hk1 hS => ?_)
    obtain ⟨hP1, hK1, hD1⟩ := hB
    rw [ht] at hP1
    obtain ⟨hP, hD⟩ := va_join (wr := []) (w1 := (wd_X1_put a_this a_text a_number a_rounded a_lowEdge a_highEdge c_text v_length_13 v_digitsStart v_digitsEnd v_unitsAt v_tenPower v_text_13)) hP hD [0, 1] [] rfl rfl (by decide) (by decide) hk1 hFc hP1 hD1
    generalize H1 = H at hP hS ⊢
    have hP : va_P (dC, dI) vwCl (wd_X1_putPower a_this a_text a_number a_rounded a_lowEdge a_highEdge c_text v_length_13 v_digitsStart v_digitsEnd v_unitsAt v_tenPower v_text_13) H := hP.sub [0, 1] rfl
    have hD : va_D A (wd_X1_putPower a_this a_text a_number a_rounded a_lowEdge a_highEdge c_text v_length_13 v_digitsStart v_digitsEnd v_unitsAt v_tenPower v_text_13) := hD.sub [0, 1] (by decide) rfl
    clear hP1 hK1 hD1 hPc hDc hKc hFc hk1 hz1 ht hvm
    exact w_X1_putPower_16 l a_this a_text a_number a_rounded a_lowEdge a_highEdge c_text hx hb hr hml hown hws hlocks hA l1 v_length_13 v_digitsStart v_digitsEnd v_unitsAt v_tenPower v_text_13 o_length o_text h H locs hK hP hD hS ls (lv_sub hl [0, 1] rfl)
