set_option maxHeartbeats 4000000 in
set_option maxRecDepth 100000 in
theorem w_X0_scaleUp_66 (l : Launch) {p : Program} {e : Env} {s : State} {m : MethodId} {args : Array Value} {below : List Frame} {meth : Method} {c : Code} {A : Nat → Prop} {dC : Nat → ClassId} {dI : Nat → Nat → Nat} (a_this a_limbs : Nat) (c_limbs : ClassId) (hx : p.tables.exec = Jvm.exec) (hb : c.code = cX0_scaleUp) (hr : meth.sig.returnType = none) (hml : c.maxLocals = 7) (hown : s.vm.findClass RX0 = some m.cls) (hws : ∀ w ∈ wsL_law, w.before args s = true) (hlocks : meth.locks = false) (hA : ∀ q : Nat, s.heap.size ≤ q → A q) : ∀ (n : Nat) (l2 : Int64) (l4 : Int32) (v_first : Int32) (v_last : Int32) (v_limbs : Nat → Int64) (o_first : Int32) (o_last : Int32) (o_limbs : Nat → Int64), f_X0_scaleUp_L66 n l2 l4 v_first v_last v_limbs = some (o_first, o_last, o_limbs) → ∀ (H : Heap) (locs : List Loc), va_K (dC, dI) vwCl [(c_limbs, .long)] s → va_P (dC, dI) vwCl (wd_X0_scaleUp a_this a_limbs c_limbs v_first v_last v_limbs) H → va_D A (wd_X0_scaleUp a_this a_limbs c_limbs v_first v_last v_limbs) → va_S A s.heap H locs → ∀ (ls : Array Slot), lv_has ls 7 [(0, .ref a_this), (2, .long l2), (4, .int l4)] → W p l e (headSpec (w_X0_scaleUp) ({ frames := 1, cells := 0, slots := 0, locals := 20 } : Room)).room s m args below meth c H locs 0 0 (MQ below (va_Qv (fun (_ : Unit) => True) (fun (_ : Unit) t => va_P (dC, dI) vwCl (wd_X0_scaleUp a_this a_limbs c_limbs o_first o_last o_limbs) t.heap ∧ va_K (dC, dI) vwCl [(c_limbs, .long)] t ∧ va_D A (wd_X0_scaleUp a_this a_limbs c_limbs o_first o_last o_limbs)) A) args s 0 0 A) (F0 m 66 ls []) := by
  intro n
  induction n with
  | zero =>
    intro l2 l4 v_first v_last v_limbs o_first o_last o_limbs h H locs hK hP hD hS ls hl
    exact absurd h (by simp [f_X0_scaleUp_L66])
  | succ n ih =>
    intro l2 l4 v_first v_last v_limbs o_first o_last o_limbs h H locs hK hP hD hS ls hl
    unfold f_X0_scaleUp_L66 at h
    refine lv_iload hx hb dX0_scaleUp_66 (lv_at hl 2 rfl) ?_
    refine lv_if_lt (tgt := 107) hx hb dX0_scaleUp_68 (by decide) (fun c9 => ?_) (fun c9 => ?_)
    · have h := (if_pos c9).symm.trans h
      refine lv_aload_n hx hb dX0_scaleUp_107 rfl (lv_at hl 0 rfl) ?_
      obtain ⟨⟨v_first_108, v_last_108⟩, hc, h⟩ := bd h
      dsimp only at h
      have hPc := hP.sub (ws' := (wd_X0_trim a_this a_limbs c_limbs v_first v_last v_limbs)) [0, 1] rfl
      have hDc := hD.sub (ws' := (wd_X0_trim a_this a_limbs c_limbs v_first v_last v_limbs)) [0, 1] (by decide) rfl
      have hKc := hK.sub (tys' := [(c_limbs, .long)]) [0] rfl
      have hFc := va_free (wc := (wd_X0_trim a_this a_limbs c_limbs v_first v_last v_limbs)) hD hS hA [0, 1] rfl
      refine va_callv (va_runV (As := []) (rest := []) ⟨hx, hb, hml, hown, hws⟩ (c_X0_trim l dC dI  a_this a_limbs c_limbs (Array.size H)  v_first v_last v_limbs v_first_108 v_last_108 hc) (cwV 0 hws (gV ww_163 ww_164 ww_165 ww_18 ww_166) rfl rfl rfl (by decide +kernel) ⟨Nat.le_of_ble_eq_true rfl, Nat.le_of_ble_eq_true rfl⟩) ⟨(fun a U g mk q => by obtain ⟨q0, q1, qP, qK, qD⟩ := q; exact ⟨q0, q1, qP, va_K.moved (u := U) (U := U.calling g mk a) (Vm.Alike.refl U.vm) qK, qD⟩), va_recv hKc hPc (ci := 0) (q0 := 0) rfl rfl, (fun U hU hW => ⟨rfl, by rw [hU], by rw [hU]; exact hPc, va_K.moved hW.alike hKc, hDc.weaken (fun _ _ _ _ => trivial)⟩)⟩ rfl rfl hl.1 rfl (lv_room (Nat.le_of_ble_eq_true rfl)) dX0_scaleUp_108 ⟨Nat.zero_le _, Nat.zero_le _⟩) hS (fun q _ h => hFc q h) hFc (fun u9 t H1 locs ht hvm hw hB hz1 hk1 hS => ?_)
      obtain ⟨hP1, hK1, hD1⟩ := hB
      rw [ht] at hP1
      obtain ⟨hP, hD⟩ := va_join (wr := []) (w1 := (wd_X0_trim a_this a_limbs c_limbs v_first_108 v_last_108 v_limbs)) hP hD [0, 1] [] rfl rfl (by decide) (by decide) hk1 hFc hP1 hD1
      generalize H1 = H at hP hS ⊢
      have hP : va_P (dC, dI) vwCl (wd_X0_scaleUp a_this a_limbs c_limbs v_first_108 v_last_108 v_limbs) H := hP.sub [0, 1] rfl
      have hD : va_D A (wd_X0_scaleUp a_this a_limbs c_limbs v_first_108 v_last_108 v_limbs) := hD.sub [0, 1] (by decide) rfl
      clear hP1 hK1 hD1 hPc hDc hKc hFc hk1 hz1 ht hvm
      obtain ⟨h09, h19, h29⟩ := rt3 h
      subst o_first
      subst o_last
      subst o_limbs
      exact W.vret hx hb hr (fun t ht hW => ⟨⟨(), rfl, trivial, by rw [ht]; exact hP, va_K.moved hW.alike hK, hD⟩, hS.F ht⟩) hS.2.2 dX0_scaleUp_111
    · have h := (if_neg c9).symm.trans h
      refine lv_lload_n hx hb dX0_scaleUp_71 rfl (lv_at hl 1 rfl) ?_
      refine lv_lconst (v := 0) hx hb dX0_scaleUp_72 (by decide) ?_
      refine W.lcmp hx hb dX0_scaleUp_73 ?_
      refine lv_if_le (tgt := 107) hx hb dX0_scaleUp_74 (by decide) (fun c9 => ?_) (fun c9 => ?_)
      · have h := (if_pos c9).symm.trans h
        refine lv_aload_n hx hb dX0_scaleUp_107 rfl (lv_at hl 0 rfl) ?_
        obtain ⟨⟨v_first_108, v_last_108⟩, hc, h⟩ := bd h
        dsimp only at h
        have hPc := hP.sub (ws' := (wd_X0_trim a_this a_limbs c_limbs v_first v_last v_limbs)) [0, 1] rfl
        have hDc := hD.sub (ws' := (wd_X0_trim a_this a_limbs c_limbs v_first v_last v_limbs)) [0, 1] (by decide) rfl
        have hKc := hK.sub (tys' := [(c_limbs, .long)]) [0] rfl
        have hFc := va_free (wc := (wd_X0_trim a_this a_limbs c_limbs v_first v_last v_limbs)) hD hS hA [0, 1] rfl
        refine va_callv (va_runV (As := []) (rest := []) ⟨hx, hb, hml, hown, hws⟩ (c_X0_trim l dC dI  a_this a_limbs c_limbs (Array.size H)  v_first v_last v_limbs v_first_108 v_last_108 hc) (cwV 0 hws (gV ww_163 ww_164 ww_165 ww_18 ww_166) rfl rfl rfl (by decide +kernel) ⟨Nat.le_of_ble_eq_true rfl, Nat.le_of_ble_eq_true rfl⟩) ⟨(fun a U g mk q => by obtain ⟨q0, q1, qP, qK, qD⟩ := q; exact ⟨q0, q1, qP, va_K.moved (u := U) (U := U.calling g mk a) (Vm.Alike.refl U.vm) qK, qD⟩), va_recv hKc hPc (ci := 0) (q0 := 0) rfl rfl, (fun U hU hW => ⟨rfl, by rw [hU], by rw [hU]; exact hPc, va_K.moved hW.alike hKc, hDc.weaken (fun _ _ _ _ => trivial)⟩)⟩ rfl rfl hl.1 rfl (lv_room (Nat.le_of_ble_eq_true rfl)) dX0_scaleUp_108 ⟨Nat.zero_le _, Nat.zero_le _⟩) hS (fun q _ h => hFc q h) hFc (fun u9 t H1 locs ht hvm hw hB hz1 hk1 hS => ?_)
        obtain ⟨hP1, hK1, hD1⟩ := hB
        rw [ht] at hP1
        obtain ⟨hP, hD⟩ := va_join (wr := []) (w1 := (wd_X0_trim a_this a_limbs c_limbs v_first_108 v_last_108 v_limbs)) hP hD [0, 1] [] rfl rfl (by decide) (by decide) hk1 hFc hP1 hD1
        generalize H1 = H at hP hS ⊢
        have hP : va_P (dC, dI) vwCl (wd_X0_scaleUp a_this a_limbs c_limbs v_first_108 v_last_108 v_limbs) H := hP.sub [0, 1] rfl
        have hD : va_D A (wd_X0_scaleUp a_this a_limbs c_limbs v_first_108 v_last_108 v_limbs) := hD.sub [0, 1] (by decide) rfl
        clear hP1 hK1 hD1 hPc hDc hKc hFc hk1 hz1 ht hvm
        obtain ⟨h09, h19, h29⟩ := rt3 h
        subst o_first
        subst o_last
        subst o_limbs
        exact W.vret hx hb hr (fun t ht hW => ⟨⟨(), rfl, trivial, by rw [ht]; exact hP, va_K.moved hW.alike hK, hD⟩, hS.F ht⟩) hS.2.2 dX0_scaleUp_111
      · have h := (if_neg c9).symm.trans h
        refine lv_aload_n hx hb dX0_scaleUp_77 rfl (lv_at hl 0 rfl) ?_
        refine va_get (D := (dC, dI)) (ci := 0) (v := .ref a_limbs) (C := RX0) (T := TX0) (N := 3) hx hb hws inlX0 hown hK hP 0 rfl rfl 0 (by decide) (hws _ ww_27) (fun _ h9 => h9) rfl dX0_scaleUp_78 ?_
        refine lv_iload hx hb dX0_scaleUp_81 (lv_at hl 2 rfl) ?_
        refine lv_lload_n hx hb dX0_scaleUp_83 rfl (lv_at hl 1 rfl) ?_
        refine lv_ldc2 (v := 1000000000) hx hb hown (hws _ ww_162) dX0_scaleUp_84 ?_
        refine lv_lrem hx hb dX0_scaleUp_87 (by decide) ?_
        obtain ⟨hi, h⟩ := gd h
        refine va_last hx hb hK hP hD hS 1 0 rfl rfl hi dX0_scaleUp_88 (fun H locs hP hD hS => ?_)
        have hP : va_P (dC, dI) vwCl (wd_X0_scaleUp a_this a_limbs c_limbs v_first v_last (vp_updL v_limbs (Int32.toNatClampNeg l4) (l2 - l2 / 1000000000 * 1000000000))) H := hP
        have hD : va_D A (wd_X0_scaleUp a_this a_limbs c_limbs v_first v_last (vp_updL v_limbs (Int32.toNatClampNeg l4) (l2 - l2 / 1000000000 * 1000000000))) := hD
        refine lv_lload_n hx hb dX0_scaleUp_89 rfl (lv_at hl 1 rfl) ?_
        refine lv_ldc2 (v := 1000000000) hx hb hown (hws _ ww_162) dX0_scaleUp_90 ?_
        refine lv_ldiv hx hb dX0_scaleUp_93 (by decide) ?_
        refine lv_lstore_n (lv' := [(2, .long (l2 / 1000000000)), (0, .ref a_this), (4, .int l4)]) hx hb dX0_scaleUp_94 rfl hl (by decide) rfl (fun ls hl => ?_)
        refine lv_aload_n hx hb dX0_scaleUp_95 rfl (lv_at hl 1 rfl) ?_
        refine lv_iload hx hb dX0_scaleUp_96 (lv_at hl 2 rfl) ?_
        refine va_put (D := (dC, dI)) (ci := 0) (v := .int l4) (ty := .int) (C := RX0) (T := TX0) (N := 3) hx hb hws inlX0 tyX0 tyX0_ok nmX0 hown hK hP hD hS 0 rfl rfl 1 (by decide) (hws _ ww_28) (fun _ h9 => h9) rfl (by decide +kernel) rfl rfl (Nat.le_of_ble_eq_true rfl) dX0_scaleUp_98 (fun H locs hP hD hS => ?_)
        have hP : va_P (dC, dI) vwCl (wd_X0_scaleUp a_this a_limbs c_limbs l4 v_last (vp_updL v_limbs (Int32.toNatClampNeg l4) (l2 - l2 / 1000000000 * 1000000000))) H := hP
        have hD : va_D A (wd_X0_scaleUp a_this a_limbs c_limbs l4 v_last (vp_updL v_limbs (Int32.toNatClampNeg l4) (l2 - l2 / 1000000000 * 1000000000))) := hD
        refine lv_iinc (v := (l4 + (-1))) (lv' := [(4, .int (l4 + (-1))), (2, .long (l2 / 1000000000)), (0, .ref a_this)]) hx hb dX0_scaleUp_101 hl (k := 2) rfl rfl (by decide) rfl (fun ls hl => ?_)
        refine lv_goto (tgt := 66) hx hb dX0_scaleUp_104 (by decide) ?_
        exact ih (l2 / 1000000000) (l4 + (-1)) l4 v_last (vp_updL v_limbs (Int32.toNatClampNeg l4) (l2 - l2 / 1000000000 * 1000000000)) o_first o_last o_limbs h H locs hK hP hD hS ls (lv_sub hl [2, 1, 0] rfl)
set_option maxHeartbeats 4000000 in
set_option maxRecDepth 100000 in
theorem w_X0_scaleUp_8 (l : Launch) {p : Program} {e : Env} {s : State} {m : MethodId} {args : Array Value} {below : List Frame} {meth : Method} {c : Code} {A : Nat → Prop} {dC : Nat → ClassId} {dI : Nat → Nat → Nat} (a_this a_limbs : Nat) (c_limbs : ClassId) (hx : p.tables.exec = Jvm.exec) (hb : c.code = cX0_scaleUp) (hr : meth.sig.returnType = none) (hml : c.maxLocals = 7) (hown : s.vm.findClass RX0 = some m.cls) (hws : ∀ w ∈ wsL_law, w.before args s = true) (hlocks : meth.locks = false) (hA : ∀ q : Nat, s.heap.size ≤ q → A q) : ∀ (n : Nat) (l1 : Int32) (l2 : Int64) (l4 : Int32) (v_first : Int32) (v_last : Int32) (v_limbs : Nat → Int64) (o_first : Int32) (o_last : Int32) (o_limbs : Nat → Int64), f_X0_scaleUp_L8 n l1 l2 l4 v_first v_last v_limbs = some (o_first, o_last, o_limbs) → ∀ (H : Heap) (locs : List Loc), va_K (dC, dI) vwCl [(c_limbs, .long)] s → va_P (dC, dI) vwCl (wd_X0_scaleUp a_this a_limbs c_limbs v_first v_last v_limbs) H → va_D A (wd_X0_scaleUp a_this a_limbs c_limbs v_first v_last v_limbs) → va_S A s.heap H locs → ∀ (ls : Array Slot), lv_has ls 7 [(0, .ref a_this), (1, .int l1), (2, .long l2), (4, .int l4)] → W p l e (headSpec (w_X0_scaleUp) ({ frames := 1, cells := 0, slots := 0, locals := 20 } : Room)).room s m args below meth c H locs 0 0 (MQ below (va_Qv (fun (_ : Unit) => True) (fun (_ : Unit) t => va_P (dC, dI) vwCl (wd_X0_scaleUp a_this a_limbs c_limbs o_first o_last o_limbs) t.heap ∧ va_K (dC, dI) vwCl [(c_limbs, .long)] t ∧ va_D A (wd_X0_scaleUp a_this a_limbs c_limbs o_first o_last o_limbs)) A) args s 0 0 A) (F0 m 8 ls []) := by
  intro n
  induction n with
  | zero =>
    intro l1 l2 l4 v_first v_last v_limbs o_first o_last o_limbs h H locs hK hP hD hS ls hl
    exact absurd h (by simp [f_X0_scaleUp_L8])
  | succ n ih =>
    intro l1 l2 l4 v_first v_last v_limbs o_first o_last o_limbs h H locs hK hP hD hS ls hl
    unfold f_X0_scaleUp_L8 at h
    refine lv_iload hx hb dX0_scaleUp_8 (lv_at hl 3 rfl) ?_
    refine lv_aload_n hx hb dX0_scaleUp_10 rfl (lv_at hl 0 rfl) ?_
    refine va_get (D := (dC, dI)) (ci := 0) (v := .int v_first) (C := RX0) (T := TX0) (N := 3) hx hb hws inlX0 hown hK hP 0 rfl rfl 1 (by decide) (hws _ ww_28) (fun _ h9 => h9) rfl dX0_scaleUp_11 ?_
    refine lv_icmp_lt (tgt := 58) hx hb dX0_scaleUp_14 (by decide) (fun c9 => ?_) (fun c9 => ?_)
    · have h := (if_pos c9).symm.trans h
      refine lv_aload_n hx hb dX0_scaleUp_58 rfl (lv_at hl 0 rfl) ?_
      refine va_get (D := (dC, dI)) (ci := 0) (v := .int v_first) (C := RX0) (T := TX0) (N := 3) hx hb hws inlX0 hown hK hP 0 rfl rfl 1 (by decide) (hws _ ww_28) (fun _ h9 => h9) rfl dX0_scaleUp_59 ?_
      refine lv_iconst (v := 1) hx hb dX0_scaleUp_62 (by decide) ?_
      refine lv_isub hx hb dX0_scaleUp_63 ?_
      refine lv_istore (lv' := [(4, .int (v_first - 1)), (0, .ref a_this), (1, .int l1), (2, .long l2)]) hx hb dX0_scaleUp_64 hl (by decide) rfl (fun ls hl => ?_)
      exact w_X0_scaleUp_66 l a_this a_limbs c_limbs hx hb hr hml hown hws hlocks hA FU l2 (v_first - 1) v_first v_last v_limbs o_first o_last o_limbs h H locs hK hP hD hS ls (lv_sub hl [1, 3, 0] rfl)
    · have h := (if_neg c9).symm.trans h
      refine lv_aload_n hx hb dX0_scaleUp_17 rfl (lv_at hl 0 rfl) ?_
      refine va_get (D := (dC, dI)) (ci := 0) (v := .ref a_limbs) (C := RX0) (T := TX0) (N := 3) hx hb hws inlX0 hown hK hP 0 rfl rfl 0 (by decide) (hws _ ww_27) (fun _ h9 => h9) rfl dX0_scaleUp_18 ?_
      refine lv_iload hx hb dX0_scaleUp_21 (lv_at hl 3 rfl) ?_
      obtain ⟨hi, h⟩ := gd h
      refine va_lald hx hb hK hP 1 0 rfl rfl hi dX0_scaleUp_23 ?_
      refine lv_iload_n hx hb dX0_scaleUp_24 rfl (lv_at hl 1 rfl) ?_
      refine lv_lshl hx hb dX0_scaleUp_25 rfl ?_
      refine lv_lload_n hx hb dX0_scaleUp_26 rfl (lv_at hl 2 rfl) ?_
      refine lv_ladd hx hb dX0_scaleUp_27 ?_
      refine lv_lstore (lv' := [(5, .long (((v_limbs (Int32.toNatClampNeg l4)) <<< (Int32.toInt64 l1 &&& 63)) + l2)), (0, .ref a_this), (1, .int l1), (2, .long l2), (4, .int l4)]) hx hb dX0_scaleUp_28 hl (by decide) rfl (fun ls hl => ?_)
      refine lv_lload hx hb dX0_scaleUp_30 (lv_at hl 0 rfl) ?_
      refine lv_ldc2 (v := 1000000000) hx hb hown (hws _ ww_162) dX0_scaleUp_32 ?_
      refine lv_ldiv hx hb dX0_scaleUp_35 (by decide) ?_
      refine lv_lstore_n (lv' := [(2, .long ((((v_limbs (Int32.toNatClampNeg l4)) <<< (Int32.toInt64 l1 &&& 63)) + l2) / 1000000000)), (5, .long (((v_limbs (Int32.toNatClampNeg l4)) <<< (Int32.toInt64 l1 &&& 63)) + l2)), (0, .ref a_this), (1, .int l1), (4, .int l4)]) hx hb dX0_scaleUp_36 rfl hl (by decide) rfl (fun ls hl => ?_)
      refine lv_aload_n hx hb dX0_scaleUp_37 rfl (lv_at hl 2 rfl) ?_
      refine va_get (D := (dC, dI)) (ci := 0) (v := .ref a_limbs) (C := RX0) (T := TX0) (N := 3) hx hb hws inlX0 hown hK hP 0 rfl rfl 0 (by decide) (hws _ ww_27) (fun _ h9 => h9) rfl dX0_scaleUp_38 ?_
      refine lv_iload hx hb dX0_scaleUp_41 (lv_at hl 4 rfl) ?_
      refine lv_lload hx hb dX0_scaleUp_43 (lv_at hl 1 rfl) ?_
      refine lv_lload_n hx hb dX0_scaleUp_45 rfl (lv_at hl 0 rfl) ?_
      refine lv_ldc2 (v := 1000000000) hx hb hown (hws _ ww_162) dX0_scaleUp_46 ?_
      refine lv_lmul hx hb dX0_scaleUp_49 ?_
      refine lv_lsub hx hb dX0_scaleUp_50 ?_
      obtain ⟨hi, h⟩ := gd h
      refine va_last hx hb hK hP hD hS 1 0 rfl rfl hi dX0_scaleUp_51 (fun H locs hP hD hS => ?_)
      have hP : va_P (dC, dI) vwCl (wd_X0_scaleUp a_this a_limbs c_limbs v_first v_last (vp_updL v_limbs (Int32.toNatClampNeg l4) ((((v_limbs (Int32.toNatClampNeg l4)) <<< (Int32.toInt64 l1 &&& 63)) + l2) - (((((v_limbs (Int32.toNatClampNeg l4)) <<< (Int32.toInt64 l1 &&& 63)) + l2) / 1000000000) * 1000000000)))) H := hP
      have hD : va_D A (wd_X0_scaleUp a_this a_limbs c_limbs v_first v_last (vp_updL v_limbs (Int32.toNatClampNeg l4) ((((v_limbs (Int32.toNatClampNeg l4)) <<< (Int32.toInt64 l1 &&& 63)) + l2) - (((((v_limbs (Int32.toNatClampNeg l4)) <<< (Int32.toInt64 l1 &&& 63)) + l2) / 1000000000) * 1000000000)))) := hD
      refine lv_iinc (v := (l4 + (-1))) (lv' := [(4, .int (l4 + (-1))), (2, .long ((((v_limbs (Int32.toNatClampNeg l4)) <<< (Int32.toInt64 l1 &&& 63)) + l2) / 1000000000)), (5, .long (((v_limbs (Int32.toNatClampNeg l4)) <<< (Int32.toInt64 l1 &&& 63)) + l2)), (0, .ref a_this), (1, .int l1)]) hx hb dX0_scaleUp_52 hl (k := 4) rfl rfl (by decide) rfl (fun ls hl => ?_)
      refine lv_goto (tgt := 8) hx hb dX0_scaleUp_55 (by decide) ?_
      exact ih l1 ((((v_limbs (Int32.toNatClampNeg l4)) <<< (Int32.toInt64 l1 &&& 63)) + l2) / 1000000000) (l4 + (-1)) v_first v_last (vp_updL v_limbs (Int32.toNatClampNeg l4) ((((v_limbs (Int32.toNatClampNeg l4)) <<< (Int32.toInt64 l1 &&& 63)) + l2) - (((((v_limbs (Int32.toNatClampNeg l4)) <<< (Int32.toInt64 l1 &&& 63)) + l2) / 1000000000) * 1000000000))) o_first o_last o_limbs h H locs hK hP hD hS ls (lv_sub hl [3, 4, 1, 0] rfl)
set_option maxHeartbeats 4000000 in
set_option maxRecDepth 100000 in
theorem c_X0_scaleUp (l : Launch) (dC : Nat → ClassId) (dI : Nat → Nat → Nat)  (a_this a_limbs : Nat) (c_limbs : ClassId) (sz : Nat) (l1 : Int32) (v_first : Int32) (v_last : Int32) (v_limbs : Nat → Int64) (o_first : Int32) (o_last : Int32) (o_limbs : Nat → Int64) (h : f_X0_scaleUp l1 v_first v_last v_limbs = some (o_first, o_last, o_limbs)) : Met l yX0_scaleUp w_X0_scaleUp ({ frames := 1, cells := 0, slots := 0, locals := 20 } : Room) (va_Pc [.ref a_this, .int l1] (fun U => U.heap.size = sz ∧ va_P (dC, dI) vwCl (wd_X0_scaleUp a_this a_limbs c_limbs v_first v_last v_limbs) U.heap ∧ va_K (dC, dI) vwCl [(c_limbs, .long)] U ∧ va_D (fun _ => True) (wd_X0_scaleUp a_this a_limbs c_limbs v_first v_last v_limbs))) (va_Qv (fun (_ : Unit) => True) (fun (_ : Unit) t => va_P (dC, dI) vwCl (wd_X0_scaleUp a_this a_limbs c_limbs o_first o_last o_limbs) t.heap ∧ va_K (dC, dI) vwCl [(c_limbs, .long)] t ∧ va_D (va_A (wd_X0_scaleUp a_this a_limbs c_limbs v_first v_last v_limbs) sz) (wd_X0_scaleUp a_this a_limbs c_limbs o_first o_last o_limbs)) (va_A (wd_X0_scaleUp a_this a_limbs c_limbs v_first v_last v_limbs) sz)) 0 0 (va_A (wd_X0_scaleUp a_this a_limbs c_limbs v_first v_last v_limbs) sz) := by
  refine Met.ofW (cc := cX0_scaleUp) (maxL := 7) (ret := none) (by decide) rfl ?_
  intro p e s m args below meth c s₁ B hml hv
  obtain ⟨rfl, hsz, hP, hK, hD0⟩ := hv
  have hx := B.exec
  have hb := B.bytes
  have hr := B.returns
  have hws : ∀ w ∈ wsL_law, w.before _ s = true := fun w hw => atoms_spec (ws := w_X0_scaleUp) B.pre w (List.mem_cons_of_mem _ hw)
  have hown : s.vm.findClass RX0 = some m.cls := findClass_of_methodNamed B.named
  have hlocks := B.notSynchronized
  subst hsz
  have hD := hD0.self (sz := s.heap.size)
  generalize hAe : va_A (wd_X0_scaleUp a_this a_limbs c_limbs v_first v_last v_limbs) s.heap.size = A at hD ⊢
  have hA : ∀ q : Nat, s.heap.size ≤ q → A q := fun q h => by rw [← hAe]; exact Or.inr h
  have hS : va_S A s.heap s.heap [] := va_S.rf
  have hl := lv_entry ([.ref a_this, .int l1]) (n := 7) (Nat.le_of_ble_eq_true rfl)
  rw [lg_entry_eq]
  generalize (lg_sl ([.ref a_this, .int l1]) ++ List.replicate (7 - (lg_sl ([.ref a_this, .int l1])).length) Slot.unset).toArray = ls at hl ⊢
  have hl : lv_has ls 7 [(0, .ref a_this), (1, .int l1)] := hl
  unfold f_X0_scaleUp at h
  refine lv_lconst (v := 0) hx hb dX0_scaleUp_0 (by decide) ?_
  refine lv_lstore_n (lv' := [(2, .long 0), (0, .ref a_this), (1, .int l1)]) hx hb dX0_scaleUp_1 rfl hl (by decide) rfl (fun ls hl => ?_)
  refine lv_aload_n hx hb dX0_scaleUp_2 rfl (lv_at hl 1 rfl) ?_
  refine va_get (D := (dC, dI)) (ci := 0) (v := .int v_last) (C := RX0) (T := TX0) (N := 3) hx hb hws inlX0 hown hK hP 0 rfl rfl 2 (by decide) (hws _ ww_29) (fun _ h9 => h9) rfl dX0_scaleUp_3 ?_
  refine lv_istore (lv' := [(4, .int v_last), (2, .long 0), (0, .ref a_this), (1, .int l1)]) hx hb dX0_scaleUp_6 hl (by decide) rfl (fun ls hl => ?_)
  exact w_X0_scaleUp_8 l a_this a_limbs c_limbs hx hb hr hml hown hws hlocks hA FU l1 0 v_last v_first v_last v_limbs o_first o_last o_limbs h s.heap [] hK hP hD hS ls (lv_sub hl [2, 3, 1, 0] rfl)
set_option maxHeartbeats 4000000 in
set_option maxRecDepth 100000 in
theorem w_X0_scale_25 (l : Launch) {p : Program} {e : Env} {s : State} {m : MethodId} {args : Array Value} {below : List Frame} {meth : Method} {c : Code} {A : Nat → Prop} {dC : Nat → ClassId} {dI : Nat → Nat → Nat} (a_this a_limbs : Nat) (c_limbs : ClassId) (hx : p.tables.exec = Jvm.exec) (hb : c.code = cX0_scale) (hr : meth.sig.returnType = none) (hml : c.maxLocals = 3) (hown : s.vm.findClass RX0 = some m.cls) (hws : ∀ w ∈ wsL_law, w.before args s = true) (hlocks : meth.locks = false) (hA : ∀ q : Nat, s.heap.size ≤ q → A q) : ∀ (n : Nat) (l2 : Int32) (v_first : Int32) (v_last : Int32) (v_limbs : Nat → Int64) (o_first : Int32) (o_last : Int32) (o_limbs : Nat → Int64), f_X0_scale_L25 n l2 v_first v_last v_limbs = some (o_first, o_last, o_limbs) → ∀ (H : Heap) (locs : List Loc), va_K (dC, dI) vwCl [(c_limbs, .long)] s → va_P (dC, dI) vwCl (wd_X0_scale a_this a_limbs c_limbs v_first v_last v_limbs) H → va_D A (wd_X0_scale a_this a_limbs c_limbs v_first v_last v_limbs) → va_S A s.heap H locs → ∀ (ls : Array Slot), lv_has ls 3 [(0, .ref a_this), (2, .int l2)] → W p l e (headSpec (w_X0_scale) ({ frames := 2, cells := 0, slots := 0, locals := 48 } : Room)).room s m args below meth c H locs 0 0 (MQ below (va_Qv (fun (_ : Unit) => True) (fun (_ : Unit) t => va_P (dC, dI) vwCl (wd_X0_scale a_this a_limbs c_limbs o_first o_last o_limbs) t.heap ∧ va_K (dC, dI) vwCl [(c_limbs, .long)] t ∧ va_D A (wd_X0_scale a_this a_limbs c_limbs o_first o_last o_limbs)) A) args s 0 0 A) (F0 m 25 ls []) := by
  intro n
  induction n with
  | zero =>
    intro l2 v_first v_last v_limbs o_first o_last o_limbs h H locs hK hP hD hS ls hl
    exact absurd h (by simp [f_X0_scale_L25])
  | succ n ih =>
    intro l2 v_first v_last v_limbs o_first o_last o_limbs h H locs hK hP hD hS ls hl
    unfold f_X0_scale_L25 at h
    refine lv_iload_n hx hb dX0_scale_25 rfl (lv_at hl 1 rfl) ?_
    refine lv_if_le (tgt := 45) hx hb dX0_scale_26 (by decide) (fun c9 => ?_) (fun c9 => ?_)
    · have h := (if_pos c9).symm.trans h
      obtain ⟨h09, h19, h29⟩ := rt3 h
      subst o_first
      subst o_last
      subst o_limbs
      exact W.vret hx hb hr (fun t ht hW => ⟨⟨(), rfl, trivial, by rw [ht]; exact hP, va_K.moved hW.alike hK, hD⟩, hS.F ht⟩) hS.2.2 dX0_scale_45
    · have h := (if_neg c9).symm.trans h
      refine lv_aload_n hx hb dX0_scale_29 rfl (lv_at hl 0 rfl) ?_
      refine lv_iload_n hx hb dX0_scale_30 rfl (lv_at hl 1 rfl) ?_
      refine lv_bipush (v := 33) hx hb dX0_scale_31 (by decide) ?_
      refine va_mmin hx hb (hml.trans hl.1.symm) hown (hws _ ww_125) (hws _ ww_126) (hws _ ww_127) (hws _ ww_128) (Nat.le_of_ble_eq_true rfl) (Nat.le_of_ble_eq_true rfl) (Nat.le_of_ble_eq_true rfl) (Nat.le_of_ble_eq_true rfl) dX0_scale_33 ?_
      obtain ⟨⟨v_first_36, v_last_36, v_limbs_36⟩, hc, h⟩ := bd h
      dsimp only at h
      have hPc := hP.sub (ws' := (wd_X0_scaleDown a_this a_limbs c_limbs v_first v_last v_limbs)) [0, 1] rfl
      have hDc := hD.sub (ws' := (wd_X0_scaleDown a_this a_limbs c_limbs v_first v_last v_limbs)) [0, 1] (by decide) rfl
      have hKc := hK.sub (tys' := [(c_limbs, .long)]) [0] rfl
      have hFc := va_free (wc := (wd_X0_scaleDown a_this a_limbs c_limbs v_first v_last v_limbs)) hD hS hA [0, 1] rfl
      refine va_callv (va_runV (As := [.int (if 33 < l2 then 33 else l2)]) (rest := []) ⟨hx, hb, hml, hown, hws⟩ (c_X0_scaleDown l dC dI  a_this a_limbs c_limbs (Array.size H) (if 33 < l2 then 33 else l2) v_first v_last v_limbs v_first_36 v_last_36 v_limbs_36 hc) (cwV 1 hws (gV ww_167 ww_168 ww_169 ww_18 ww_170) rfl rfl rfl (by decide +kernel) ⟨Nat.le_of_ble_eq_true rfl, Nat.le_of_ble_eq_true rfl⟩) ⟨(fun a U g mk q => by obtain ⟨q0, q1, qP, qK, qD⟩ := q; exact ⟨q0, q1, qP, va_K.moved (u := U) (U := U.calling g mk a) (Vm.Alike.refl U.vm) qK, qD⟩), va_recv hKc hPc (ci := 0) (q0 := 0) rfl rfl, (fun U hU hW => ⟨rfl, by rw [hU], by rw [hU]; exact hPc, va_K.moved hW.alike hKc, hDc.weaken (fun _ _ _ _ => trivial)⟩)⟩ rfl rfl hl.1 rfl (lv_room (Nat.le_of_ble_eq_true rfl)) dX0_scale_36 ⟨Nat.zero_le _, Nat.zero_le _⟩) hS (fun q _ h => hFc q h) hFc (fun u9 t H1 locs ht hvm hw hB hz1 hk1 hS => ?_)
      obtain ⟨hP1, hK1, hD1⟩ := hB
      rw [ht] at hP1
      obtain ⟨hP, hD⟩ := va_join (wr := []) (w1 := (wd_X0_scaleDown a_this a_limbs c_limbs v_first_36 v_last_36 v_limbs_36)) hP hD [0, 1] [] rfl rfl (by decide) (by decide) hk1 hFc hP1 hD1
      generalize H1 = H at hP hS ⊢
      have hP : va_P (dC, dI) vwCl (wd_X0_scale a_this a_limbs c_limbs v_first_36 v_last_36 v_limbs_36) H := hP.sub [0, 1] rfl
      have hD : va_D A (wd_X0_scale a_this a_limbs c_limbs v_first_36 v_last_36 v_limbs_36) := hD.sub [0, 1] (by decide) rfl
      clear hP1 hK1 hD1 hPc hDc hKc hFc hk1 hz1 ht hvm
      refine lv_iinc (v := (l2 + (-33))) (lv' := [(2, .int (l2 + (-33))), (0, .ref a_this)]) hx hb dX0_scale_39 hl (k := 1) rfl rfl (by decide) rfl (fun ls hl => ?_)
      refine lv_goto (tgt := 25) hx hb dX0_scale_42 (by decide) ?_
      exact ih (l2 + (-33)) v_first_36 v_last_36 v_limbs_36 o_first o_last o_limbs h H locs hK hP hD hS ls (lv_sub hl [1, 0] rfl)
set_option maxHeartbeats 4000000 in
set_option maxRecDepth 100000 in
theorem w_X0_scale_2 (l : Launch) {p : Program} {e : Env} {s : State} {m : MethodId} {args : Array Value} {below : List Frame} {meth : Method} {c : Code} {A : Nat → Prop} {dC : Nat → ClassId} {dI : Nat → Nat → Nat} (a_this a_limbs : Nat) (c_limbs : ClassId) (hx : p.tables.exec = Jvm.exec) (hb : c.code = cX0_scale) (hr : meth.sig.returnType = none) (hml : c.maxLocals = 3) (hown : s.vm.findClass RX0 = some m.cls) (hws : ∀ w ∈ wsL_law, w.before args s = true) (hlocks : meth.locks = false) (hA : ∀ q : Nat, s.heap.size ≤ q → A q) : ∀ (n : Nat) (l1 : Int32) (l2 : Int32) (v_first : Int32) (v_last : Int32) (v_limbs : Nat → Int64) (o_first : Int32) (o_last : Int32) (o_limbs : Nat → Int64), f_X0_scale_L2 n l1 l2 v_first v_last v_limbs = some (o_first, o_last, o_limbs) → ∀ (H : Heap) (locs : List Loc), va_K (dC, dI) vwCl [(c_limbs, .long)] s → va_P (dC, dI) vwCl (wd_X0_scale a_this a_limbs c_limbs v_first v_last v_limbs) H → va_D A (wd_X0_scale a_this a_limbs c_limbs v_first v_last v_limbs) → va_S A s.heap H locs → ∀ (ls : Array Slot), lv_has ls 3 [(0, .ref a_this), (1, .int l1), (2, .int l2)] → W p l e (headSpec (w_X0_scale) ({ frames := 2, cells := 0, slots := 0, locals := 48 } : Room)).room s m args below meth c H locs 0 0 (MQ below (va_Qv (fun (_ : Unit) => True) (fun (_ : Unit) t => va_P (dC, dI) vwCl (wd_X0_scale a_this a_limbs c_limbs o_first o_last o_limbs) t.heap ∧ va_K (dC, dI) vwCl [(c_limbs, .long)] t ∧ va_D A (wd_X0_scale a_this a_limbs c_limbs o_first o_last o_limbs)) A) args s 0 0 A) (F0 m 2 ls []) := by
  intro n
  induction n with
  | zero =>
    intro l1 l2 v_first v_last v_limbs o_first o_last o_limbs h H locs hK hP hD hS ls hl
    exact absurd h (by simp [f_X0_scale_L2])
  | succ n ih =>
    intro l1 l2 v_first v_last v_limbs o_first o_last o_limbs h H locs hK hP hD hS ls hl
    unfold f_X0_scale_L2 at h
    refine lv_iload_n hx hb dX0_scale_2 rfl (lv_at hl 2 rfl) ?_
    refine lv_if_le (tgt := 22) hx hb dX0_scale_3 (by decide) (fun c9 => ?_) (fun c9 => ?_)
    · have h := (if_pos c9).symm.trans h
      refine lv_iload_n hx hb dX0_scale_22 rfl (lv_at hl 1 rfl) ?_
      refine lv_ineg hx hb dX0_scale_23 ?_
      refine lv_istore_n (lv' := [(2, .int (-l1)), (0, .ref a_this), (1, .int l1)]) hx hb dX0_scale_24 rfl hl (by decide) rfl (fun ls hl => ?_)
      exact w_X0_scale_25 l a_this a_limbs c_limbs hx hb hr hml hown hws hlocks hA FU (-l1) v_first v_last v_limbs o_first o_last o_limbs h H locs hK hP hD hS ls (lv_sub hl [1, 0] rfl)
    · have h := (if_neg c9).symm.trans h
      refine lv_aload_n hx hb dX0_scale_6 rfl (lv_at hl 0 rfl) ?_
      refine lv_iload_n hx hb dX0_scale_7 rfl (lv_at hl 2 rfl) ?_
      refine lv_bipush (v := 33) hx hb dX0_scale_8 (by decide) ?_
      refine va_mmin hx hb (hml.trans hl.1.symm) hown (hws _ ww_125) (hws _ ww_126) (hws _ ww_127) (hws _ ww_128) (Nat.le_of_ble_eq_true rfl) (Nat.le_of_ble_eq_true rfl) (Nat.le_of_ble_eq_true rfl) (Nat.le_of_ble_eq_true rfl) dX0_scale_10 ?_
      obtain ⟨⟨v_first_13, v_last_13, v_limbs_13⟩, hc, h⟩ := bd h
      dsimp only at h
      have hPc := hP.sub (ws' := (wd_X0_scaleUp a_this a_limbs c_limbs v_first v_last v_limbs)) [0, 1] rfl
      have hDc := hD.sub (ws' := (wd_X0_scaleUp a_this a_limbs c_limbs v_first v_last v_limbs)) [0, 1] (by decide) rfl
      have hKc := hK.sub (tys' := [(c_limbs, .long)]) [0] rfl
      have hFc := va_free (wc := (wd_X0_scaleUp a_this a_limbs c_limbs v_first v_last v_limbs)) hD hS hA [0, 1] rfl
      refine va_callv (va_runV (As := [.int (if 33 < l2 then 33 else l2)]) (rest := []) ⟨hx, hb, hml, hown, hws⟩ (c_X0_scaleUp l dC dI  a_this a_limbs c_limbs (Array.size H) (if 33 < l2 then 33 else l2) v_first v_last v_limbs v_first_13 v_last_13 v_limbs_13 hc) (cwV 1 hws (gV ww_158 ww_159 ww_160 ww_18 ww_161) rfl rfl rfl (by decide +kernel) ⟨Nat.le_of_ble_eq_true rfl, Nat.le_of_ble_eq_true rfl⟩) ⟨(fun a U g mk q => by obtain ⟨q0, q1, qP, qK, qD⟩ := q; exact ⟨q0, q1, qP, va_K.moved (u := U) (U := U.calling g mk a) (Vm.Alike.refl U.vm) qK, qD⟩), va_recv hKc hPc (ci := 0) (q0 := 0) rfl rfl, (fun U hU hW => ⟨rfl, by rw [hU], by rw [hU]; exact hPc, va_K.moved hW.alike hKc, hDc.weaken (fun _ _ _ _ => trivial)⟩)⟩ rfl rfl hl.1 rfl (lv_room (Nat.le_of_ble_eq_true rfl)) dX0_scale_13 ⟨Nat.zero_le _, Nat.zero_le _⟩) hS (fun q _ h => hFc q h) hFc (fun u9 t H1 locs ht hvm hw hB hz1 hk1 hS => ?_)
      obtain ⟨hP1, hK1, hD1⟩ := hB
      rw [ht] at hP1
      obtain ⟨hP, hD⟩ := va_join (wr := []) (w1 := (wd_X0_scaleUp a_this a_limbs c_limbs v_first_13 v_last_13 v_limbs_13)) hP hD [0, 1] [] rfl rfl (by decide) (by decide) hk1 hFc hP1 hD1
      generalize H1 = H at hP hS ⊢
      have hP : va_P (dC, dI) vwCl (wd_X0_scale a_this a_limbs c_limbs v_first_13 v_last_13 v_limbs_13) H := hP.sub [0, 1] rfl
      have hD : va_D A (wd_X0_scale a_this a_limbs c_limbs v_first_13 v_last_13 v_limbs_13) := hD.sub [0, 1] (by decide) rfl
      clear hP1 hK1 hD1 hPc hDc hKc hFc hk1 hz1 ht hvm
      refine lv_iinc (v := (l2 + (-33))) (lv' := [(2, .int (l2 + (-33))), (0, .ref a_this), (1, .int l1)]) hx hb dX0_scale_16 hl (k := 2) rfl rfl (by decide) rfl (fun ls hl => ?_)
      refine lv_goto (tgt := 2) hx hb dX0_scale_19 (by decide) ?_
      exact ih l1 (l2 + (-33)) v_first_13 v_last_13 v_limbs_13 o_first o_last o_limbs h H locs hK hP hD hS ls (lv_sub hl [1, 2, 0] rfl)
set_option maxHeartbeats 4000000 in
set_option maxRecDepth 100000 in
theorem c_X0_scale (l : Launch) (dC : Nat → ClassId) (dI : Nat → Nat → Nat)  (a_this a_limbs : Nat) (c_limbs : ClassId) (sz : Nat) (l1 : Int32) (v_first : Int32) (v_last : Int32) (v_limbs : Nat → Int64) (o_first : Int32) (o_last : Int32) (o_limbs : Nat → Int64) (h : f_X0_scale l1 v_first v_last v_limbs = some (o_first, o_last, o_limbs)) : Met l yX0_scale w_X0_scale ({ frames := 2, cells := 0, slots := 0, locals := 48 } : Room) (va_Pc [.ref a_this, .int l1] (fun U => U.heap.size = sz ∧ va_P (dC, dI) vwCl (wd_X0_scale a_this a_limbs c_limbs v_first v_last v_limbs) U.heap ∧ va_K (dC, dI) vwCl [(c_limbs, .long)] U ∧ va_D (fun _ => True) (wd_X0_scale a_this a_limbs c_limbs v_first v_last v_limbs))) (va_Qv (fun (_ : Unit) => True) (fun (_ : Unit) t => va_P (dC, dI) vwCl (wd_X0_scale a_this a_limbs c_limbs o_first o_last o_limbs) t.heap ∧ va_K (dC, dI) vwCl [(c_limbs, .long)] t ∧ va_D (va_A (wd_X0_scale a_this a_limbs c_limbs v_first v_last v_limbs) sz) (wd_X0_scale a_this a_limbs c_limbs o_first o_last o_limbs)) (va_A (wd_X0_scale a_this a_limbs c_limbs v_first v_last v_limbs) sz)) 0 0 (va_A (wd_X0_scale a_this a_limbs c_limbs v_first v_last v_limbs) sz) := by
  refine Met.ofW (cc := cX0_scale) (maxL := 3) (ret := none) (by decide) rfl ?_
  intro p e s m args below meth c s₁ B hml hv
  obtain ⟨rfl, hsz, hP, hK, hD0⟩ := hv
  have hx := B.exec
  have hb := B.bytes
  have hr := B.returns
  have hws : ∀ w ∈ wsL_law, w.before _ s = true := fun w hw => atoms_spec (ws := w_X0_scale) B.pre w (List.mem_cons_of_mem _ hw)
  have hown : s.vm.findClass RX0 = some m.cls := findClass_of_methodNamed B.named
  have hlocks := B.notSynchronized
  subst hsz
  have hD := hD0.self (sz := s.heap.size)
  generalize hAe : va_A (wd_X0_scale a_this a_limbs c_limbs v_first v_last v_limbs) s.heap.size = A at hD ⊢
  have hA : ∀ q : Nat, s.heap.size ≤ q → A q := fun q h => by rw [← hAe]; exact Or.inr h
  have hS : va_S A s.heap s.heap [] := va_S.rf
  have hl := lv_entry ([.ref a_this, .int l1]) (n := 3) (Nat.le_of_ble_eq_true rfl)
  rw [lg_entry_eq]
  generalize (lg_sl ([.ref a_this, .int l1]) ++ List.replicate (3 - (lg_sl ([.ref a_this, .int l1])).length) Slot.unset).toArray = ls at hl ⊢
  have hl : lv_has ls 3 [(0, .ref a_this), (1, .int l1)] := hl
  unfold f_X0_scale at h
  refine lv_iload_n hx hb dX0_scale_0 rfl (lv_at hl 1 rfl) ?_
  refine lv_istore_n (lv' := [(2, .int l1), (0, .ref a_this), (1, .int l1)]) hx hb dX0_scale_1 rfl hl (by decide) rfl (fun ls hl => ?_)
  exact w_X0_scale_2 l a_this a_limbs c_limbs hx hb hr hml hown hws hlocks hA FU l1 l1 v_first v_last v_limbs o_first o_last o_limbs h s.heap [] hK hP hD hS ls (lv_sub hl [1, 2, 0] rfl)
set_option maxHeartbeats 4000000 in
set_option maxRecDepth 100000 in
theorem c_X0_takeScaled (l : Launch) (dC : Nat → ClassId) (dI : Nat → Nat → Nat)  (a_this a_limbs : Nat) (c_limbs : ClassId) (sz : Nat) (l1 : Int64) (l3 : Int32) (v_first : Int32) (v_last : Int32) (v_limbs : Nat → Int64) (o_first : Int32) (o_last : Int32) (o_limbs : Nat → Int64) (h : f_X0_takeScaled l1 l3 v_first v_last v_limbs = some (o_first, o_last, o_limbs)) : Met l yX0_takeScaled w_X0_takeScaled ({ frames := 3, cells := 0, slots := 0, locals := 70 } : Room) (va_Pc [.ref a_this, .long l1, .int l3] (fun U => U.heap.size = sz ∧ va_P (dC, dI) vwCl (wd_X0_takeScaled a_this a_limbs c_limbs v_first v_last v_limbs) U.heap ∧ va_K (dC, dI) vwCl [(c_limbs, .long)] U ∧ va_D (fun _ => True) (wd_X0_takeScaled a_this a_limbs c_limbs v_first v_last v_limbs))) (va_Qv (fun (_ : Unit) => True) (fun (_ : Unit) t => va_P (dC, dI) vwCl (wd_X0_takeScaled a_this a_limbs c_limbs o_first o_last o_limbs) t.heap ∧ va_K (dC, dI) vwCl [(c_limbs, .long)] t ∧ va_D (va_A (wd_X0_takeScaled a_this a_limbs c_limbs v_first v_last v_limbs) sz) (wd_X0_takeScaled a_this a_limbs c_limbs o_first o_last o_limbs)) (va_A (wd_X0_takeScaled a_this a_limbs c_limbs v_first v_last v_limbs) sz)) 0 0 (va_A (wd_X0_takeScaled a_this a_limbs c_limbs v_first v_last v_limbs) sz) := by
  refine Met.ofW (cc := cX0_takeScaled) (maxL := 4) (ret := none) (by decide) rfl ?_
  intro p e s m args below meth c s₁ B hml hv
  obtain ⟨rfl, hsz, hP, hK, hD0⟩ := hv
  have hx := B.exec
  have hb := B.bytes
  have hr := B.returns
  have hws : ∀ w ∈ wsL_law, w.before _ s = true := fun w hw => atoms_spec (ws := w_X0_takeScaled) B.pre w (List.mem_cons_of_mem _ hw)
  have hown : s.vm.findClass RX0 = some m.cls := findClass_of_methodNamed B.named
  have hlocks := B.notSynchronized
  subst hsz
  have hD := hD0.self (sz := s.heap.size)
  generalize hAe : va_A (wd_X0_takeScaled a_this a_limbs c_limbs v_first v_last v_limbs) s.heap.size = A at hD ⊢
  have hA : ∀ q : Nat, s.heap.size ≤ q → A q := fun q h => by rw [← hAe]; exact Or.inr h
  have hS : va_S A s.heap s.heap [] := va_S.rf
  have hl := lv_entry ([.ref a_this, .long l1, .int l3]) (n := 4) (Nat.le_of_ble_eq_true rfl)
  rw [lg_entry_eq]
  generalize (lg_sl ([.ref a_this, .long l1, .int l3]) ++ List.replicate (4 - (lg_sl ([.ref a_this, .long l1, .int l3])).length) Slot.unset).toArray = ls at hl ⊢
  have hl : lv_has ls 4 [(0, .ref a_this), (1, .long l1), (3, .int l3)] := hl
  unfold f_X0_takeScaled at h
  refine lv_aload_n hx hb dX0_takeScaled_0 rfl (lv_at hl 0 rfl) ?_
  obtain ⟨⟨v_first_1, v_last_1, v_limbs_1⟩, hc, h⟩ := bd h
  dsimp only at h
  have hPc := hP.sub (ws' := (wd_X0_wipe a_this a_limbs c_limbs v_first v_last v_limbs)) [0, 1] rfl
  have hDc := hD.sub (ws' := (wd_X0_wipe a_this a_limbs c_limbs v_first v_last v_limbs)) [0, 1] (by decide) rfl
  have hKc := hK.sub (tys' := [(c_limbs, .long)]) [0] rfl
  have hFc := va_free (wc := (wd_X0_wipe a_this a_limbs c_limbs v_first v_last v_limbs)) hD hS hA [0, 1] rfl
  refine va_callv (va_runV (As := []) (rest := []) ⟨hx, hb, hml, hown, hws⟩ (c_X0_wipe l dC dI  a_this a_limbs c_limbs (Array.size s.heap)  v_first v_last v_limbs v_first_1 v_last_1 v_limbs_1 hc) (cwV 0 hws (gV ww_193 ww_118 ww_119 ww_18 ww_120) rfl rfl rfl (by decide +kernel) ⟨Nat.le_of_ble_eq_true rfl, Nat.le_of_ble_eq_true rfl⟩) ⟨(fun a U g mk q => by obtain ⟨q0, q1, qP, qK, qD⟩ := q; exact ⟨q0, q1, qP, va_K.moved (u := U) (U := U.calling g mk a) (Vm.Alike.refl U.vm) qK, qD⟩), va_recv hKc hPc (ci := 0) (q0 := 0) rfl rfl, (fun U hU hW => ⟨rfl, by rw [hU], by rw [hU]; exact hPc, va_K.moved hW.alike hKc, hDc.weaken (fun _ _ _ _ => trivial)⟩)⟩ rfl rfl hl.1 rfl (lv_room (Nat.le_of_ble_eq_true rfl)) dX0_takeScaled_1 ⟨Nat.zero_le _, Nat.zero_le _⟩) hS (fun q _ h => hFc q h) hFc (fun u9 t H1 locs ht hvm hw hB hz1 hk1 hS => ?_)
  obtain ⟨hP1, hK1, hD1⟩ := hB
  rw [ht] at hP1
  obtain ⟨hP, hD⟩ := va_join (wr := []) (w1 := (wd_X0_wipe a_this a_limbs c_limbs v_first_1 v_last_1 v_limbs_1)) hP hD [0, 1] [] rfl rfl (by decide) (by decide) hk1 hFc hP1 hD1
  generalize H1 = H at hP hS ⊢
  have hP : va_P (dC, dI) vwCl (wd_X0_takeScaled a_this a_limbs c_limbs v_first_1 v_last_1 v_limbs_1) H := hP.sub [0, 1] rfl
  have hD : va_D A (wd_X0_takeScaled a_this a_limbs c_limbs v_first_1 v_last_1 v_limbs_1) := hD.sub [0, 1] (by decide) rfl
  clear hP1 hK1 hD1 hPc hDc hKc hFc hk1 hz1 ht hvm
  refine lv_aload_n hx hb dX0_takeScaled_4 rfl (lv_at hl 0 rfl) ?_
  refine va_get (D := (dC, dI)) (ci := 0) (v := .ref a_limbs) (C := RX0) (T := TX0) (N := 3) hx hb hws inlX0 hown hK hP 0 rfl rfl 0 (by decide) (hws _ ww_27) (fun _ h9 => h9) rfl dX0_takeScaled_5 ?_
  refine lv_bipush (v := 33) hx hb dX0_takeScaled_8 (by decide) ?_
  refine lv_lload_n hx hb dX0_takeScaled_10 rfl (lv_at hl 1 rfl) ?_
  refine lv_ldc2 (v := 1000000000) hx hb hown (hws _ ww_162) dX0_takeScaled_11 ?_
  refine lv_ldiv hx hb dX0_takeScaled_14 (by decide) ?_
  have hi : vp_in 33 160 := by unfold vp_in; decide +kernel
  refine va_last hx hb hK hP hD hS 1 0 rfl rfl hi dX0_takeScaled_15 (fun H locs hP hD hS => ?_)
  have hP : va_P (dC, dI) vwCl (wd_X0_takeScaled a_this a_limbs c_limbs v_first_1 v_last_1 (vp_updL v_limbs_1 (Int32.toNatClampNeg 33) (l1 / 1000000000))) H := hP
  have hD : va_D A (wd_X0_takeScaled a_this a_limbs c_limbs v_first_1 v_last_1 (vp_updL v_limbs_1 (Int32.toNatClampNeg 33) (l1 / 1000000000))) := hD
  refine lv_aload_n hx hb dX0_takeScaled_16 rfl (lv_at hl 0 rfl) ?_
  refine va_get (D := (dC, dI)) (ci := 0) (v := .ref a_limbs) (C := RX0) (T := TX0) (N := 3) hx hb hws inlX0 hown hK hP 0 rfl rfl 0 (by decide) (hws _ ww_27) (fun _ h9 => h9) rfl dX0_takeScaled_17 ?_
  refine lv_bipush (v := 34) hx hb dX0_takeScaled_20 (by decide) ?_
  refine lv_lload_n hx hb dX0_takeScaled_22 rfl (lv_at hl 1 rfl) ?_
  refine lv_ldc2 (v := 1000000000) hx hb hown (hws _ ww_162) dX0_takeScaled_23 ?_
  refine lv_lrem hx hb dX0_takeScaled_26 (by decide) ?_
  have hi : vp_in 34 160 := by unfold vp_in; decide +kernel
  refine va_last hx hb hK hP hD hS 1 0 rfl rfl hi dX0_takeScaled_27 (fun H locs hP hD hS => ?_)
  have hP : va_P (dC, dI) vwCl (wd_X0_takeScaled a_this a_limbs c_limbs v_first_1 v_last_1 (vp_updL (vp_updL v_limbs_1 (Int32.toNatClampNeg 33) (l1 / 1000000000)) (Int32.toNatClampNeg 34) (l1 - l1 / 1000000000 * 1000000000))) H := hP
  have hD : va_D A (wd_X0_takeScaled a_this a_limbs c_limbs v_first_1 v_last_1 (vp_updL (vp_updL v_limbs_1 (Int32.toNatClampNeg 33) (l1 / 1000000000)) (Int32.toNatClampNeg 34) (l1 - l1 / 1000000000 * 1000000000))) := hD
  refine lv_aload_n hx hb dX0_takeScaled_28 rfl (lv_at hl 0 rfl) ?_
  refine lv_bipush (v := 33) hx hb dX0_takeScaled_29 (by decide) ?_
  refine va_put (D := (dC, dI)) (ci := 0) (v := .int 33) (ty := .int) (C := RX0) (T := TX0) (N := 3) hx hb hws inlX0 tyX0 tyX0_ok nmX0 hown hK hP hD hS 0 rfl rfl 1 (by decide) (hws _ ww_28) (fun _ h9 => h9) rfl (by decide +kernel) rfl rfl (Nat.le_of_ble_eq_true rfl) dX0_takeScaled_31 (fun H locs hP hD hS => ?_)
  have hP : va_P (dC, dI) vwCl (wd_X0_takeScaled a_this a_limbs c_limbs 33 v_last_1 (vp_updL (vp_updL v_limbs_1 (Int32.toNatClampNeg 33) (l1 / 1000000000)) (Int32.toNatClampNeg 34) (l1 - l1 / 1000000000 * 1000000000))) H := hP
  have hD : va_D A (wd_X0_takeScaled a_this a_limbs c_limbs 33 v_last_1 (vp_updL (vp_updL v_limbs_1 (Int32.toNatClampNeg 33) (l1 / 1000000000)) (Int32.toNatClampNeg 34) (l1 - l1 / 1000000000 * 1000000000))) := hD
  refine lv_aload_n hx hb dX0_takeScaled_34 rfl (lv_at hl 0 rfl) ?_
  refine lv_bipush (v := 34) hx hb dX0_takeScaled_35 (by decide) ?_
  refine va_put (D := (dC, dI)) (ci := 0) (v := .int 34) (ty := .int) (C := RX0) (T := TX0) (N := 3) hx hb hws inlX0 tyX0 tyX0_ok nmX0 hown hK hP hD hS 0 rfl rfl 2 (by decide) (hws _ ww_29) (fun _ h9 => h9) rfl (by decide +kernel) rfl rfl (Nat.le_of_ble_eq_true rfl) dX0_takeScaled_37 (fun H locs hP hD hS => ?_)
  have hP : va_P (dC, dI) vwCl (wd_X0_takeScaled a_this a_limbs c_limbs 33 34 (vp_updL (vp_updL v_limbs_1 (Int32.toNatClampNeg 33) (l1 / 1000000000)) (Int32.toNatClampNeg 34) (l1 - l1 / 1000000000 * 1000000000))) H := hP
  have hD : va_D A (wd_X0_takeScaled a_this a_limbs c_limbs 33 34 (vp_updL (vp_updL v_limbs_1 (Int32.toNatClampNeg 33) (l1 / 1000000000)) (Int32.toNatClampNeg 34) (l1 - l1 / 1000000000 * 1000000000))) := hD
  refine lv_aload_n hx hb dX0_takeScaled_40 rfl (lv_at hl 0 rfl) ?_
  obtain ⟨⟨v_first_41, v_last_41⟩, hc, h⟩ := bd h
  dsimp only at h
  have hPc := hP.sub (ws' := (wd_X0_trim a_this a_limbs c_limbs 33 34 (vp_updL (vp_updL v_limbs_1 (Int32.toNatClampNeg 33) (l1 / 1000000000)) (Int32.toNatClampNeg 34) (l1 - l1 / 1000000000 * 1000000000)))) [0, 1] rfl
  have hDc := hD.sub (ws' := (wd_X0_trim a_this a_limbs c_limbs 33 34 (vp_updL (vp_updL v_limbs_1 (Int32.toNatClampNeg 33) (l1 / 1000000000)) (Int32.toNatClampNeg 34) (l1 - l1 / 1000000000 * 1000000000)))) [0, 1] (by decide) rfl
  have hKc := hK.sub (tys' := [(c_limbs, .long)]) [0] rfl
  have hFc := va_free (wc := (wd_X0_trim a_this a_limbs c_limbs 33 34 (vp_updL (vp_updL v_limbs_1 (Int32.toNatClampNeg 33) (l1 / 1000000000)) (Int32.toNatClampNeg 34) (l1 - l1 / 1000000000 * 1000000000)))) hD hS hA [0, 1] rfl
  refine va_callv (va_runV (As := []) (rest := []) ⟨hx, hb, hml, hown, hws⟩ (c_X0_trim l dC dI  a_this a_limbs c_limbs (Array.size H)  33 34 (vp_updL (vp_updL v_limbs_1 (Int32.toNatClampNeg 33) (l1 / 1000000000)) (Int32.toNatClampNeg 34) (l1 - l1 / 1000000000 * 1000000000)) v_first_41 v_last_41 hc) (cwV 0 hws (gV ww_163 ww_164 ww_165 ww_18 ww_166) rfl rfl rfl (by decide +kernel) ⟨Nat.le_of_ble_eq_true rfl, Nat.le_of_ble_eq_true rfl⟩) ⟨(fun a U g mk q => by obtain ⟨q0, q1, qP, qK, qD⟩ := q; exact ⟨q0, q1, qP, va_K.moved (u := U) (U := U.calling g mk a) (Vm.Alike.refl U.vm) qK, qD⟩), va_recv hKc hPc (ci := 0) (q0 := 0) rfl rfl, (fun U hU hW => ⟨rfl, by rw [hU], by rw [hU]; exact hPc, va_K.moved hW.alike hKc, hDc.weaken (fun _ _ _ _ => trivial)⟩)⟩ rfl rfl hl.1 rfl (lv_room (Nat.le_of_ble_eq_true rfl)) dX0_takeScaled_41 ⟨Nat.zero_le _, Nat.zero_le _⟩) hS (fun q _ h => hFc q h) hFc (fun u9 t H1 locs ht hvm hw hB hz1 hk1 hS => ?_)
  obtain ⟨hP1, hK1, hD1⟩ := hB
  rw [ht] at hP1
  obtain ⟨hP, hD⟩ := va_join (wr := []) (w1 := (wd_X0_trim a_this a_limbs c_limbs v_first_41 v_last_41 (vp_updL (vp_updL v_limbs_1 (Int32.toNatClampNeg 33) (l1 / 1000000000)) (Int32.toNatClampNeg 34) (l1 - l1 / 1000000000 * 1000000000)))) hP hD [0, 1] [] rfl rfl (by decide) (by decide) hk1 hFc hP1 hD1
  generalize H1 = H at hP hS ⊢
  have hP : va_P (dC, dI) vwCl (wd_X0_takeScaled a_this a_limbs c_limbs v_first_41 v_last_41 (vp_updL (vp_updL v_limbs_1 (Int32.toNatClampNeg 33) (l1 / 1000000000)) (Int32.toNatClampNeg 34) (l1 - l1 / 1000000000 * 1000000000))) H := hP.sub [0, 1] rfl
  have hD : va_D A (wd_X0_takeScaled a_this a_limbs c_limbs v_first_41 v_last_41 (vp_updL (vp_updL v_limbs_1 (Int32.toNatClampNeg 33) (l1 / 1000000000)) (Int32.toNatClampNeg 34) (l1 - l1 / 1000000000 * 1000000000))) := hD.sub [0, 1] (by decide) rfl
  clear hP1 hK1 hD1 hPc hDc hKc hFc hk1 hz1 ht hvm
  refine lv_aload_n hx hb dX0_takeScaled_44 rfl (lv_at hl 0 rfl) ?_
  refine lv_iload_n hx hb dX0_takeScaled_45 rfl (lv_at hl 2 rfl) ?_
  obtain ⟨⟨v_first_46, v_last_46, v_limbs_46⟩, hc, h⟩ := bd h
  dsimp only at h
  have hPc := hP.sub (ws' := (wd_X0_scale a_this a_limbs c_limbs v_first_41 v_last_41 (vp_updL (vp_updL v_limbs_1 (Int32.toNatClampNeg 33) (l1 / 1000000000)) (Int32.toNatClampNeg 34) (l1 - l1 / 1000000000 * 1000000000)))) [0, 1] rfl
  have hDc := hD.sub (ws' := (wd_X0_scale a_this a_limbs c_limbs v_first_41 v_last_41 (vp_updL (vp_updL v_limbs_1 (Int32.toNatClampNeg 33) (l1 / 1000000000)) (Int32.toNatClampNeg 34) (l1 - l1 / 1000000000 * 1000000000)))) [0, 1] (by decide) rfl
  have hKc := hK.sub (tys' := [(c_limbs, .long)]) [0] rfl
  have hFc := va_free (wc := (wd_X0_scale a_this a_limbs c_limbs v_first_41 v_last_41 (vp_updL (vp_updL v_limbs_1 (Int32.toNatClampNeg 33) (l1 / 1000000000)) (Int32.toNatClampNeg 34) (l1 - l1 / 1000000000 * 1000000000)))) hD hS hA [0, 1] rfl
  refine va_callv (va_runV (As := [.int l3]) (rest := []) ⟨hx, hb, hml, hown, hws⟩ (c_X0_scale l dC dI  a_this a_limbs c_limbs (Array.size H) l3 v_first_41 v_last_41 (vp_updL (vp_updL v_limbs_1 (Int32.toNatClampNeg 33) (l1 / 1000000000)) (Int32.toNatClampNeg 34) (l1 - l1 / 1000000000 * 1000000000)) v_first_46 v_last_46 v_limbs_46 hc) (cwV 1 hws (gV ww_308 ww_155 ww_156 ww_18 ww_157) rfl rfl rfl (by decide +kernel) ⟨Nat.le_of_ble_eq_true rfl, Nat.le_of_ble_eq_true rfl⟩) ⟨(fun a U g mk q => by obtain ⟨q0, q1, qP, qK, qD⟩ := q; exact ⟨q0, q1, qP, va_K.moved (u := U) (U := U.calling g mk a) (Vm.Alike.refl U.vm) qK, qD⟩), va_recv hKc hPc (ci := 0) (q0 := 0) rfl rfl, (fun U hU hW => ⟨rfl, by rw [hU], by rw [hU]; exact hPc, va_K.moved hW.alike hKc, hDc.weaken (fun _ _ _ _ => trivial)⟩)⟩ rfl rfl hl.1 rfl (lv_room (Nat.le_of_ble_eq_true rfl)) dX0_takeScaled_46 ⟨Nat.zero_le _, Nat.zero_le _⟩) hS (fun q _ h => hFc q h) hFc (fun u9 t H1 locs ht hvm hw hB hz1 hk1 hS => ?_)
  obtain ⟨hP1, hK1, hD1⟩ := hB
  rw [ht] at hP1
  obtain ⟨hP, hD⟩ := va_join (wr := []) (w1 := (wd_X0_scale a_this a_limbs c_limbs v_first_46 v_last_46 v_limbs_46)) hP hD [0, 1] [] rfl rfl (by decide) (by decide) hk1 hFc hP1 hD1
  generalize H1 = H at hP hS ⊢
  have hP : va_P (dC, dI) vwCl (wd_X0_takeScaled a_this a_limbs c_limbs v_first_46 v_last_46 v_limbs_46) H := hP.sub [0, 1] rfl
  have hD : va_D A (wd_X0_takeScaled a_this a_limbs c_limbs v_first_46 v_last_46 v_limbs_46) := hD.sub [0, 1] (by decide) rfl
  clear hP1 hK1 hD1 hPc hDc hKc hFc hk1 hz1 ht hvm
  obtain ⟨h09, h19, h29⟩ := rt3 h
  subst o_first
  subst o_last
  subst o_limbs
  exact W.vret hx hb hr (fun t ht hW => ⟨⟨(), rfl, trivial, by rw [ht]; exact hP, va_K.moved hW.alike hK, hD⟩, hS.F ht⟩) hS.2.2 dX0_takeScaled_49
set_option maxHeartbeats 4000000 in
set_option maxRecDepth 100000 in
theorem c_J13_compare_74951 (l : Launch) (dC : Nat → ClassId) (dI : Nat → Nat → Nat)   (sz : Nat) (l0 : Int64) (l2 : Int64)  (o_r : Int32) (h : f_J13_compare_74951 l0 l2 = some o_r) : Met l yJ13_compare_74951 w_J13_compare_74951 ({ frames := 0, cells := 0, slots := 0, locals := 0 } : Room) (va_Pc [.long l0, .long l2] (fun U => U.heap.size = sz ∧ va_P (dC, dI) vwCl ([] : va_W) U.heap ∧ va_K (dC, dI) vwCl [] U ∧ va_D (fun _ => True) ([] : va_W))) (va_Qi (fun r9 (_ : Unit) => r9 = o_r) (fun (_ : Unit) t => va_P (dC, dI) vwCl ([] : va_W) t.heap ∧ va_K (dC, dI) vwCl [] t ∧ va_D (va_A ([] : va_W) sz) ([] : va_W)) (va_A ([] : va_W) sz)) 0 0 (va_A ([] : va_W) sz) := by
  refine va_MetF (cc := cJ13_compare_74951) (maxL := 4) (ret := (some .int)) (by decide +kernel) rfl ?_
  intro p e s m args below meth c s₁ B hml hv
  obtain ⟨rfl, hsz, hP, hK, hD0⟩ := hv
  have hx := B.exec
  have hb := B.bytes
  have hr := B.returns
  have hws : ∀ w ∈ wsL_law, w.before _ s = true := fun w hw => atoms_spec (ws := w_J13_compare_74951) B.pre w (List.mem_cons_of_mem _ hw)
  have hown : s.vm.findClass RJ13 = some m.cls := findClass_of_methodNamed B.named
  have hlocks := B.notSynchronized
  subst hsz
  have hD := hD0.self (sz := s.heap.size)
  generalize hAe : va_A ([] : va_W) s.heap.size = A at hD ⊢
  have hA : ∀ q : Nat, s.heap.size ≤ q → A q := fun q h => by rw [← hAe]; exact Or.inr h
  have hS : va_S A s.heap s.heap [] := va_S.rf
  have hl := lv_entry ([.long l0, .long l2]) (n := 4) (Nat.le_of_ble_eq_true rfl)
  rw [lg_entry_eq]
  generalize (lg_sl ([.long l0, .long l2]) ++ List.replicate (4 - (lg_sl ([.long l0, .long l2])).length) Slot.unset).toArray = ls at hl ⊢
  have hl : lv_has ls 4 [(0, .long l0), (2, .long l2)] := hl
  unfold f_J13_compare_74951 at h
  refine lv_lload_n hx hb dJ13_compare_74951_0 rfl (lv_at hl 0 rfl) ?_
  refine lv_lload_n hx hb dJ13_compare_74951_1 rfl (lv_at hl 1 rfl) ?_
  refine W.lcmp hx hb dJ13_compare_74951_2 ?_
  refine lv_if_ge (tgt := 10) hx hb dJ13_compare_74951_3 (by decide) (fun c9 => ?_) (fun c9 => ?_)
  · have h := (if_pos c9).symm.trans h
    refine lv_lload_n hx hb dJ13_compare_74951_10 rfl (lv_at hl 0 rfl) ?_
    refine lv_lload_n hx hb dJ13_compare_74951_11 rfl (lv_at hl 1 rfl) ?_
    refine W.lcmp hx hb dJ13_compare_74951_12 ?_
    refine lv_if_ne (tgt := 20) hx hb dJ13_compare_74951_13 (by decide) (fun c9 => ?_) (fun c9 => ?_)
    · have h := (if_neg c9).symm.trans h
      refine lv_iconst (v := 1) hx hb dJ13_compare_74951_20 (by decide) ?_
      obtain h09 := rt1 h
      subst o_r
      exact W.iret hx hb hr (fun t ht hW => ⟨⟨_, (), rfl, rfl, by rw [ht]; exact hP, va_K.moved hW.alike hK, hD⟩, hS.F ht⟩) hS.2.2 dJ13_compare_74951_21
    · have h := (if_pos c9).symm.trans h
      refine lv_iconst (v := 0) hx hb dJ13_compare_74951_16 (by decide) ?_
      refine lv_goto (tgt := 21) hx hb dJ13_compare_74951_17 (by decide) ?_
      obtain h09 := rt1 h
      subst o_r
      exact W.iret hx hb hr (fun t ht hW => ⟨⟨_, (), rfl, rfl, by rw [ht]; exact hP, va_K.moved hW.alike hK, hD⟩, hS.F ht⟩) hS.2.2 dJ13_compare_74951_21
  · have h := (if_neg c9).symm.trans h
    refine lv_iconst (v := (-1)) hx hb dJ13_compare_74951_6 (by decide) ?_
    refine lv_goto (tgt := 21) hx hb dJ13_compare_74951_7 (by decide) ?_
    obtain h09 := rt1 h
    subst o_r
    exact W.iret hx hb hr (fun t ht hW => ⟨⟨_, (), rfl, rfl, by rw [ht]; exact hP, va_K.moved hW.alike hK, hD⟩, hS.F ht⟩) hS.2.2 dJ13_compare_74951_21
