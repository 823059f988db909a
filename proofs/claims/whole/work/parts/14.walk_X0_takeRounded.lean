set_option maxHeartbeats 4000000 in
set_option maxRecDepth 100000 in
theorem w_X0_takeRounded_27 (l : Launch) {p : Program} {e : Env} {s : State} {m : MethodId} {args : Array Value} {below : List Frame} {meth : Method} {c : Code} {A : Nat → Prop} {dC : Nat → ClassId} {dI : Nat → Nat → Nat} (a_this a_limbs a_p1 a_p1_limbs : Nat) (c_limbs c_p1_limbs : ClassId) (hx : p.tables.exec = Jvm.exec) (hb : c.code = cX0_takeRounded) (hr : meth.sig.returnType = none) (hml : c.maxLocals = 6) (hown : s.vm.findClass RX0 = some m.cls) (hws : ∀ w ∈ wsL_law, w.before args s = true) (hlocks : meth.locks = false) (hA : ∀ q : Nat, s.heap.size ≤ q → A q) {a_TENS : Nat} (hZ_TENS : va_Z "DoubleText$Decimal" "TENS" "[J" (.ref a_TENS) A s s.heap) (hT_TENS : va_T .long a_TENS 9 TENS_v A s s.heap) : ∀ (n : Nat) (l2 : Int32) (l3 : Int32) (l4 : Int32) (v_first : Int32) (v_last : Int32) (v_limbs : Nat → Int64) (v_p1_first : Int32) (v_p1_last : Int32) (v_p1_limbs : Nat → Int64) (o_first : Int32) (o_last : Int32) (o_limbs : Nat → Int64), f_X0_takeRounded_L27 n l2 l3 l4 v_first v_last v_limbs v_p1_first v_p1_last v_p1_limbs = some (o_first, o_last, o_limbs) → ∀ (H : Heap) (locs : List Loc), va_K (dC, dI) vwCl [(c_limbs, .long), (c_p1_limbs, .long)] s → va_P (dC, dI) vwCl (wd_X0_takeRounded a_this a_limbs a_p1 a_p1_limbs c_limbs c_p1_limbs v_first v_last v_limbs v_p1_first v_p1_last v_p1_limbs) H → va_D A (wd_X0_takeRounded a_this a_limbs a_p1 a_p1_limbs c_limbs c_p1_limbs v_first v_last v_limbs v_p1_first v_p1_last v_p1_limbs) → va_S A s.heap H locs → ∀ (ls : Array Slot), lv_has ls 6 [(0, .ref a_this), (1, .ref a_p1), (2, .int l2), (3, .int l3), (4, .int l4)] → W p l e (headSpec (w_X0_takeRounded) ({ frames := 3, cells := 0, slots := 0, locals := 74 } : Room)).room s m args below meth c H locs 0 0 (MQ below (va_Qv (fun (_ : Unit) => True) (fun (_ : Unit) t => va_P (dC, dI) vwCl (wd_X0_takeRounded a_this a_limbs a_p1 a_p1_limbs c_limbs c_p1_limbs o_first o_last o_limbs v_p1_first v_p1_last v_p1_limbs) t.heap ∧ va_K (dC, dI) vwCl [(c_limbs, .long), (c_p1_limbs, .long)] t ∧ va_D A (wd_X0_takeRounded a_this a_limbs a_p1 a_p1_limbs c_limbs c_p1_limbs o_first o_last o_limbs v_p1_first v_p1_last v_p1_limbs)) A) args s 0 0 A) (F0 m 27 ls []) := by
  intro n
  induction n with
  | zero =>
    intro l2 l3 l4 v_first v_last v_limbs v_p1_first v_p1_last v_p1_limbs o_first o_last o_limbs h H locs hK hP hD hS ls hl
    exact absurd h (by simp [f_X0_takeRounded_L27])
  | succ n ih =>
    intro l2 l3 l4 v_first v_last v_limbs v_p1_first v_p1_last v_p1_limbs o_first o_last o_limbs h H locs hK hP hD hS ls hl
    unfold f_X0_takeRounded_L27 at h
    refine lv_iload hx hb dX0_takeRounded_27 (lv_at hl 4 rfl) ?_
    refine lv_iload_n hx hb dX0_takeRounded_29 rfl (lv_at hl 3 rfl) ?_
    refine lv_icmp_gt (tgt := 53) hx hb dX0_takeRounded_30 (by decide) (fun c9 => ?_) (fun c9 => ?_)
    · have h := (if_pos c9).symm.trans h
      refine lv_iload_n hx hb dX0_takeRounded_53 rfl (lv_at hl 2 rfl) ?_
      obtain ⟨r54, hc, h⟩ := bd h
      have hPc := hP.sub (ws' := ([] : va_W)) [] rfl
      have hDc := hD.sub (ws' := ([] : va_W)) [] (by decide) rfl
      have hKc := hK.sub (tys' := []) [] rfl
      have hFc := va_free (wc := ([] : va_W)) hD hS hA [] rfl
      refine va_calll (va_runS (As := [.int l2]) (rest := []) ⟨hx, hb, hml, hown, hws⟩ (c_X0_unitOf l dC dI a_TENS  (Array.size H) l2  r54 hc) (va_cwS 1 hws (gS ww_139 ww_140 ww_18 ww_141) rfl rfl rfl (by decide +kernel) ⟨Nat.le_of_ble_eq_true rfl, Nat.le_of_ble_eq_true rfl⟩) ⟨(fun a U g mk q => by obtain ⟨q0, q1, qP, qK, qD, qhZ_TENS, qhT_TENS⟩ := q; exact ⟨q0, q1, qP, va_K.moved (u := U) (U := U.calling g mk a) (Vm.Alike.refl U.vm) qK, qD, qhZ_TENS.moved (u := U) (U := U.calling g mk a) (Vm.Alike.refl U.vm), qhT_TENS.moved (u := U) (U := U.calling g mk a) (Vm.Alike.refl U.vm)⟩), (fun U hU hW => ⟨rfl, by rw [hU], by rw [hU]; exact hPc, va_K.moved hW.alike hKc, hDc.weaken (fun _ _ _ _ => trivial), by rw [hU]; exact ((hZ_TENS.kept (fun q h1 h2 => hS.2.1 q h1 h2)).narrow hFc).moved hW.alike, by rw [hU]; exact ((hT_TENS.kept (fun q h1 h2 => hS.2.1 q h1 h2)).narrow hFc).moved hW.alike⟩)⟩ rfl rfl hl.1 rfl (lv_room (Nat.le_of_ble_eq_true rfl)) dX0_takeRounded_54 ⟨Nat.zero_le _, Nat.zero_le _⟩) hS (fun q _ h => hFc q h) hFc (fun r9 u9 t H1 locs ht hvm hw hB hz1 hk1 hS => ?_)
      obtain ⟨hP1, hK1, hD1⟩ := hB
      rw [ht] at hP1
      subst r9
      obtain ⟨hP, hD⟩ := va_join (wr := [(a_this, .inr (0, [.ref a_limbs, .int v_first, .int v_last])), (a_limbs, .inl (c_limbs, 160, .inr (.inl v_limbs))), (a_p1, .inr (0, [.ref a_p1_limbs, .int v_p1_first, .int v_p1_last])), (a_p1_limbs, .inl (c_p1_limbs, 160, .inr (.inl v_p1_limbs)))]) (w1 := ([] : va_W)) hP hD [] [0, 1, 2, 3] rfl rfl (by decide) (by decide) hk1 hFc hP1 hD1
      generalize H1 = H at hP hS ⊢
      have hP : va_P (dC, dI) vwCl (wd_X0_takeRounded a_this a_limbs a_p1 a_p1_limbs c_limbs c_p1_limbs v_first v_last v_limbs v_p1_first v_p1_last v_p1_limbs) H := hP.sub [0, 1, 2, 3] rfl
      have hD : va_D A (wd_X0_takeRounded a_this a_limbs a_p1 a_p1_limbs c_limbs c_p1_limbs v_first v_last v_limbs v_p1_first v_p1_last v_p1_limbs) := hD.sub [0, 1, 2, 3] (by decide) rfl
      clear hP1 hK1 hD1 hPc hDc hKc hFc hk1 hz1 ht hvm
      refine lv_lstore (lv' := [(4, .long r54), (0, .ref a_this), (1, .ref a_p1), (2, .int l2), (3, .int l3)]) hx hb dX0_takeRounded_57 hl (by decide) rfl (fun ls hl => ?_)
      refine lv_aload_n hx hb dX0_takeRounded_59 rfl (lv_at hl 1 rfl) ?_
      refine va_get (D := (dC, dI)) (ci := 0) (v := .ref a_limbs) (C := RX0) (T := TX0) (N := 3) hx hb hws inlX0 hown hK hP 0 rfl rfl 0 (by decide) (hws _ ww_27) (fun _ h9 => h9) rfl dX0_takeRounded_60 ?_
      refine lv_iload_n hx hb dX0_takeRounded_63 rfl (lv_at hl 4 rfl) ?_
      refine lv_dup2_11 hx hb dX0_takeRounded_64 rfl rfl ?_
      obtain ⟨hi, h⟩ := gd h
      refine va_lald hx hb hK hP 1 0 rfl rfl hi dX0_takeRounded_65 ?_
      refine lv_aload_n hx hb dX0_takeRounded_66 rfl (lv_at hl 1 rfl) ?_
      refine va_get (D := (dC, dI)) (ci := 0) (v := .ref a_limbs) (C := RX0) (T := TX0) (N := 3) hx hb hws inlX0 hown hK hP 0 rfl rfl 0 (by decide) (hws _ ww_27) (fun _ h9 => h9) rfl dX0_takeRounded_67 ?_
      refine lv_iload_n hx hb dX0_takeRounded_70 rfl (lv_at hl 4 rfl) ?_
      obtain ⟨hi, h⟩ := gd h
      refine va_lald hx hb hK hP 1 0 rfl rfl hi dX0_takeRounded_71 ?_
      refine lv_lload hx hb dX0_takeRounded_72 (lv_at hl 0 rfl) ?_
      obtain ⟨hz, h⟩ := gd h
      refine lv_lrem hx hb dX0_takeRounded_74 hz ?_
      refine lv_lsub hx hb dX0_takeRounded_75 ?_
      obtain ⟨hi, h⟩ := gd h
      refine va_last hx hb hK hP hD hS 1 0 rfl rfl hi dX0_takeRounded_76 (fun H locs hP hD hS => ?_)
      have hP : va_P (dC, dI) vwCl (wd_X0_takeRounded a_this a_limbs a_p1 a_p1_limbs c_limbs c_p1_limbs v_first v_last (vp_updL v_limbs (Int32.toNatClampNeg l3) ((v_limbs (Int32.toNatClampNeg l3)) - ((v_limbs (Int32.toNatClampNeg l3)) - (v_limbs (Int32.toNatClampNeg l3)) / r54 * r54))) v_p1_first v_p1_last v_p1_limbs) H := hP
      have hD : va_D A (wd_X0_takeRounded a_this a_limbs a_p1 a_p1_limbs c_limbs c_p1_limbs v_first v_last (vp_updL v_limbs (Int32.toNatClampNeg l3) ((v_limbs (Int32.toNatClampNeg l3)) - ((v_limbs (Int32.toNatClampNeg l3)) - (v_limbs (Int32.toNatClampNeg l3)) / r54 * r54))) v_p1_first v_p1_last v_p1_limbs) := hD
      refine lv_aload_n hx hb dX0_takeRounded_77 rfl (lv_at hl 1 rfl) ?_
      refine lv_aload_n hx hb dX0_takeRounded_78 rfl (lv_at hl 2 rfl) ?_
      refine va_get (D := (dC, dI)) (ci := 0) (v := .int v_p1_first) (C := RX0) (T := TX0) (N := 3) hx hb hws inlX0 hown hK hP 2 rfl rfl 1 (by decide) (hws _ ww_28) (fun _ h9 => h9) rfl dX0_takeRounded_79 ?_
      refine lv_iload_n hx hb dX0_takeRounded_82 rfl (lv_at hl 4 rfl) ?_
      refine va_mmin hx hb (hml.trans hl.1.symm) hown (hws _ ww_125) (hws _ ww_126) (hws _ ww_127) (hws _ ww_128) (Nat.le_of_ble_eq_true rfl) (Nat.le_of_ble_eq_true rfl) (Nat.le_of_ble_eq_true rfl) (Nat.le_of_ble_eq_true rfl) dX0_takeRounded_83 ?_
      refine va_put (D := (dC, dI)) (ci := 0) (v := .int (if l3 < v_p1_first then l3 else v_p1_first)) (ty := .int) (C := RX0) (T := TX0) (N := 3) hx hb hws inlX0 tyX0 tyX0_ok nmX0 hown hK hP hD hS 0 rfl rfl 1 (by decide) (hws _ ww_28) (fun _ h9 => h9) rfl (by decide +kernel) rfl rfl (Nat.le_of_ble_eq_true rfl) dX0_takeRounded_86 (fun H locs hP hD hS => ?_)
      have hP : va_P (dC, dI) vwCl (wd_X0_takeRounded a_this a_limbs a_p1 a_p1_limbs c_limbs c_p1_limbs (if l3 < v_p1_first then l3 else v_p1_first) v_last (vp_updL v_limbs (Int32.toNatClampNeg l3) ((v_limbs (Int32.toNatClampNeg l3)) - ((v_limbs (Int32.toNatClampNeg l3)) - (v_limbs (Int32.toNatClampNeg l3)) / r54 * r54))) v_p1_first v_p1_last v_p1_limbs) H := hP
      have hD : va_D A (wd_X0_takeRounded a_this a_limbs a_p1 a_p1_limbs c_limbs c_p1_limbs (if l3 < v_p1_first then l3 else v_p1_first) v_last (vp_updL v_limbs (Int32.toNatClampNeg l3) ((v_limbs (Int32.toNatClampNeg l3)) - ((v_limbs (Int32.toNatClampNeg l3)) - (v_limbs (Int32.toNatClampNeg l3)) / r54 * r54))) v_p1_first v_p1_last v_p1_limbs) := hD
      refine lv_aload_n hx hb dX0_takeRounded_89 rfl (lv_at hl 1 rfl) ?_
      refine lv_iload_n hx hb dX0_takeRounded_90 rfl (lv_at hl 4 rfl) ?_
      refine va_put (D := (dC, dI)) (ci := 0) (v := .int l3) (ty := .int) (C := RX0) (T := TX0) (N := 3) hx hb hws inlX0 tyX0 tyX0_ok nmX0 hown hK hP hD hS 0 rfl rfl 2 (by decide) (hws _ ww_29) (fun _ h9 => h9) rfl (by decide +kernel) rfl rfl (Nat.le_of_ble_eq_true rfl) dX0_takeRounded_91 (fun H locs hP hD hS => ?_)
      have hP : va_P (dC, dI) vwCl (wd_X0_takeRounded a_this a_limbs a_p1 a_p1_limbs c_limbs c_p1_limbs (if l3 < v_p1_first then l3 else v_p1_first) l3 (vp_updL v_limbs (Int32.toNatClampNeg l3) ((v_limbs (Int32.toNatClampNeg l3)) - ((v_limbs (Int32.toNatClampNeg l3)) - (v_limbs (Int32.toNatClampNeg l3)) / r54 * r54))) v_p1_first v_p1_last v_p1_limbs) H := hP
      have hD : va_D A (wd_X0_takeRounded a_this a_limbs a_p1 a_p1_limbs c_limbs c_p1_limbs (if l3 < v_p1_first then l3 else v_p1_first) l3 (vp_updL v_limbs (Int32.toNatClampNeg l3) ((v_limbs (Int32.toNatClampNeg l3)) - ((v_limbs (Int32.toNatClampNeg l3)) - (v_limbs (Int32.toNatClampNeg l3)) / r54 * r54))) v_p1_first v_p1_last v_p1_limbs) := hD
      refine lv_aload_n hx hb dX0_takeRounded_94 rfl (lv_at hl 2 rfl) ?_
      refine lv_iload_n hx hb dX0_takeRounded_95 rfl (lv_at hl 4 rfl) ?_
      refine lv_lload hx hb dX0_takeRounded_96 (lv_at hl 0 rfl) ?_
      obtain ⟨r98, hc, h⟩ := bd h
      have hPc := hP.sub (ws' := (wd_X0_roundsUp a_p1 a_p1_limbs c_p1_limbs v_p1_first v_p1_last v_p1_limbs)) [2, 3] rfl
      have hDc := hD.sub (ws' := (wd_X0_roundsUp a_p1 a_p1_limbs c_p1_limbs v_p1_first v_p1_last v_p1_limbs)) [2, 3] (by decide) rfl
      have hKc := hK.sub (tys' := [(c_p1_limbs, .long)]) [1] rfl
      have hFc := va_free (wc := (wd_X0_roundsUp a_p1 a_p1_limbs c_p1_limbs v_p1_first v_p1_last v_p1_limbs)) hD hS hA [2, 3] rfl
      refine va_calli (va_runV (As := [.int l3, .long r54]) (rest := []) ⟨hx, hb, hml, hown, hws⟩ (c_X0_roundsUp l dC dI  a_p1 a_p1_limbs c_p1_limbs (Array.size H) l3 r54 v_p1_first v_p1_last v_p1_limbs r98 hc) (cwV 2 hws (gV ww_194 ww_195 ww_196 ww_18 ww_197) rfl rfl rfl (by decide +kernel) ⟨Nat.le_of_ble_eq_true rfl, Nat.le_of_ble_eq_true rfl⟩) ⟨(fun a U g mk q => by obtain ⟨q0, q1, qP, qK, qD⟩ := q; exact ⟨q0, q1, qP, va_K.moved (u := U) (U := U.calling g mk a) (Vm.Alike.refl U.vm) qK, qD⟩), va_recv hKc hPc (ci := 0) (q0 := 0) rfl rfl, (fun U hU hW => ⟨rfl, by rw [hU], by rw [hU]; exact hPc, va_K.moved hW.alike hKc, hDc.weaken (fun _ _ _ _ => trivial)⟩)⟩ rfl rfl hl.1 rfl (lv_room (Nat.le_of_ble_eq_true rfl)) dX0_takeRounded_98 ⟨Nat.zero_le _, Nat.zero_le _⟩) hS (fun q _ h => hFc q h) hFc (fun r9 u9 t H1 locs ht hvm hw hB hz1 hk1 hS => ?_)
      obtain ⟨hP1, hK1, hD1⟩ := hB
      rw [ht] at hP1
      subst r9
      obtain ⟨hP, hD⟩ := va_join (wr := [(a_this, .inr (0, [.ref a_limbs, .int (if l3 < v_p1_first then l3 else v_p1_first), .int l3])), (a_limbs, .inl (c_limbs, 160, .inr (.inl (vp_updL v_limbs (Int32.toNatClampNeg l3) ((v_limbs (Int32.toNatClampNeg l3)) - ((v_limbs (Int32.toNatClampNeg l3)) - (v_limbs (Int32.toNatClampNeg l3)) / r54 * r54))))))]) (w1 := (wd_X0_roundsUp a_p1 a_p1_limbs c_p1_limbs v_p1_first v_p1_last v_p1_limbs)) hP hD [2, 3] [0, 1] rfl rfl (by decide) (by decide) hk1 hFc hP1 hD1
      generalize H1 = H at hP hS ⊢
      have hP : va_P (dC, dI) vwCl (wd_X0_takeRounded a_this a_limbs a_p1 a_p1_limbs c_limbs c_p1_limbs (if l3 < v_p1_first then l3 else v_p1_first) l3 (vp_updL v_limbs (Int32.toNatClampNeg l3) ((v_limbs (Int32.toNatClampNeg l3)) - ((v_limbs (Int32.toNatClampNeg l3)) - (v_limbs (Int32.toNatClampNeg l3)) / r54 * r54))) v_p1_first v_p1_last v_p1_limbs) H := hP.sub [0, 1, 2, 3] rfl
      have hD : va_D A (wd_X0_takeRounded a_this a_limbs a_p1 a_p1_limbs c_limbs c_p1_limbs (if l3 < v_p1_first then l3 else v_p1_first) l3 (vp_updL v_limbs (Int32.toNatClampNeg l3) ((v_limbs (Int32.toNatClampNeg l3)) - ((v_limbs (Int32.toNatClampNeg l3)) - (v_limbs (Int32.toNatClampNeg l3)) / r54 * r54))) v_p1_first v_p1_last v_p1_limbs) := hD.sub [0, 1, 2, 3] (by decide) rfl
      clear hP1 hK1 hD1 hPc hDc hKc hFc hk1 hz1 ht hvm
      refine lv_if_eq (tgt := 111) hx hb dX0_takeRounded_101 (by decide) (fun c9 => ?_) (fun c9 => ?_)
      · have h := (if_pos c9).symm.trans h
        refine lv_aload_n hx hb dX0_takeRounded_111 rfl (lv_at hl 1 rfl) ?_
        obtain ⟨⟨v_first_112, v_last_112⟩, hc, h⟩ := bd h
        dsimp only at h
        have hPc := hP.sub (ws' := (wd_X0_trim a_this a_limbs c_limbs (if l3 < v_p1_first then l3 else v_p1_first) l3 (vp_updL v_limbs (Int32.toNatClampNeg l3) ((v_limbs (Int32.toNatClampNeg l3)) - ((v_limbs (Int32.toNatClampNeg l3)) - (v_limbs (Int32.toNatClampNeg l3)) / r54 * r54))))) [0, 1] rfl
        have hDc := hD.sub (ws' := (wd_X0_trim a_this a_limbs c_limbs (if l3 < v_p1_first then l3 else v_p1_first) l3 (vp_updL v_limbs (Int32.toNatClampNeg l3) ((v_limbs (Int32.toNatClampNeg l3)) - ((v_limbs (Int32.toNatClampNeg l3)) - (v_limbs (Int32.toNatClampNeg l3)) / r54 * r54))))) [0, 1] (by decide) rfl
        have hKc := hK.sub (tys' := [(c_limbs, .long)]) [0] rfl
        have hFc := va_free (wc := (wd_X0_trim a_this a_limbs c_limbs (if l3 < v_p1_first then l3 else v_p1_first) l3 (vp_updL v_limbs (Int32.toNatClampNeg l3) ((v_limbs (Int32.toNatClampNeg l3)) - ((v_limbs (Int32.toNatClampNeg l3)) - (v_limbs (Int32.toNatClampNeg l3)) / r54 * r54))))) hD hS hA [0, 1] rfl
        refine va_callv (va_runV (As := []) (rest := []) ⟨hx, hb, hml, hown, hws⟩ (c_X0_trim l dC dI  a_this a_limbs c_limbs (Array.size H)  (if l3 < v_p1_first then l3 else v_p1_first) l3 (vp_updL v_limbs (Int32.toNatClampNeg l3) ((v_limbs (Int32.toNatClampNeg l3)) - ((v_limbs (Int32.toNatClampNeg l3)) - (v_limbs (Int32.toNatClampNeg l3)) / r54 * r54))) v_first_112 v_last_112 hc) (cwV 0 hws (gV ww_163 ww_164 ww_165 ww_18 ww_166) rfl rfl rfl (by decide +kernel) ⟨Nat.le_of_ble_eq_true rfl, Nat.le_of_ble_eq_true rfl⟩) ⟨(fun a U g mk q => by obtain ⟨q0, q1, qP, qK, qD⟩ := q; exact ⟨q0, q1, qP, va_K.moved (u := U) (U := U.calling g mk a) (Vm.Alike.refl U.vm) qK, qD⟩), va_recv hKc hPc (ci := 0) (q0 := 0) rfl rfl, (fun U hU hW => ⟨rfl, by rw [hU], by rw [hU]; exact hPc, va_K.moved hW.alike hKc, hDc.weaken (fun _ _ _ _ => trivial)⟩)⟩ rfl rfl hl.1 rfl (lv_room (Nat.le_of_ble_eq_true rfl)) dX0_takeRounded_112 ⟨Nat.zero_le _, Nat.zero_le _⟩) hS (fun q _ h => hFc q h) hFc (fun u9 t H1 locs ht hvm hw hB hz1 hk1 hS => ?_)
        obtain ⟨hP1, hK1, hD1⟩ := hB
        rw [ht] at hP1
        obtain ⟨hP, hD⟩ := va_join (wr := [(a_p1, .inr (0, [.ref a_p1_limbs, .int v_p1_first, .int v_p1_last])), (a_p1_limbs, .inl (c_p1_limbs, 160, .inr (.inl v_p1_limbs)))]) (w1 := (wd_X0_trim a_this a_limbs c_limbs v_first_112 v_last_112 (vp_updL v_limbs (Int32.toNatClampNeg l3) ((v_limbs (Int32.toNatClampNeg l3)) - ((v_limbs (Int32.toNatClampNeg l3)) - (v_limbs (Int32.toNatClampNeg l3)) / r54 * r54))))) hP hD [0, 1] [2, 3] rfl rfl (by decide) (by decide) hk1 hFc hP1 hD1
        generalize H1 = H at hP hS ⊢
        have hP : va_P (dC, dI) vwCl (wd_X0_takeRounded a_this a_limbs a_p1 a_p1_limbs c_limbs c_p1_limbs v_first_112 v_last_112 (vp_updL v_limbs (Int32.toNatClampNeg l3) ((v_limbs (Int32.toNatClampNeg l3)) - ((v_limbs (Int32.toNatClampNeg l3)) - (v_limbs (Int32.toNatClampNeg l3)) / r54 * r54))) v_p1_first v_p1_last v_p1_limbs) H := hP.sub [2, 3, 0, 1] rfl
        have hD : va_D A (wd_X0_takeRounded a_this a_limbs a_p1 a_p1_limbs c_limbs c_p1_limbs v_first_112 v_last_112 (vp_updL v_limbs (Int32.toNatClampNeg l3) ((v_limbs (Int32.toNatClampNeg l3)) - ((v_limbs (Int32.toNatClampNeg l3)) - (v_limbs (Int32.toNatClampNeg l3)) / r54 * r54))) v_p1_first v_p1_last v_p1_limbs) := hD.sub [2, 3, 0, 1] (by decide) rfl
        clear hP1 hK1 hD1 hPc hDc hKc hFc hk1 hz1 ht hvm
        obtain ⟨h09, h19, h29⟩ := rt3 h
        subst o_first
        subst o_last
        subst o_limbs
        exact W.vret hx hb hr (fun t ht hW => ⟨⟨(), rfl, trivial, by rw [ht]; exact hP, va_K.moved hW.alike hK, hD⟩, hS.F ht⟩) hS.2.2 dX0_takeRounded_115
      · have h := (if_neg c9).symm.trans h
        refine lv_aload_n hx hb dX0_takeRounded_104 rfl (lv_at hl 1 rfl) ?_
        refine lv_iload_n hx hb dX0_takeRounded_105 rfl (lv_at hl 4 rfl) ?_
        refine lv_lload hx hb dX0_takeRounded_106 (lv_at hl 0 rfl) ?_
        obtain ⟨⟨v_first_108, v_limbs_108⟩, hc, h⟩ := bd h
        dsimp only at h
        have hPc := hP.sub (ws' := (wd_X0_countUp a_this a_limbs c_limbs (if l3 < v_p1_first then l3 else v_p1_first) l3 (vp_updL v_limbs (Int32.toNatClampNeg l3) ((v_limbs (Int32.toNatClampNeg l3)) - ((v_limbs (Int32.toNatClampNeg l3)) - (v_limbs (Int32.toNatClampNeg l3)) / r54 * r54))))) [0, 1] rfl
        have hDc := hD.sub (ws' := (wd_X0_countUp a_this a_limbs c_limbs (if l3 < v_p1_first then l3 else v_p1_first) l3 (vp_updL v_limbs (Int32.toNatClampNeg l3) ((v_limbs (Int32.toNatClampNeg l3)) - ((v_limbs (Int32.toNatClampNeg l3)) - (v_limbs (Int32.toNatClampNeg l3)) / r54 * r54))))) [0, 1] (by decide) rfl
        have hKc := hK.sub (tys' := [(c_limbs, .long)]) [0] rfl
        have hFc := va_free (wc := (wd_X0_countUp a_this a_limbs c_limbs (if l3 < v_p1_first then l3 else v_p1_first) l3 (vp_updL v_limbs (Int32.toNatClampNeg l3) ((v_limbs (Int32.toNatClampNeg l3)) - ((v_limbs (Int32.toNatClampNeg l3)) - (v_limbs (Int32.toNatClampNeg l3)) / r54 * r54))))) hD hS hA [0, 1] rfl
        refine va_callv (va_runV (As := [.int l3, .long r54]) (rest := []) ⟨hx, hb, hml, hown, hws⟩ (c_X0_countUp l dC dI  a_this a_limbs c_limbs (Array.size H) l3 r54 (if l3 < v_p1_first then l3 else v_p1_first) l3 (vp_updL v_limbs (Int32.toNatClampNeg l3) ((v_limbs (Int32.toNatClampNeg l3)) - ((v_limbs (Int32.toNatClampNeg l3)) - (v_limbs (Int32.toNatClampNeg l3)) / r54 * r54))) v_first_108 v_limbs_108 hc) (cwV 2 hws (gV ww_210 ww_211 ww_212 ww_18 ww_213) rfl rfl rfl (by decide +kernel) ⟨Nat.le_of_ble_eq_true rfl, Nat.le_of_ble_eq_true rfl⟩) ⟨(fun a U g mk q => by obtain ⟨q0, q1, qP, qK, qD⟩ := q; exact ⟨q0, q1, qP, va_K.moved (u := U) (U := U.calling g mk a) (Vm.Alike.refl U.vm) qK, qD⟩), va_recv hKc hPc (ci := 0) (q0 := 0) rfl rfl, (fun U hU hW => ⟨rfl, by rw [hU], by rw [hU]; exact hPc, va_K.moved hW.alike hKc, hDc.weaken (fun _ _ _ _ => trivial)⟩)⟩ rfl rfl hl.1 rfl (lv_room (Nat.le_of_ble_eq_true rfl)) dX0_takeRounded_108 ⟨Nat.zero_le _, Nat.zero_le _⟩) hS (fun q _ h => hFc q h) hFc (fun u9 t H1 locs ht hvm hw hB hz1 hk1 hS => ?_)
        obtain ⟨hP1, hK1, hD1⟩ := hB
        rw [ht] at hP1
        obtain ⟨hP, hD⟩ := va_join (wr := [(a_p1, .inr (0, [.ref a_p1_limbs, .int v_p1_first, .int v_p1_last])), (a_p1_limbs, .inl (c_p1_limbs, 160, .inr (.inl v_p1_limbs)))]) (w1 := (wd_X0_countUp a_this a_limbs c_limbs v_first_108 l3 v_limbs_108)) hP hD [0, 1] [2, 3] rfl rfl (by decide) (by decide) hk1 hFc hP1 hD1
        generalize H1 = H at hP hS ⊢
        have hP : va_P (dC, dI) vwCl (wd_X0_takeRounded a_this a_limbs a_p1 a_p1_limbs c_limbs c_p1_limbs v_first_108 l3 v_limbs_108 v_p1_first v_p1_last v_p1_limbs) H := hP.sub [2, 3, 0, 1] rfl
        have hD : va_D A (wd_X0_takeRounded a_this a_limbs a_p1 a_p1_limbs c_limbs c_p1_limbs v_first_108 l3 v_limbs_108 v_p1_first v_p1_last v_p1_limbs) := hD.sub [2, 3, 0, 1] (by decide) rfl
        clear hP1 hK1 hD1 hPc hDc hKc hFc hk1 hz1 ht hvm
        refine lv_aload_n hx hb dX0_takeRounded_111 rfl (lv_at hl 1 rfl) ?_
        obtain ⟨⟨v_first_112, v_last_112⟩, hc, h⟩ := bd h
        dsimp only at h
        have hPc := hP.sub (ws' := (wd_X0_trim a_this a_limbs c_limbs v_first_108 l3 v_limbs_108)) [0, 1] rfl
        have hDc := hD.sub (ws' := (wd_X0_trim a_this a_limbs c_limbs v_first_108 l3 v_limbs_108)) [0, 1] (by decide) rfl
        have hKc := hK.sub (tys' := [(c_limbs, .long)]) [0] rfl
        have hFc := va_free (wc := (wd_X0_trim a_this a_limbs c_limbs v_first_108 l3 v_limbs_108)) hD hS hA [0, 1] rfl
        refine va_callv (va_runV (As := []) (rest := []) ⟨hx, hb, hml, hown, hws⟩ (c_X0_trim l dC dI  a_this a_limbs c_limbs (Array.size H)  v_first_108 l3 v_limbs_108 v_first_112 v_last_112 hc) (cwV 0 hws (gV ww_163 ww_164 ww_165 ww_18 ww_166) rfl rfl rfl (by decide +kernel) ⟨Nat.le_of_ble_eq_true rfl, Nat.le_of_ble_eq_true rfl⟩) ⟨(fun a U g mk q => by obtain ⟨q0, q1, qP, qK, qD⟩ := q; exact ⟨q0, q1, qP, va_K.moved (u := U) (U := U.calling g mk a) (Vm.Alike.refl U.vm) qK, qD⟩), va_recv hKc hPc (ci := 0) (q0 := 0) rfl rfl, (fun U hU hW => ⟨rfl, by rw [hU], by rw [hU]; exact hPc, va_K.moved hW.alike hKc, hDc.weaken (fun _ _ _ _ => trivial)⟩)⟩ rfl rfl hl.1 rfl (lv_room (Nat.le_of_ble_eq_true rfl)) dX0_takeRounded_112 ⟨Nat.zero_le _, Nat.zero_le _⟩) hS (fun q _ h => hFc q h) hFc (fun u9 t H1 locs ht hvm hw hB hz1 hk1 hS => ?_)
        obtain ⟨hP1, hK1, hD1⟩ := hB
        rw [ht] at hP1
        obtain ⟨hP, hD⟩ := va_join (wr := [(a_p1, .inr (0, [.ref a_p1_limbs, .int v_p1_first, .int v_p1_last])), (a_p1_limbs, .inl (c_p1_limbs, 160, .inr (.inl v_p1_limbs)))]) (w1 := (wd_X0_trim a_this a_limbs c_limbs v_first_112 v_last_112 v_limbs_108)) hP hD [0, 1] [2, 3] rfl rfl (by decide) (by decide) hk1 hFc hP1 hD1
        generalize H1 = H at hP hS ⊢
        have hP : va_P (dC, dI) vwCl (wd_X0_takeRounded a_this a_limbs a_p1 a_p1_limbs c_limbs c_p1_limbs v_first_112 v_last_112 v_limbs_108 v_p1_first v_p1_last v_p1_limbs) H := hP.sub [2, 3, 0, 1] rfl
        have hD : va_D A (wd_X0_takeRounded a_this a_limbs a_p1 a_p1_limbs c_limbs c_p1_limbs v_first_112 v_last_112 v_limbs_108 v_p1_first v_p1_last v_p1_limbs) := hD.sub [2, 3, 0, 1] (by decide) rfl
        clear hP1 hK1 hD1 hPc hDc hKc hFc hk1 hz1 ht hvm
        obtain ⟨h09, h19, h29⟩ := rt3 h
        subst o_first
        subst o_last
        subst o_limbs
        exact W.vret hx hb hr (fun t ht hW => ⟨⟨(), rfl, trivial, by rw [ht]; exact hP, va_K.moved hW.alike hK, hD⟩, hS.F ht⟩) hS.2.2 dX0_takeRounded_115
    · have h := (if_neg c9).symm.trans h
      refine lv_aload_n hx hb dX0_takeRounded_33 rfl (lv_at hl 0 rfl) ?_
      refine va_get (D := (dC, dI)) (ci := 0) (v := .ref a_limbs) (C := RX0) (T := TX0) (N := 3) hx hb hws inlX0 hown hK hP 0 rfl rfl 0 (by decide) (hws _ ww_27) (fun _ h9 => h9) rfl dX0_takeRounded_34 ?_
      refine lv_iload hx hb dX0_takeRounded_37 (lv_at hl 4 rfl) ?_
      refine lv_aload_n hx hb dX0_takeRounded_39 rfl (lv_at hl 1 rfl) ?_
      refine va_get (D := (dC, dI)) (ci := 0) (v := .ref a_p1_limbs) (C := RX0) (T := TX0) (N := 3) hx hb hws inlX0 hown hK hP 2 rfl rfl 0 (by decide) (hws _ ww_27) (fun _ h9 => h9) rfl dX0_takeRounded_40 ?_
      refine lv_iload hx hb dX0_takeRounded_43 (lv_at hl 4 rfl) ?_
      obtain ⟨hi, h⟩ := gd h
      refine va_lald hx hb hK hP 3 1 rfl rfl hi dX0_takeRounded_45 ?_
      obtain ⟨hi, h⟩ := gd h
      refine va_last hx hb hK hP hD hS 1 0 rfl rfl hi dX0_takeRounded_46 (fun H locs hP hD hS => ?_)
      have hP : va_P (dC, dI) vwCl (wd_X0_takeRounded a_this a_limbs a_p1 a_p1_limbs c_limbs c_p1_limbs v_first v_last (vp_updL v_limbs (Int32.toNatClampNeg l4) (v_p1_limbs (Int32.toNatClampNeg l4))) v_p1_first v_p1_last v_p1_limbs) H := hP
      have hD : va_D A (wd_X0_takeRounded a_this a_limbs a_p1 a_p1_limbs c_limbs c_p1_limbs v_first v_last (vp_updL v_limbs (Int32.toNatClampNeg l4) (v_p1_limbs (Int32.toNatClampNeg l4))) v_p1_first v_p1_last v_p1_limbs) := hD
      refine lv_iinc (v := (l4 + 1)) (lv' := [(4, .int (l4 + 1)), (0, .ref a_this), (1, .ref a_p1), (2, .int l2), (3, .int l3)]) hx hb dX0_takeRounded_47 hl (k := 4) rfl rfl (by decide) rfl (fun ls hl => ?_)
      refine lv_goto (tgt := 27) hx hb dX0_takeRounded_50 (by decide) ?_
      exact ih l2 l3 (l4 + 1) v_first v_last (vp_updL v_limbs (Int32.toNatClampNeg l4) (v_p1_limbs (Int32.toNatClampNeg l4))) v_p1_first v_p1_last v_p1_limbs o_first o_last o_limbs h H locs hK hP hD hS ls (lv_sub hl [1, 2, 3, 4, 0] rfl)
set_option maxHeartbeats 4000000 in
set_option maxRecDepth 100000 in
theorem c_X0_takeRounded (l : Launch) (dC : Nat → ClassId) (dI : Nat → Nat → Nat) (a_TENS : Nat) (a_this a_limbs a_p1 a_p1_limbs : Nat) (c_limbs c_p1_limbs : ClassId) (sz : Nat) (l2 : Int32) (v_first : Int32) (v_last : Int32) (v_limbs : Nat → Int64) (v_p1_first : Int32) (v_p1_last : Int32) (v_p1_limbs : Nat → Int64) (o_first : Int32) (o_last : Int32) (o_limbs : Nat → Int64) (h : f_X0_takeRounded l2 v_first v_last v_limbs v_p1_first v_p1_last v_p1_limbs = some (o_first, o_last, o_limbs)) : Met l yX0_takeRounded w_X0_takeRounded ({ frames := 3, cells := 0, slots := 0, locals := 74 } : Room) (va_Pc [.ref a_this, .ref a_p1, .int l2] (fun U => U.heap.size = sz ∧ va_P (dC, dI) vwCl (wd_X0_takeRounded a_this a_limbs a_p1 a_p1_limbs c_limbs c_p1_limbs v_first v_last v_limbs v_p1_first v_p1_last v_p1_limbs) U.heap ∧ va_K (dC, dI) vwCl [(c_limbs, .long), (c_p1_limbs, .long)] U ∧ va_D (fun _ => True) (wd_X0_takeRounded a_this a_limbs a_p1 a_p1_limbs c_limbs c_p1_limbs v_first v_last v_limbs v_p1_first v_p1_last v_p1_limbs) ∧ va_Z "DoubleText$Decimal" "TENS" "[J" (.ref a_TENS) (va_A (wd_X0_takeRounded a_this a_limbs a_p1 a_p1_limbs c_limbs c_p1_limbs v_first v_last v_limbs v_p1_first v_p1_last v_p1_limbs) sz) U U.heap ∧ va_T .long a_TENS 9 TENS_v (va_A (wd_X0_takeRounded a_this a_limbs a_p1 a_p1_limbs c_limbs c_p1_limbs v_first v_last v_limbs v_p1_first v_p1_last v_p1_limbs) sz) U U.heap)) (va_Qv (fun (_ : Unit) => True) (fun (_ : Unit) t => va_P (dC, dI) vwCl (wd_X0_takeRounded a_this a_limbs a_p1 a_p1_limbs c_limbs c_p1_limbs o_first o_last o_limbs v_p1_first v_p1_last v_p1_limbs) t.heap ∧ va_K (dC, dI) vwCl [(c_limbs, .long), (c_p1_limbs, .long)] t ∧ va_D (va_A (wd_X0_takeRounded a_this a_limbs a_p1 a_p1_limbs c_limbs c_p1_limbs v_first v_last v_limbs v_p1_first v_p1_last v_p1_limbs) sz) (wd_X0_takeRounded a_this a_limbs a_p1 a_p1_limbs c_limbs c_p1_limbs o_first o_last o_limbs v_p1_first v_p1_last v_p1_limbs)) (va_A (wd_X0_takeRounded a_this a_limbs a_p1 a_p1_limbs c_limbs c_p1_limbs v_first v_last v_limbs v_p1_first v_p1_last v_p1_limbs) sz)) 0 0 (va_A (wd_X0_takeRounded a_this a_limbs a_p1 a_p1_limbs c_limbs c_p1_limbs v_first v_last v_limbs v_p1_first v_p1_last v_p1_limbs) sz) := by
  refine Met.ofW (cc := cX0_takeRounded) (maxL := 6) (ret := none) (by decide) rfl ?_
  intro p e s m args below meth c s₁ B hml hv
  obtain ⟨rfl, hsz, hP, hK, hD0, hZ_TENS, hT_TENS⟩ := hv
  have hx := B.exec
  have hb := B.bytes
  have hr := B.returns
  have hws : ∀ w ∈ wsL_law, w.before _ s = true := fun w hw => atoms_spec (ws := w_X0_takeRounded) B.pre w (List.mem_cons_of_mem _ hw)
  have hown : s.vm.findClass RX0 = some m.cls := findClass_of_methodNamed B.named
  have hlocks := B.notSynchronized
  subst hsz
  have hD := hD0.self (sz := s.heap.size)
  generalize hAe : va_A (wd_X0_takeRounded a_this a_limbs a_p1 a_p1_limbs c_limbs c_p1_limbs v_first v_last v_limbs v_p1_first v_p1_last v_p1_limbs) s.heap.size = A at hD hZ_TENS hT_TENS ⊢
  have hA : ∀ q : Nat, s.heap.size ≤ q → A q := fun q h => by rw [← hAe]; exact Or.inr h
  have hS : va_S A s.heap s.heap [] := va_S.rf
  have hl := lv_entry ([.ref a_this, .ref a_p1, .int l2]) (n := 6) (Nat.le_of_ble_eq_true rfl)
  rw [lg_entry_eq]
  generalize (lg_sl ([.ref a_this, .ref a_p1, .int l2]) ++ List.replicate (6 - (lg_sl ([.ref a_this, .ref a_p1, .int l2])).length) Slot.unset).toArray = ls at hl ⊢
  have hl : lv_has ls 6 [(0, .ref a_this), (1, .ref a_p1), (2, .int l2)] := hl
  unfold f_X0_takeRounded at h
  refine lv_aload_n hx hb dX0_takeRounded_0 rfl (lv_at hl 0 rfl) ?_
  obtain ⟨⟨v_first_1, v_last_1, v_limbs_1⟩, hc, h⟩ := bd h
  dsimp only at h
  have hPc := hP.sub (ws' := (wd_X0_wipe a_this a_limbs c_limbs v_first v_last v_limbs)) [0, 1] rfl
  have hDc := hD.sub (ws' := (wd_X0_wipe a_this a_limbs c_limbs v_first v_last v_limbs)) [0, 1] (by decide) rfl
  have hKc := hK.sub (tys' := [(c_limbs, .long)]) [0] rfl
  have hFc := va_free (wc := (wd_X0_wipe a_this a_limbs c_limbs v_first v_last v_limbs)) hD hS hA [0, 1] rfl
  refine va_callv (va_runV (As := []) (rest := []) ⟨hx, hb, hml, hown, hws⟩ (c_X0_wipe l dC dI  a_this a_limbs c_limbs (Array.size s.heap)  v_first v_last v_limbs v_first_1 v_last_1 v_limbs_1 hc) (cwV 0 hws (gV ww_193 ww_118 ww_119 ww_18 ww_120) rfl rfl rfl (by decide +kernel) ⟨Nat.le_of_ble_eq_true rfl, Nat.le_of_ble_eq_true rfl⟩) ⟨(fun a U g mk q => by obtain ⟨q0, q1, qP, qK, qD⟩ := q; exact ⟨q0, q1, qP, va_K.moved (u := U) (U := U.calling g mk a) (Vm.Alike.refl U.vm) qK, qD⟩), va_recv hKc hPc (ci := 0) (q0 := 0) rfl rfl, (fun U hU hW => ⟨rfl, by rw [hU], by rw [hU]; exact hPc, va_K.moved hW.alike hKc, hDc.weaken (fun _ _ _ _ => trivial)⟩)⟩ rfl rfl hl.1 rfl (lv_room (Nat.le_of_ble_eq_true rfl)) dX0_takeRounded_1 ⟨Nat.zero_le _, Nat.zero_le _⟩) hS (fun q _ h => hFc q h) hFc (fun u9 t H1 locs ht hvm hw hB hz1 hk1 hS => ?_)
  obtain ⟨hP1, hK1, hD1⟩ := hB
  rw [ht] at hP1
  obtain ⟨hP, hD⟩ := va_join (wr := [(a_p1, .inr (0, [.ref a_p1_limbs, .int v_p1_first, .int v_p1_last])), (a_p1_limbs, .inl (c_p1_limbs, 160, .inr (.inl v_p1_limbs)))]) (w1 := (wd_X0_wipe a_this a_limbs c_limbs v_first_1 v_last_1 v_limbs_1)) hP hD [0, 1] [2, 3] rfl rfl (by decide) (by decide) hk1 hFc hP1 hD1
  generalize H1 = H at hP hS ⊢
  have hP : va_P (dC, dI) vwCl (wd_X0_takeRounded a_this a_limbs a_p1 a_p1_limbs c_limbs c_p1_limbs v_first_1 v_last_1 v_limbs_1 v_p1_first v_p1_last v_p1_limbs) H := hP.sub [2, 3, 0, 1] rfl
  have hD : va_D A (wd_X0_takeRounded a_this a_limbs a_p1 a_p1_limbs c_limbs c_p1_limbs v_first_1 v_last_1 v_limbs_1 v_p1_first v_p1_last v_p1_limbs) := hD.sub [2, 3, 0, 1] (by decide) rfl
  clear hP1 hK1 hD1 hPc hDc hKc hFc hk1 hz1 ht hvm
  refine lv_iload_n hx hb dX0_takeRounded_4 rfl (lv_at hl 2 rfl) ?_
  obtain ⟨r5, hc, h⟩ := bd h
  have hPc := hP.sub (ws' := ([] : va_W)) [] rfl
  have hDc := hD.sub (ws' := ([] : va_W)) [] (by decide) rfl
  have hKc := hK.sub (tys' := []) [] rfl
  have hFc := va_free (wc := ([] : va_W)) hD hS hA [] rfl
  refine va_calli (va_runS (As := [.int l2]) (rest := []) ⟨hx, hb, hml, hown, hws⟩ (c_X0_limbOf l dC dI   (Array.size H) l2  r5 hc) (va_cwS 1 hws (gS ww_132 ww_133 ww_18 ww_134) rfl rfl rfl (by decide +kernel) ⟨Nat.le_of_ble_eq_true rfl, Nat.le_of_ble_eq_true rfl⟩) ⟨(fun a U g mk q => by obtain ⟨q0, q1, qP, qK, qD⟩ := q; exact ⟨q0, q1, qP, va_K.moved (u := U) (U := U.calling g mk a) (Vm.Alike.refl U.vm) qK, qD⟩), (fun U hU hW => ⟨rfl, by rw [hU], by rw [hU]; exact hPc, va_K.moved hW.alike hKc, hDc.weaken (fun _ _ _ _ => trivial)⟩)⟩ rfl rfl hl.1 rfl (lv_room (Nat.le_of_ble_eq_true rfl)) dX0_takeRounded_5 ⟨Nat.zero_le _, Nat.zero_le _⟩) hS (fun q _ h => hFc q h) hFc (fun r9 u9 t H1 locs ht hvm hw hB hz1 hk1 hS => ?_)
  obtain ⟨hP1, hK1, hD1⟩ := hB
  rw [ht] at hP1
  subst r9
  obtain ⟨hP, hD⟩ := va_join (wr := [(a_this, .inr (0, [.ref a_limbs, .int v_first_1, .int v_last_1])), (a_limbs, .inl (c_limbs, 160, .inr (.inl v_limbs_1))), (a_p1, .inr (0, [.ref a_p1_limbs, .int v_p1_first, .int v_p1_last])), (a_p1_limbs, .inl (c_p1_limbs, 160, .inr (.inl v_p1_limbs)))]) (w1 := ([] : va_W)) hP hD [] [0, 1, 2, 3] rfl rfl (by decide) (by decide) hk1 hFc hP1 hD1
  generalize H1 = H at hP hS ⊢
  have hP : va_P (dC, dI) vwCl (wd_X0_takeRounded a_this a_limbs a_p1 a_p1_limbs c_limbs c_p1_limbs v_first_1 v_last_1 v_limbs_1 v_p1_first v_p1_last v_p1_limbs) H := hP.sub [0, 1, 2, 3] rfl
  have hD : va_D A (wd_X0_takeRounded a_this a_limbs a_p1 a_p1_limbs c_limbs c_p1_limbs v_first_1 v_last_1 v_limbs_1 v_p1_first v_p1_last v_p1_limbs) := hD.sub [0, 1, 2, 3] (by decide) rfl
  clear hP1 hK1 hD1 hPc hDc hKc hFc hk1 hz1 ht hvm
  refine lv_istore_n (lv' := [(3, .int r5), (0, .ref a_this), (1, .ref a_p1), (2, .int l2)]) hx hb dX0_takeRounded_8 rfl hl (by decide) rfl (fun ls hl => ?_)
  refine lv_iload_n hx hb dX0_takeRounded_9 rfl (lv_at hl 0 rfl) ?_
  refine lv_if_lt (tgt := 20) hx hb dX0_takeRounded_10 (by decide) (fun c9 => ?_) (fun c9 => ?_)
  · have h := (if_pos c9).symm.trans h
    obtain ⟨h09, h19, h29⟩ := rt3 h
    subst o_first
    subst o_last
    subst o_limbs
    exact W.vret hx hb hr (fun t ht hW => ⟨⟨(), rfl, trivial, by rw [ht]; exact hP, va_K.moved hW.alike hK, hD⟩, hS.F ht⟩) hS.2.2 dX0_takeRounded_20
  · have h := (if_neg c9).symm.trans h
    refine lv_iload_n hx hb dX0_takeRounded_13 rfl (lv_at hl 0 rfl) ?_
    refine lv_sipush (v := 160) hx hb dX0_takeRounded_14 (by decide) ?_
    refine lv_icmp_lt (tgt := 21) hx hb dX0_takeRounded_17 (by decide) (fun c9 => ?_) (fun c9 => ?_)
    · have h := (if_pos c9).symm.trans h
      refine lv_aload_n hx hb dX0_takeRounded_21 rfl (lv_at hl 2 rfl) ?_
      refine va_get (D := (dC, dI)) (ci := 0) (v := .int v_p1_first) (C := RX0) (T := TX0) (N := 3) hx hb hws inlX0 hown hK hP 2 rfl rfl 1 (by decide) (hws _ ww_28) (fun _ h9 => h9) rfl dX0_takeRounded_22 ?_
      refine lv_istore (lv' := [(4, .int v_p1_first), (3, .int r5), (0, .ref a_this), (1, .ref a_p1), (2, .int l2)]) hx hb dX0_takeRounded_25 hl (by decide) rfl (fun ls hl => ?_)
      exact w_X0_takeRounded_27 l a_this a_limbs a_p1 a_p1_limbs c_limbs c_p1_limbs hx hb hr hml hown hws hlocks hA hZ_TENS hT_TENS FU l2 r5 v_p1_first v_first_1 v_last_1 v_limbs_1 v_p1_first v_p1_last v_p1_limbs o_first o_last o_limbs h H locs hK hP hD hS ls (lv_sub hl [2, 3, 4, 1, 0] rfl)
    · have h := (if_neg c9).symm.trans h
      obtain ⟨h09, h19, h29⟩ := rt3 h
      subst o_first
      subst o_last
      subst o_limbs
      exact W.vret hx hb hr (fun t ht hW => ⟨⟨(), rfl, trivial, by rw [ht]; exact hP, va_K.moved hW.alike hK, hD⟩, hS.F ht⟩) hS.2.2 dX0_takeRounded_20
set_option maxHeartbeats 4000000 in
set_option maxRecDepth 100000 in
theorem w_X0_comparedTo_24 (l : Launch) {p : Program} {e : Env} {s : State} {m : MethodId} {args : Array Value} {below : List Frame} {meth : Method} {c : Code} {A : Nat → Prop} {dC : Nat → ClassId} {dI : Nat → Nat → Nat} (a_this a_limbs a_p1 a_p1_limbs : Nat) (c_limbs c_p1_limbs : ClassId) (hx : p.tables.exec = Jvm.exec) (hb : c.code = cX0_comparedTo) (hr : meth.sig.returnType = (some .int)) (hml : c.maxLocals = 4) (hown : s.vm.findClass RX0 = some m.cls) (hws : ∀ w ∈ wsL_law, w.before args s = true) (hlocks : meth.locks = false) (hA : ∀ q : Nat, s.heap.size ≤ q → A q) : ∀ (n : Nat) (l2 : Int32) (l3 : Int32) (v_first : Int32) (v_last : Int32) (v_limbs : Nat → Int64) (v_p1_first : Int32) (v_p1_last : Int32) (v_p1_limbs : Nat → Int64) (o_r : Int32), f_X0_comparedTo_L24 n l2 l3 v_first v_last v_limbs v_p1_first v_p1_last v_p1_limbs = some o_r → ∀ (H : Heap) (locs : List Loc), va_K (dC, dI) vwCl [(c_limbs, .long), (c_p1_limbs, .long)] s → va_P (dC, dI) vwCl (wd_X0_comparedTo a_this a_limbs a_p1 a_p1_limbs c_limbs c_p1_limbs v_first v_last v_limbs v_p1_first v_p1_last v_p1_limbs) H → va_D A (wd_X0_comparedTo a_this a_limbs a_p1 a_p1_limbs c_limbs c_p1_limbs v_first v_last v_limbs v_p1_first v_p1_last v_p1_limbs) → va_S A s.heap H locs → ∀ (ls : Array Slot), lv_has ls 4 [(0, .ref a_this), (1, .ref a_p1), (2, .int l2), (3, .int l3)] → W p l e (headSpec (w_X0_comparedTo) ({ frames := 1, cells := 0, slots := 0, locals := 21 } : Room)).room s m args below meth c H locs 0 0 (MQ below (va_Qi (fun r9 (_ : Unit) => r9 = o_r) (fun (_ : Unit) t => va_P (dC, dI) vwCl (wd_X0_comparedTo a_this a_limbs a_p1 a_p1_limbs c_limbs c_p1_limbs v_first v_last v_limbs v_p1_first v_p1_last v_p1_limbs) t.heap ∧ va_K (dC, dI) vwCl [(c_limbs, .long), (c_p1_limbs, .long)] t ∧ va_D A (wd_X0_comparedTo a_this a_limbs a_p1 a_p1_limbs c_limbs c_p1_limbs v_first v_last v_limbs v_p1_first v_p1_last v_p1_limbs)) A) args s 0 0 A) (F0 m 24 ls []) := by
  intro n
  induction n with
  | zero =>
    intro l2 l3 v_first v_last v_limbs v_p1_first v_p1_last v_p1_limbs o_r h H locs hK hP hD hS ls hl
    exact absurd h (by simp [f_X0_comparedTo_L24])
  | succ n ih =>
    intro l2 l3 v_first v_last v_limbs v_p1_first v_p1_last v_p1_limbs o_r h H locs hK hP hD hS ls hl
    unfold f_X0_comparedTo_L24 at h
    refine lv_iload_n hx hb dX0_comparedTo_24 rfl (lv_at hl 3 rfl) ?_
    refine lv_iload_n hx hb dX0_comparedTo_25 rfl (lv_at hl 2 rfl) ?_
    refine lv_icmp_gt (tgt := 73) hx hb dX0_comparedTo_26 (by decide) (fun c9 => ?_) (fun c9 => ?_)
    · have h := (if_pos c9).symm.trans h
      refine lv_iconst (v := 0) hx hb dX0_comparedTo_73 (by decide) ?_
      obtain h09 := rt1 h
      subst o_r
      exact W.iret hx hb hr (fun t ht hW => ⟨⟨_, (), rfl, rfl, by rw [ht]; exact hP, va_K.moved hW.alike hK, hD⟩, hS.F ht⟩) hS.2.2 dX0_comparedTo_74
    · have h := (if_neg c9).symm.trans h
      refine lv_aload_n hx hb dX0_comparedTo_29 rfl (lv_at hl 0 rfl) ?_
      refine va_get (D := (dC, dI)) (ci := 0) (v := .ref a_limbs) (C := RX0) (T := TX0) (N := 3) hx hb hws inlX0 hown hK hP 0 rfl rfl 0 (by decide) (hws _ ww_27) (fun _ h9 => h9) rfl dX0_comparedTo_30 ?_
      refine lv_iload_n hx hb dX0_comparedTo_33 rfl (lv_at hl 3 rfl) ?_
      obtain ⟨hi, h⟩ := gd h
      refine va_lald hx hb hK hP 1 0 rfl rfl hi dX0_comparedTo_34 ?_
      refine lv_aload_n hx hb dX0_comparedTo_35 rfl (lv_at hl 1 rfl) ?_
      refine va_get (D := (dC, dI)) (ci := 0) (v := .ref a_p1_limbs) (C := RX0) (T := TX0) (N := 3) hx hb hws inlX0 hown hK hP 2 rfl rfl 0 (by decide) (hws _ ww_27) (fun _ h9 => h9) rfl dX0_comparedTo_36 ?_
      refine lv_iload_n hx hb dX0_comparedTo_39 rfl (lv_at hl 3 rfl) ?_
      obtain ⟨hi, h⟩ := gd h
      refine va_lald hx hb hK hP 3 1 rfl rfl hi dX0_comparedTo_40 ?_
      refine W.lcmp hx hb dX0_comparedTo_41 ?_
      refine lv_if_eq (tgt := 67) hx hb dX0_comparedTo_42 (by decide) (fun c9 => ?_) (fun c9 => ?_)
      · have h := (if_pos c9).symm.trans h
        refine lv_iinc (v := (l3 + 1)) (lv' := [(3, .int (l3 + 1)), (0, .ref a_this), (1, .ref a_p1), (2, .int l2)]) hx hb dX0_comparedTo_67 hl (k := 3) rfl rfl (by decide) rfl (fun ls hl => ?_)
        refine lv_goto (tgt := 24) hx hb dX0_comparedTo_70 (by decide) ?_
        exact ih l2 (l3 + 1) v_first v_last v_limbs v_p1_first v_p1_last v_p1_limbs o_r h H locs hK hP hD hS ls (lv_sub hl [1, 2, 3, 0] rfl)
      · have h := (if_neg c9).symm.trans h
        refine lv_aload_n hx hb dX0_comparedTo_45 rfl (lv_at hl 0 rfl) ?_
        refine va_get (D := (dC, dI)) (ci := 0) (v := .ref a_limbs) (C := RX0) (T := TX0) (N := 3) hx hb hws inlX0 hown hK hP 0 rfl rfl 0 (by decide) (hws _ ww_27) (fun _ h9 => h9) rfl dX0_comparedTo_46 ?_
        refine lv_iload_n hx hb dX0_comparedTo_49 rfl (lv_at hl 3 rfl) ?_
        obtain ⟨hi, h⟩ := gd h
        refine va_lald hx hb hK hP 1 0 rfl rfl hi dX0_comparedTo_50 ?_
        refine lv_aload_n hx hb dX0_comparedTo_51 rfl (lv_at hl 1 rfl) ?_
        refine va_get (D := (dC, dI)) (ci := 0) (v := .ref a_p1_limbs) (C := RX0) (T := TX0) (N := 3) hx hb hws inlX0 hown hK hP 2 rfl rfl 0 (by decide) (hws _ ww_27) (fun _ h9 => h9) rfl dX0_comparedTo_52 ?_
        refine lv_iload_n hx hb dX0_comparedTo_55 rfl (lv_at hl 3 rfl) ?_
        obtain ⟨hi, h⟩ := gd h
        refine va_lald hx hb hK hP 3 1 rfl rfl hi dX0_comparedTo_56 ?_
        refine W.lcmp hx hb dX0_comparedTo_57 ?_
        refine lv_if_ge (tgt := 65) hx hb dX0_comparedTo_58 (by decide) (fun c9 => ?_) (fun c9 => ?_)
        · have h := (if_pos c9).symm.trans h
          refine lv_iconst (v := 1) hx hb dX0_comparedTo_65 (by decide) ?_
          obtain h09 := rt1 h
          subst o_r
          exact W.iret hx hb hr (fun t ht hW => ⟨⟨_, (), rfl, rfl, by rw [ht]; exact hP, va_K.moved hW.alike hK, hD⟩, hS.F ht⟩) hS.2.2 dX0_comparedTo_66
        · have h := (if_neg c9).symm.trans h
          refine lv_iconst (v := (-1)) hx hb dX0_comparedTo_61 (by decide) ?_
          refine lv_goto (tgt := 66) hx hb dX0_comparedTo_62 (by decide) ?_
          obtain h09 := rt1 h
          subst o_r
          exact W.iret hx hb hr (fun t ht hW => ⟨⟨_, (), rfl, rfl, by rw [ht]; exact hP, va_K.moved hW.alike hK, hD⟩, hS.F ht⟩) hS.2.2 dX0_comparedTo_66
set_option maxHeartbeats 4000000 in
set_option maxRecDepth 100000 in
theorem c_X0_comparedTo (l : Launch) (dC : Nat → ClassId) (dI : Nat → Nat → Nat)  (a_this a_limbs a_p1 a_p1_limbs : Nat) (c_limbs c_p1_limbs : ClassId) (sz : Nat)  (v_first : Int32) (v_last : Int32) (v_limbs : Nat → Int64) (v_p1_first : Int32) (v_p1_last : Int32) (v_p1_limbs : Nat → Int64) (o_r : Int32) (h : f_X0_comparedTo v_first v_last v_limbs v_p1_first v_p1_last v_p1_limbs = some o_r) : Met l yX0_comparedTo w_X0_comparedTo ({ frames := 1, cells := 0, slots := 0, locals := 21 } : Room) (va_Pc [.ref a_this, .ref a_p1] (fun U => U.heap.size = sz ∧ va_P (dC, dI) vwCl (wd_X0_comparedTo a_this a_limbs a_p1 a_p1_limbs c_limbs c_p1_limbs v_first v_last v_limbs v_p1_first v_p1_last v_p1_limbs) U.heap ∧ va_K (dC, dI) vwCl [(c_limbs, .long), (c_p1_limbs, .long)] U ∧ va_D (fun _ => True) (wd_X0_comparedTo a_this a_limbs a_p1 a_p1_limbs c_limbs c_p1_limbs v_first v_last v_limbs v_p1_first v_p1_last v_p1_limbs))) (va_Qi (fun r9 (_ : Unit) => r9 = o_r) (fun (_ : Unit) t => va_P (dC, dI) vwCl (wd_X0_comparedTo a_this a_limbs a_p1 a_p1_limbs c_limbs c_p1_limbs v_first v_last v_limbs v_p1_first v_p1_last v_p1_limbs) t.heap ∧ va_K (dC, dI) vwCl [(c_limbs, .long), (c_p1_limbs, .long)] t ∧ va_D (va_A (wd_X0_comparedTo a_this a_limbs a_p1 a_p1_limbs c_limbs c_p1_limbs v_first v_last v_limbs v_p1_first v_p1_last v_p1_limbs) sz) (wd_X0_comparedTo a_this a_limbs a_p1 a_p1_limbs c_limbs c_p1_limbs v_first v_last v_limbs v_p1_first v_p1_last v_p1_limbs)) (va_A (wd_X0_comparedTo a_this a_limbs a_p1 a_p1_limbs c_limbs c_p1_limbs v_first v_last v_limbs v_p1_first v_p1_last v_p1_limbs) sz)) 0 0 (va_A (wd_X0_comparedTo a_this a_limbs a_p1 a_p1_limbs c_limbs c_p1_limbs v_first v_last v_limbs v_p1_first v_p1_last v_p1_limbs) sz) := by
  refine Met.ofW (cc := cX0_comparedTo) (maxL := 4) (ret := (some .int)) (by decide) rfl ?_
  intro p e s m args below meth c s₁ B hml hv
  obtain ⟨rfl, hsz, hP, hK, hD0⟩ := hv
  have hx := B.exec
  have hb := B.bytes
  have hr := B.returns
  have hws : ∀ w ∈ wsL_law, w.before _ s = true := fun w hw => atoms_spec (ws := w_X0_comparedTo) B.pre w (List.mem_cons_of_mem _ hw)
  have hown : s.vm.findClass RX0 = some m.cls := findClass_of_methodNamed B.named
  have hlocks := B.notSynchronized
  subst hsz
  have hD := hD0.self (sz := s.heap.size)
  generalize hAe : va_A (wd_X0_comparedTo a_this a_limbs a_p1 a_p1_limbs c_limbs c_p1_limbs v_first v_last v_limbs v_p1_first v_p1_last v_p1_limbs) s.heap.size = A at hD ⊢
  have hA : ∀ q : Nat, s.heap.size ≤ q → A q := fun q h => by rw [← hAe]; exact Or.inr h
  have hS : va_S A s.heap s.heap [] := va_S.rf
  have hl := lv_entry ([.ref a_this, .ref a_p1]) (n := 4) (Nat.le_of_ble_eq_true rfl)
  rw [lg_entry_eq]
  generalize (lg_sl ([.ref a_this, .ref a_p1]) ++ List.replicate (4 - (lg_sl ([.ref a_this, .ref a_p1])).length) Slot.unset).toArray = ls at hl ⊢
  have hl : lv_has ls 4 [(0, .ref a_this), (1, .ref a_p1)] := hl
  unfold f_X0_comparedTo at h
  refine lv_aload_n hx hb dX0_comparedTo_0 rfl (lv_at hl 0 rfl) ?_
  refine va_get (D := (dC, dI)) (ci := 0) (v := .int v_last) (C := RX0) (T := TX0) (N := 3) hx hb hws inlX0 hown hK hP 0 rfl rfl 2 (by decide) (hws _ ww_29) (fun _ h9 => h9) rfl dX0_comparedTo_1 ?_
  refine lv_aload_n hx hb dX0_comparedTo_4 rfl (lv_at hl 1 rfl) ?_
  refine va_get (D := (dC, dI)) (ci := 0) (v := .int v_p1_last) (C := RX0) (T := TX0) (N := 3) hx hb hws inlX0 hown hK hP 2 rfl rfl 2 (by decide) (hws _ ww_29) (fun _ h9 => h9) rfl dX0_comparedTo_5 ?_
  refine va_mmax hx hb (hml.trans hl.1.symm) hown (hws _ ww_129) (hws _ ww_130) (hws _ ww_127) (hws _ ww_131) (Nat.le_of_ble_eq_true rfl) (Nat.le_of_ble_eq_true rfl) (Nat.le_of_ble_eq_true rfl) (Nat.le_of_ble_eq_true rfl) dX0_comparedTo_8 ?_
  refine lv_istore_n (lv' := [(2, .int (if v_last < v_p1_last then v_p1_last else v_last)), (0, .ref a_this), (1, .ref a_p1)]) hx hb dX0_comparedTo_11 rfl hl (by decide) rfl (fun ls hl => ?_)
  refine lv_aload_n hx hb dX0_comparedTo_12 rfl (lv_at hl 1 rfl) ?_
  refine va_get (D := (dC, dI)) (ci := 0) (v := .int v_first) (C := RX0) (T := TX0) (N := 3) hx hb hws inlX0 hown hK hP 0 rfl rfl 1 (by decide) (hws _ ww_28) (fun _ h9 => h9) rfl dX0_comparedTo_13 ?_
  refine lv_aload_n hx hb dX0_comparedTo_16 rfl (lv_at hl 2 rfl) ?_
  refine va_get (D := (dC, dI)) (ci := 0) (v := .int v_p1_first) (C := RX0) (T := TX0) (N := 3) hx hb hws inlX0 hown hK hP 2 rfl rfl 1 (by decide) (hws _ ww_28) (fun _ h9 => h9) rfl dX0_comparedTo_17 ?_
  refine va_mmin hx hb (hml.trans hl.1.symm) hown (hws _ ww_125) (hws _ ww_126) (hws _ ww_127) (hws _ ww_128) (Nat.le_of_ble_eq_true rfl) (Nat.le_of_ble_eq_true rfl) (Nat.le_of_ble_eq_true rfl) (Nat.le_of_ble_eq_true rfl) dX0_comparedTo_20 ?_
  refine lv_istore_n (lv' := [(3, .int (if v_p1_first < v_first then v_p1_first else v_first)), (2, .int (if v_last < v_p1_last then v_p1_last else v_last)), (0, .ref a_this), (1, .ref a_p1)]) hx hb dX0_comparedTo_23 rfl hl (by decide) rfl (fun ls hl => ?_)
  exact w_X0_comparedTo_24 l a_this a_limbs a_p1 a_p1_limbs c_limbs c_p1_limbs hx hb hr hml hown hws hlocks hA FU (if v_last < v_p1_last then v_p1_last else v_last) (if v_p1_first < v_first then v_p1_first else v_first) v_first v_last v_limbs v_p1_first v_p1_last v_p1_limbs o_r h s.heap [] hK hP hD hS ls (lv_sub hl [2, 3, 1, 0] rfl)
set_option maxHeartbeats 4000000 in
set_option maxRecDepth 100000 in
theorem c_X1_clear (l : Launch) (dC : Nat → ClassId) (dI : Nat → Nat → Nat)  (a_this a_text a_number a_rounded a_lowEdge a_highEdge : Nat) (sz : Nat)  (v_length : Int32) (v_digitsStart : Int32) (v_digitsEnd : Int32) (v_unitsAt : Int32) (v_tenPower : Int32) (o_length : Int32) (h : f_X1_clear v_length = some o_length) : Met l yX1_clear w_X1_clear ({ frames := 0, cells := 0, slots := 0, locals := 0 } : Room) (va_Pc [.ref a_this] (fun U => U.heap.size = sz ∧ va_P (dC, dI) vwCl (wd_X1_clear a_this a_text a_number a_rounded a_lowEdge a_highEdge v_length v_digitsStart v_digitsEnd v_unitsAt v_tenPower) U.heap ∧ va_K (dC, dI) vwCl [] U ∧ va_D (fun _ => True) (wd_X1_clear a_this a_text a_number a_rounded a_lowEdge a_highEdge v_length v_digitsStart v_digitsEnd v_unitsAt v_tenPower))) (va_Qv (fun (_ : Unit) => True) (fun (_ : Unit) t => va_P (dC, dI) vwCl (wd_X1_clear a_this a_text a_number a_rounded a_lowEdge a_highEdge o_length v_digitsStart v_digitsEnd v_unitsAt v_tenPower) t.heap ∧ va_K (dC, dI) vwCl [] t ∧ va_D (va_A (wd_X1_clear a_this a_text a_number a_rounded a_lowEdge a_highEdge v_length v_digitsStart v_digitsEnd v_unitsAt v_tenPower) sz) (wd_X1_clear a_this a_text a_number a_rounded a_lowEdge a_highEdge o_length v_digitsStart v_digitsEnd v_unitsAt v_tenPower)) (va_A (wd_X1_clear a_this a_text a_number a_rounded a_lowEdge a_highEdge v_length v_digitsStart v_digitsEnd v_unitsAt v_tenPower) sz)) 0 0 (va_A (wd_X1_clear a_this a_text a_number a_rounded a_lowEdge a_highEdge v_length v_digitsStart v_digitsEnd v_unitsAt v_tenPower) sz) := by
  refine Met.ofW (cc := cX1_clear) (maxL := 1) (ret := none) (by decide) rfl ?_
  intro p e s m args below meth c s₁ B hml hv
  obtain ⟨rfl, hsz, hP, hK, hD0⟩ := hv
  have hx := B.exec
  have hb := B.bytes
  have hr := B.returns
  have hws : ∀ w ∈ wsL_law, w.before _ s = true := fun w hw => atoms_spec (ws := w_X1_clear) B.pre w (List.mem_cons_of_mem _ hw)
  have hown : s.vm.findClass RX1 = some m.cls := findClass_of_methodNamed B.named
  have hlocks := B.notSynchronized
  subst hsz
  have hD := hD0.self (sz := s.heap.size)
  generalize hAe : va_A (wd_X1_clear a_this a_text a_number a_rounded a_lowEdge a_highEdge v_length v_digitsStart v_digitsEnd v_unitsAt v_tenPower) s.heap.size = A at hD ⊢
  have hA : ∀ q : Nat, s.heap.size ≤ q → A q := fun q h => by rw [← hAe]; exact Or.inr h
  have hS : va_S A s.heap s.heap [] := va_S.rf
  have hl := lv_entry ([.ref a_this]) (n := 1) (Nat.le_of_ble_eq_true rfl)
  rw [lg_entry_eq]
  generalize (lg_sl ([.ref a_this]) ++ List.replicate (1 - (lg_sl ([.ref a_this])).length) Slot.unset).toArray = ls at hl ⊢
  have hl : lv_has ls 1 [(0, .ref a_this)] := hl
  unfold f_X1_clear at h
  refine lv_aload_n hx hb dX1_clear_0 rfl (lv_at hl 0 rfl) ?_
  refine lv_iconst (v := 0) hx hb dX1_clear_1 (by decide) ?_
  refine va_put (D := (dC, dI)) (ci := 1) (v := .int 0) (ty := .int) (C := RX1) (T := TX1) (N := 10) hx hb hws inlX1 tyX1 tyX1_ok nmX1 hown hK hP hD hS 0 rfl rfl 1 (by decide) (hws _ ww_43) (fun _ h9 => h9) rfl (by decide +kernel) rfl rfl (Nat.le_of_ble_eq_true rfl) dX1_clear_2 (fun H locs hP hD hS => ?_)
  have hP : va_P (dC, dI) vwCl (wd_X1_clear a_this a_text a_number a_rounded a_lowEdge a_highEdge 0 v_digitsStart v_digitsEnd v_unitsAt v_tenPower) H := hP
  have hD : va_D A (wd_X1_clear a_this a_text a_number a_rounded a_lowEdge a_highEdge 0 v_digitsStart v_digitsEnd v_unitsAt v_tenPower) := hD
  obtain h09 := rt1 h
  subst o_length
  exact W.vret hx hb hr (fun t ht hW => ⟨⟨(), rfl, trivial, by rw [ht]; exact hP, va_K.moved hW.alike hK, hD⟩, hS.F ht⟩) hS.2.2 dX1_clear_5
set_option maxHeartbeats 4000000 in
set_option maxRecDepth 100000 in
theorem c_X1_put (l : Launch) (dC : Nat → ClassId) (dI : Nat → Nat → Nat)  (a_this a_text a_number a_rounded a_lowEdge a_highEdge : Nat) (c_text : ClassId) (sz : Nat) (l1 : Int32) (v_length : Int32) (v_digitsStart : Int32) (v_digitsEnd : Int32) (v_unitsAt : Int32) (v_tenPower : Int32) (v_text : Nat → Int32) (o_length : Int32) (o_text : Nat → Int32) (h : f_X1_put l1 v_length v_text = some (o_length, o_text)) : Met l yX1_put w_X1_put ({ frames := 0, cells := 0, slots := 0, locals := 0 } : Room) (va_Pc [.ref a_this, .int l1] (fun U => U.heap.size = sz ∧ va_P (dC, dI) vwCl (wd_X1_put a_this a_text a_number a_rounded a_lowEdge a_highEdge c_text v_length v_digitsStart v_digitsEnd v_unitsAt v_tenPower v_text) U.heap ∧ va_K (dC, dI) vwCl [(c_text, .int)] U ∧ va_D (fun _ => True) (wd_X1_put a_this a_text a_number a_rounded a_lowEdge a_highEdge c_text v_length v_digitsStart v_digitsEnd v_unitsAt v_tenPower v_text))) (va_Qv (fun (_ : Unit) => True) (fun (_ : Unit) t => va_P (dC, dI) vwCl (wd_X1_put a_this a_text a_number a_rounded a_lowEdge a_highEdge c_text o_length v_digitsStart v_digitsEnd v_unitsAt v_tenPower o_text) t.heap ∧ va_K (dC, dI) vwCl [(c_text, .int)] t ∧ va_D (va_A (wd_X1_put a_this a_text a_number a_rounded a_lowEdge a_highEdge c_text v_length v_digitsStart v_digitsEnd v_unitsAt v_tenPower v_text) sz) (wd_X1_put a_this a_text a_number a_rounded a_lowEdge a_highEdge c_text o_length v_digitsStart v_digitsEnd v_unitsAt v_tenPower o_text)) (va_A (wd_X1_put a_this a_text a_number a_rounded a_lowEdge a_highEdge c_text v_length v_digitsStart v_digitsEnd v_unitsAt v_tenPower v_text) sz)) 0 0 (va_A (wd_X1_put a_this a_text a_number a_rounded a_lowEdge a_highEdge c_text v_length v_digitsStart v_digitsEnd v_unitsAt v_tenPower v_text) sz) := by
  refine Met.ofW (cc := cX1_put) (maxL := 2) (ret := none) (by decide) rfl ?_
  intro p e s m args below meth c s₁ B hml hv
  obtain ⟨rfl, hsz, hP, hK, hD0⟩ := hv
  have hx := B.exec
  have hb := B.bytes
  have hr := B.returns
  have hws : ∀ w ∈ wsL_law, w.before _ s = true := fun w hw => atoms_spec (ws := w_X1_put) B.pre w (List.mem_cons_of_mem _ hw)
  have hown : s.vm.findClass RX1 = some m.cls := findClass_of_methodNamed B.named
  have hlocks := B.notSynchronized
  subst hsz
  have hD := hD0.self (sz := s.heap.size)
  generalize hAe : va_A (wd_X1_put a_this a_text a_number a_rounded a_lowEdge a_highEdge c_text v_length v_digitsStart v_digitsEnd v_unitsAt v_tenPower v_text) s.heap.size = A at hD ⊢
  have hA : ∀ q : Nat, s.heap.size ≤ q → A q := fun q h => by rw [← hAe]; exact Or.inr h
  have hS : va_S A s.heap s.heap [] := va_S.rf
  have hl := lv_entry ([.ref a_this, .int l1]) (n := 2) (Nat.le_of_ble_eq_true rfl)
  rw [lg_entry_eq]
  generalize (lg_sl ([.ref a_this, .int l1]) ++ List.replicate (2 - (lg_sl ([.ref a_this, .int l1])).length) Slot.unset).toArray = ls at hl ⊢
  have hl : lv_has ls 2 [(0, .ref a_this), (1, .int l1)] := hl
  unfold f_X1_put at h
  refine lv_aload_n hx hb dX1_put_0 rfl (lv_at hl 0 rfl) ?_
  refine va_get (D := (dC, dI)) (ci := 1) (v := .int v_length) (C := RX1) (T := TX1) (N := 10) hx hb hws inlX1 hown hK hP 0 rfl rfl 1 (by decide) (hws _ ww_43) (fun _ h9 => h9) rfl dX1_put_1 ?_
  refine lv_sipush (v := 400) hx hb dX1_put_4 (by decide) ?_
  refine lv_icmp_ge (tgt := 30) hx hb dX1_put_7 (by decide) (fun c9 => ?_) (fun c9 => ?_)
  · have h := (if_pos c9).symm.trans h
    obtain ⟨h09, h19⟩ := rt2 h
    subst o_length
    subst o_text
    exact W.vret hx hb hr (fun t ht hW => ⟨⟨(), rfl, trivial, by rw [ht]; exact hP, va_K.moved hW.alike hK, hD⟩, hS.F ht⟩) hS.2.2 dX1_put_30
  · have h := (if_neg c9).symm.trans h
    refine lv_aload_n hx hb dX1_put_10 rfl (lv_at hl 0 rfl) ?_
    refine va_get (D := (dC, dI)) (ci := 1) (v := .ref a_text) (C := RX1) (T := TX1) (N := 10) hx hb hws inlX1 hown hK hP 0 rfl rfl 0 (by decide) (hws _ ww_15) (fun _ h9 => h9) rfl dX1_put_11 ?_
    refine lv_aload_n hx hb dX1_put_14 rfl (lv_at hl 0 rfl) ?_
    refine va_get (D := (dC, dI)) (ci := 1) (v := .int v_length) (C := RX1) (T := TX1) (N := 10) hx hb hws inlX1 hown hK hP 0 rfl rfl 1 (by decide) (hws _ ww_43) (fun _ h9 => h9) rfl dX1_put_15 ?_
    refine lv_iload_n hx hb dX1_put_18 rfl (lv_at hl 1 rfl) ?_
    obtain ⟨hi, h⟩ := gd h
    refine va_iast hx hb hK hP hD hS 1 0 rfl rfl hi dX1_put_19 (fun H locs hP hD hS => ?_)
    have hP : va_P (dC, dI) vwCl (wd_X1_put a_this a_text a_number a_rounded a_lowEdge a_highEdge c_text v_length v_digitsStart v_digitsEnd v_unitsAt v_tenPower (upd v_text (Int32.toNatClampNeg v_length) l1)) H := hP
    have hD : va_D A (wd_X1_put a_this a_text a_number a_rounded a_lowEdge a_highEdge c_text v_length v_digitsStart v_digitsEnd v_unitsAt v_tenPower (upd v_text (Int32.toNatClampNeg v_length) l1)) := hD
    refine lv_aload_n hx hb dX1_put_20 rfl (lv_at hl 0 rfl) ?_
    refine lv_dup hx hb dX1_put_21 rfl ?_
    refine va_get (D := (dC, dI)) (ci := 1) (v := .int v_length) (C := RX1) (T := TX1) (N := 10) hx hb hws inlX1 hown hK hP 0 rfl rfl 1 (by decide) (hws _ ww_43) (fun _ h9 => h9) rfl dX1_put_22 ?_
    refine lv_iconst (v := 1) hx hb dX1_put_25 (by decide) ?_
    refine lv_iadd hx hb dX1_put_26 ?_
    refine va_put (D := (dC, dI)) (ci := 1) (v := .int (v_length + 1)) (ty := .int) (C := RX1) (T := TX1) (N := 10) hx hb hws inlX1 tyX1 tyX1_ok nmX1 hown hK hP hD hS 0 rfl rfl 1 (by decide) (hws _ ww_43) (fun _ h9 => h9) rfl (by decide +kernel) rfl rfl (Nat.le_of_ble_eq_true rfl) dX1_put_27 (fun H locs hP hD hS => ?_)
    have hP : va_P (dC, dI) vwCl (wd_X1_put a_this a_text a_number a_rounded a_lowEdge a_highEdge c_text (v_length + 1) v_digitsStart v_digitsEnd v_unitsAt v_tenPower (upd v_text (Int32.toNatClampNeg v_length) l1)) H := hP
    have hD : va_D A (wd_X1_put a_this a_text a_number a_rounded a_lowEdge a_highEdge c_text (v_length + 1) v_digitsStart v_digitsEnd v_unitsAt v_tenPower (upd v_text (Int32.toNatClampNeg v_length) l1)) := hD
    obtain ⟨h09, h19⟩ := rt2 h
    subst o_length
    subst o_text
    exact W.vret hx hb hr (fun t ht hW => ⟨⟨(), rfl, trivial, by rw [ht]; exact hP, va_K.moved hW.alike hK, hD⟩, hS.F ht⟩) hS.2.2 dX1_put_30
