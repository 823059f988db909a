set_option maxHeartbeats 4000000 in
set_option maxRecDepth 100000 in
theorem w_X1_nearestToNumeral_50 (l : Launch) {p : Program} {e : Env} {s : State} {m : MethodId} {args : Array Value} {below : List Frame} {meth : Method} {c : Code} {A : Nat → Prop} {dC : Nat → ClassId} {dI : Nat → Nat → Nat} (a_this a_text a_number a_number_limbs a_rounded a_rounded_limbs a_lowEdge a_highEdge : Nat) (c_text c_number_limbs c_rounded_limbs : ClassId) (hx : p.tables.exec = Jvm.exec) (hb : c.code = cX1_nearestToNumeral) (hr : meth.sig.returnType = (some .long)) (hml : c.maxLocals = 3) (hown : s.vm.findClass RX1 = some m.cls) (hws : ∀ w ∈ wsL_law, w.before args s = true) (hlocks : meth.locks = false) (hA : ∀ q : Nat, s.heap.size ≤ q → A q) {a_TENS : Nat} (hZ_TENS : va_Z "DoubleText$Decimal" "TENS" "[J" (.ref a_TENS) A s s.heap) (hT_TENS : va_T .long a_TENS 9 TENS_v A s s.heap) : ∀ (n : Nat) (l2 : Int32) (v_length : Int32) (v_digitsStart : Int32) (v_digitsEnd : Int32) (v_unitsAt : Int32) (v_tenPower : Int32) (v_text : Nat → Int32) (v_number_first : Int32) (v_number_last : Int32) (v_number_limbs : Nat → Int64) (v_rounded_first : Int32) (v_rounded_last : Int32) (v_rounded_limbs : Nat → Int64) (o_r : Int64) (o_number_first : Int32) (o_number_last : Int32) (o_number_limbs : Nat → Int64) (o_rounded_first : Int32) (o_rounded_last : Int32) (o_rounded_limbs : Nat → Int64), f_X1_nearestToNumeral_L50 n l2 v_digitsStart v_digitsEnd v_unitsAt v_tenPower v_text v_number_first v_number_last v_number_limbs v_rounded_first v_rounded_last v_rounded_limbs = some (o_r, o_number_first, o_number_last, o_number_limbs, o_rounded_first, o_rounded_last, o_rounded_limbs) → ∀ (H : Heap) (locs : List Loc), va_K (dC, dI) vwCl [(c_text, .int), (c_number_limbs, .long), (c_rounded_limbs, .long)] s → va_P (dC, dI) vwCl (wd_X1_nearestToNumeral a_this a_text a_number a_number_limbs a_rounded a_rounded_limbs a_lowEdge a_highEdge c_text c_number_limbs c_rounded_limbs v_length v_digitsStart v_digitsEnd v_unitsAt v_tenPower v_text v_number_first v_number_last v_number_limbs v_rounded_first v_rounded_last v_rounded_limbs) H → va_D A (wd_X1_nearestToNumeral a_this a_text a_number a_number_limbs a_rounded a_rounded_limbs a_lowEdge a_highEdge c_text c_number_limbs c_rounded_limbs v_length v_digitsStart v_digitsEnd v_unitsAt v_tenPower v_text v_number_first v_number_last v_number_limbs v_rounded_first v_rounded_last v_rounded_limbs) → va_S A s.heap H locs → ∀ (ls : Array Slot), lv_has ls 3 [(0, .ref a_this), (2, .int l2)] → W p l e (headSpec (w_X1_nearestToNumeral) ({ frames := 5, cells := 0, slots := 0, locals := 122 } : Room)).room s m args below meth c H locs 0 0 (MQ below (va_Ql (fun r9 (_ : Unit) => r9 = o_r) (fun (_ : Unit) t => va_P (dC, dI) vwCl (wd_X1_nearestToNumeral a_this a_text a_number a_number_limbs a_rounded a_rounded_limbs a_lowEdge a_highEdge c_text c_number_limbs c_rounded_limbs v_length v_digitsStart v_digitsEnd v_unitsAt v_tenPower v_text o_number_first o_number_last o_number_limbs o_rounded_first o_rounded_last o_rounded_limbs) t.heap ∧ va_K (dC, dI) vwCl [(c_text, .int), (c_number_limbs, .long), (c_rounded_limbs, .long)] t ∧ va_D A (wd_X1_nearestToNumeral a_this a_text a_number a_number_limbs a_rounded a_rounded_limbs a_lowEdge a_highEdge c_text c_number_limbs c_rounded_limbs v_length v_digitsStart v_digitsEnd v_unitsAt v_tenPower v_text o_number_first o_number_last o_number_limbs o_rounded_first o_rounded_last o_rounded_limbs)) A) args s 0 0 A) (F0 m 50 ls []) := by
  intro n
  induction n with
  | zero =>
    intro l2 v_length v_digitsStart v_digitsEnd v_unitsAt v_tenPower v_text v_number_first v_number_last v_number_limbs v_rounded_first v_rounded_last v_rounded_limbs o_r o_number_first o_number_last o_number_limbs o_rounded_first o_rounded_last o_rounded_limbs h H locs hK hP hD hS ls hl
    exact absurd h (by simp [f_X1_nearestToNumeral_L50])
  | succ n ih =>
    intro l2 v_length v_digitsStart v_digitsEnd v_unitsAt v_tenPower v_text v_number_first v_number_last v_number_limbs v_rounded_first v_rounded_last v_rounded_limbs o_r o_number_first o_number_last o_number_limbs o_rounded_first o_rounded_last o_rounded_limbs h H locs hK hP hD hS ls hl
    unfold f_X1_nearestToNumeral_L50 at h
    refine lv_iload_n hx hb dX1_nearestToNumeral_50 rfl (lv_at hl 1 rfl) ?_
    refine lv_aload_n hx hb dX1_nearestToNumeral_51 rfl (lv_at hl 0 rfl) ?_
    refine va_get (D := (dC, dI)) (ci := 1) (v := .int v_digitsEnd) (C := RX1) (T := TX1) (N := 10) hx hb hws inlX1 hown hK hP 0 rfl rfl 3 (by decide) (hws _ ww_89) (fun _ h9 => h9) rfl dX1_nearestToNumeral_52 ?_
    refine lv_icmp_ge (tgt := 96) hx hb dX1_nearestToNumeral_55 (by decide) (fun c9 => ?_) (fun c9 => ?_)
    · have h := (if_pos c9).symm.trans h
      refine lv_aload_n hx hb dX1_nearestToNumeral_96 rfl (lv_at hl 0 rfl) ?_
      obtain ⟨⟨r97, v_number_first_97, v_number_last_97, v_number_limbs_97, v_rounded_first_97, v_rounded_last_97, v_rounded_limbs_97⟩, hc, h⟩ := bd h
      dsimp only at h
      have hPc := hP.sub (ws' := (wd_X1_nearestToNumber a_this a_text a_number a_number_limbs a_rounded a_rounded_limbs a_lowEdge a_highEdge c_number_limbs c_rounded_limbs v_length v_digitsStart v_digitsEnd v_unitsAt v_tenPower v_number_first v_number_last v_number_limbs v_rounded_first v_rounded_last v_rounded_limbs)) [0, 2, 3, 4, 5] rfl
      have hDc := hD.sub (ws' := (wd_X1_nearestToNumber a_this a_text a_number a_number_limbs a_rounded a_rounded_limbs a_lowEdge a_highEdge c_number_limbs c_rounded_limbs v_length v_digitsStart v_digitsEnd v_unitsAt v_tenPower v_number_first v_number_last v_number_limbs v_rounded_first v_rounded_last v_rounded_limbs)) [0, 2, 3, 4, 5] (by decide) rfl
      have hKc := hK.sub (tys' := [(c_number_limbs, .long), (c_rounded_limbs, .long)]) [1, 2] rfl
      have hFc := va_free (wc := (wd_X1_nearestToNumber a_this a_text a_number a_number_limbs a_rounded a_rounded_limbs a_lowEdge a_highEdge c_number_limbs c_rounded_limbs v_length v_digitsStart v_digitsEnd v_unitsAt v_tenPower v_number_first v_number_last v_number_limbs v_rounded_first v_rounded_last v_rounded_limbs)) hD hS hA [0, 2, 3, 4, 5] rfl
      refine va_calll (va_runV (As := []) (rest := []) ⟨hx, hb, hml, hown, hws⟩ (c_X1_nearestToNumber l dC dI a_TENS a_this a_text a_number a_number_limbs a_rounded a_rounded_limbs a_lowEdge a_highEdge c_number_limbs c_rounded_limbs (Array.size H)  v_length v_digitsStart v_digitsEnd v_unitsAt v_tenPower v_number_first v_number_last v_number_limbs v_rounded_first v_rounded_last v_rounded_limbs r97 v_number_first_97 v_number_last_97 v_number_limbs_97 v_rounded_first_97 v_rounded_last_97 v_rounded_limbs_97 hc) (cwV 0 hws (gV ww_146 ww_147 ww_148 ww_2 ww_149) rfl rfl rfl (by decide +kernel) ⟨Nat.le_of_ble_eq_true rfl, Nat.le_of_ble_eq_true rfl⟩) ⟨(fun a U g mk q => by obtain ⟨q0, q1, qP, qK, qD, qhZ_TENS, qhT_TENS⟩ := q; exact ⟨q0, q1, qP, va_K.moved (u := U) (U := U.calling g mk a) (Vm.Alike.refl U.vm) qK, qD, qhZ_TENS.moved (u := U) (U := U.calling g mk a) (Vm.Alike.refl U.vm), qhT_TENS.moved (u := U) (U := U.calling g mk a) (Vm.Alike.refl U.vm)⟩), va_recv hKc hPc (ci := 1) (q0 := 0) rfl rfl, (fun U hU hW => ⟨rfl, by rw [hU], by rw [hU]; exact hPc, va_K.moved hW.alike hKc, hDc.weaken (fun _ _ _ _ => trivial), by rw [hU]; exact ((hZ_TENS.kept (fun q h1 h2 => hS.2.1 q h1 h2)).narrow hFc).moved hW.alike, by rw [hU]; exact ((hT_TENS.kept (fun q h1 h2 => hS.2.1 q h1 h2)).narrow hFc).moved hW.alike⟩)⟩ rfl rfl hl.1 rfl (lv_room (Nat.le_of_ble_eq_true rfl)) dX1_nearestToNumeral_97 ⟨Nat.zero_le _, Nat.zero_le _⟩) hS (fun q _ h => hFc q h) hFc (fun r9 u9 t H1 locs ht hvm hw hB hz1 hk1 hS => ?_)
      obtain ⟨hP1, hK1, hD1⟩ := hB
      rw [ht] at hP1
      subst r9
      obtain ⟨hP, hD⟩ := va_join (wr := [(a_text, .inl (c_text, 400, .inl v_text))]) (w1 := (wd_X1_nearestToNumber a_this a_text a_number a_number_limbs a_rounded a_rounded_limbs a_lowEdge a_highEdge c_number_limbs c_rounded_limbs v_length v_digitsStart v_digitsEnd v_unitsAt v_tenPower v_number_first_97 v_number_last_97 v_number_limbs_97 v_rounded_first_97 v_rounded_last_97 v_rounded_limbs_97)) hP hD [0, 2, 3, 4, 5] [1] rfl rfl (by decide) (by decide) hk1 hFc hP1 hD1
      generalize H1 = H at hP hS ⊢
      have hP : va_P (dC, dI) vwCl (wd_X1_nearestToNumeral a_this a_text a_number a_number_limbs a_rounded a_rounded_limbs a_lowEdge a_highEdge c_text c_number_limbs c_rounded_limbs v_length v_digitsStart v_digitsEnd v_unitsAt v_tenPower v_text v_number_first_97 v_number_last_97 v_number_limbs_97 v_rounded_first_97 v_rounded_last_97 v_rounded_limbs_97) H := hP.sub [1, 0, 2, 3, 4, 5] rfl
      have hD : va_D A (wd_X1_nearestToNumeral a_this a_text a_number a_number_limbs a_rounded a_rounded_limbs a_lowEdge a_highEdge c_text c_number_limbs c_rounded_limbs v_length v_digitsStart v_digitsEnd v_unitsAt v_tenPower v_text v_number_first_97 v_number_last_97 v_number_limbs_97 v_rounded_first_97 v_rounded_last_97 v_rounded_limbs_97) := hD.sub [1, 0, 2, 3, 4, 5] (by decide) rfl
      clear hP1 hK1 hD1 hPc hDc hKc hFc hk1 hz1 ht hvm
      obtain ⟨h09, h19, h29, h39, h49, h59, h69⟩ := rt7 h
      subst o_r
      subst o_number_first
      subst o_number_last
      subst o_number_limbs
      subst o_rounded_first
      subst o_rounded_last
      subst o_rounded_limbs
      exact W.lret hx hb hr (fun t ht hW => ⟨⟨_, (), rfl, rfl, by rw [ht]; exact hP, va_K.moved hW.alike hK, hD⟩, hS.F ht⟩) hS.2.2 dX1_nearestToNumeral_100
    · have h := (if_neg c9).symm.trans h
      refine lv_aload_n hx hb dX1_nearestToNumeral_58 rfl (lv_at hl 0 rfl) ?_
      refine va_get (D := (dC, dI)) (ci := 1) (v := .ref a_text) (C := RX1) (T := TX1) (N := 10) hx hb hws inlX1 hown hK hP 0 rfl rfl 0 (by decide) (hws _ ww_15) (fun _ h9 => h9) rfl dX1_nearestToNumeral_59 ?_
      refine lv_iload_n hx hb dX1_nearestToNumeral_62 rfl (lv_at hl 1 rfl) ?_
      obtain ⟨hi, h⟩ := gd h
      refine va_iald hx hb hK hP 1 0 rfl rfl hi dX1_nearestToNumeral_63 ?_
      refine lv_bipush (v := 46) hx hb dX1_nearestToNumeral_64 (by decide) ?_
      refine lv_icmp_eq (tgt := 90) hx hb dX1_nearestToNumeral_66 (by decide) (fun c9 => ?_) (fun c9 => ?_)
      · have h := (if_pos c9).symm.trans h
        refine lv_iinc (v := (l2 + 1)) (lv' := [(2, .int (l2 + 1)), (0, .ref a_this)]) hx hb dX1_nearestToNumeral_90 hl (k := 1) rfl rfl (by decide) rfl (fun ls hl => ?_)
        refine lv_goto (tgt := 50) hx hb dX1_nearestToNumeral_93 (by decide) ?_
        exact ih (l2 + 1) v_length v_digitsStart v_digitsEnd v_unitsAt v_tenPower v_text v_number_first v_number_last v_number_limbs v_rounded_first v_rounded_last v_rounded_limbs o_r o_number_first o_number_last o_number_limbs o_rounded_first o_rounded_last o_rounded_limbs h H locs hK hP hD hS ls (lv_sub hl [1, 0] rfl)
      · have h := (if_neg c9).symm.trans h
        refine lv_aload_n hx hb dX1_nearestToNumeral_69 rfl (lv_at hl 0 rfl) ?_
        refine va_get (D := (dC, dI)) (ci := 1) (v := .ref a_number) (C := RX1) (T := TX1) (N := 10) hx hb hws inlX1 hown hK hP 0 rfl rfl 6 (by decide) (hws _ ww_19) (fun _ h9 => h9) rfl dX1_nearestToNumeral_70 ?_
        refine lv_aload_n hx hb dX1_nearestToNumeral_73 rfl (lv_at hl 0 rfl) ?_
        refine lv_iload_n hx hb dX1_nearestToNumeral_74 rfl (lv_at hl 1 rfl) ?_
        obtain ⟨r75, hc, h⟩ := bd h
        have hPc := hP.sub (ws' := (wd_X1_placeOf a_this a_text a_number a_rounded a_lowEdge a_highEdge v_length v_digitsStart v_digitsEnd v_unitsAt v_tenPower)) [0] rfl
        have hDc := hD.sub (ws' := (wd_X1_placeOf a_this a_text a_number a_rounded a_lowEdge a_highEdge v_length v_digitsStart v_digitsEnd v_unitsAt v_tenPower)) [0] (by decide) rfl
        have hKc := hK.sub (tys' := []) [] rfl
        have hFc := va_free (wc := (wd_X1_placeOf a_this a_text a_number a_rounded a_lowEdge a_highEdge v_length v_digitsStart v_digitsEnd v_unitsAt v_tenPower)) hD hS hA [0] rfl
        refine va_calli (va_runV (As := [.int l2]) (rest := [.ref a_number]) ⟨hx, hb, hml, hown, hws⟩ (c_X1_placeOf l dC dI  a_this a_text a_number a_rounded a_lowEdge a_highEdge (Array.size H) l2 v_length v_digitsStart v_digitsEnd v_unitsAt v_tenPower r75 hc) (cwV 1 hws (gV ww_113 ww_114 ww_115 ww_2 ww_116) rfl rfl rfl (by decide +kernel) ⟨Nat.le_of_ble_eq_true rfl, Nat.le_of_ble_eq_true rfl⟩) ⟨(fun a U g mk q => by obtain ⟨q0, q1, qP, qK, qD⟩ := q; exact ⟨q0, q1, qP, va_K.moved (u := U) (U := U.calling g mk a) (Vm.Alike.refl U.vm) qK, qD⟩), va_recv hKc hPc (ci := 1) (q0 := 0) rfl rfl, (fun U hU hW => ⟨rfl, by rw [hU], by rw [hU]; exact hPc, va_K.moved hW.alike hKc, hDc.weaken (fun _ _ _ _ => trivial)⟩)⟩ rfl rfl hl.1 rfl (lv_room (Nat.le_of_ble_eq_true rfl)) dX1_nearestToNumeral_75 ⟨Nat.zero_le _, Nat.zero_le _⟩) hS (fun q _ h => hFc q h) hFc (fun r9 u9 t H1 locs ht hvm hw hB hz1 hk1 hS => ?_)
        obtain ⟨hP1, hK1, hD1⟩ := hB
        rw [ht] at hP1
        subst r9
        obtain ⟨hP, hD⟩ := va_join (wr := [(a_text, .inl (c_text, 400, .inl v_text)), (a_number, .inr (0, [.ref a_number_limbs, .int v_number_first, .int v_number_last])), (a_number_limbs, .inl (c_number_limbs, 160, .inr (.inl v_number_limbs))), (a_rounded, .inr (0, [.ref a_rounded_limbs, .int v_rounded_first, .int v_rounded_last])), (a_rounded_limbs, .inl (c_rounded_limbs, 160, .inr (.inl v_rounded_limbs)))]) (w1 := (wd_X1_placeOf a_this a_text a_number a_rounded a_lowEdge a_highEdge v_length v_digitsStart v_digitsEnd v_unitsAt v_tenPower)) hP hD [0] [1, 2, 3, 4, 5] rfl rfl (by decide) (by decide) hk1 hFc hP1 hD1
        generalize H1 = H at hP hS ⊢
        have hP : va_P (dC, dI) vwCl (wd_X1_nearestToNumeral a_this a_text a_number a_number_limbs a_rounded a_rounded_limbs a_lowEdge a_highEdge c_text c_number_limbs c_rounded_limbs v_length v_digitsStart v_digitsEnd v_unitsAt v_tenPower v_text v_number_first v_number_last v_number_limbs v_rounded_first v_rounded_last v_rounded_limbs) H := hP.sub [5, 0, 1, 2, 3, 4] rfl
        have hD : va_D A (wd_X1_nearestToNumeral a_this a_text a_number a_number_limbs a_rounded a_rounded_limbs a_lowEdge a_highEdge c_text c_number_limbs c_rounded_limbs v_length v_digitsStart v_digitsEnd v_unitsAt v_tenPower v_text v_number_first v_number_last v_number_limbs v_rounded_first v_rounded_last v_rounded_limbs) := hD.sub [5, 0, 1, 2, 3, 4] (by decide) rfl
        clear hP1 hK1 hD1 hPc hDc hKc hFc hk1 hz1 ht hvm
        refine lv_aload_n hx hb dX1_nearestToNumeral_78 rfl (lv_at hl 0 rfl) ?_
        refine va_get (D := (dC, dI)) (ci := 1) (v := .ref a_text) (C := RX1) (T := TX1) (N := 10) hx hb hws inlX1 hown hK hP 0 rfl rfl 0 (by decide) (hws _ ww_15) (fun _ h9 => h9) rfl dX1_nearestToNumeral_79 ?_
        refine lv_iload_n hx hb dX1_nearestToNumeral_82 rfl (lv_at hl 1 rfl) ?_
        obtain ⟨hi, h⟩ := gd h
        refine va_iald hx hb hK hP 1 0 rfl rfl hi dX1_nearestToNumeral_83 ?_
        refine lv_bipush (v := 48) hx hb dX1_nearestToNumeral_84 (by decide) ?_
        refine lv_isub hx hb dX1_nearestToNumeral_86 ?_
        obtain ⟨⟨v_number_first_87, v_number_last_87, v_number_limbs_87⟩, hc, h⟩ := bd h
        dsimp only at h
        have hPc := hP.sub (ws' := (wd_X0_setDigit a_number a_number_limbs c_number_limbs v_number_first v_number_last v_number_limbs)) [2, 3] rfl
        have hDc := hD.sub (ws' := (wd_X0_setDigit a_number a_number_limbs c_number_limbs v_number_first v_number_last v_number_limbs)) [2, 3] (by decide) rfl
        have hKc := hK.sub (tys' := [(c_number_limbs, .long)]) [1] rfl
        have hFc := va_free (wc := (wd_X0_setDigit a_number a_number_limbs c_number_limbs v_number_first v_number_last v_number_limbs)) hD hS hA [2, 3] rfl
        refine va_callv (va_runV (As := [.int r75, .int ((v_text (Int32.toNatClampNeg l2)) - 48)]) (rest := []) ⟨hx, hb, hml, hown, hws⟩ (c_X0_setDigit l dC dI a_TENS a_number a_number_limbs c_number_limbs (Array.size H) r75 ((v_text (Int32.toNatClampNeg l2)) - 48) v_number_first v_number_last v_number_limbs v_number_first_87 v_number_last_87 v_number_limbs_87 hc) (cwV 2 hws (gV ww_121 ww_122 ww_123 ww_18 ww_124) rfl rfl rfl (by decide +kernel) ⟨Nat.le_of_ble_eq_true rfl, Nat.le_of_ble_eq_true rfl⟩) ⟨(fun a U g mk q => by obtain ⟨q0, q1, qP, qK, qD, qhZ_TENS, qhT_TENS⟩ := q; exact ⟨q0, q1, qP, va_K.moved (u := U) (U := U.calling g mk a) (Vm.Alike.refl U.vm) qK, qD, qhZ_TENS.moved (u := U) (U := U.calling g mk a) (Vm.Alike.refl U.vm), qhT_TENS.moved (u := U) (U := U.calling g mk a) (Vm.Alike.refl U.vm)⟩), va_recv hKc hPc (ci := 0) (q0 := 0) rfl rfl, (fun U hU hW => ⟨rfl, by rw [hU], by rw [hU]; exact hPc, va_K.moved hW.alike hKc, hDc.weaken (fun _ _ _ _ => trivial), by rw [hU]; exact ((hZ_TENS.kept (fun q h1 h2 => hS.2.1 q h1 h2)).narrow hFc).moved hW.alike, by rw [hU]; exact ((hT_TENS.kept (fun q h1 h2 => hS.2.1 q h1 h2)).narrow hFc).moved hW.alike⟩)⟩ rfl rfl hl.1 rfl (lv_room (Nat.le_of_ble_eq_true rfl)) dX1_nearestToNumeral_87 ⟨Nat.zero_le _, Nat.zero_le _⟩) hS (fun q _ h => hFc q h) hFc (fun u9 t H1 locs ht hvm hw hB hz1 hk1 hS => ?_)
        obtain ⟨hP1, hK1, hD1⟩ := hB
        rw [ht] at hP1
        obtain ⟨hP, hD⟩ := va_join (wr := [(a_this, .inr (1, [.ref a_text, .int v_length, .int v_digitsStart, .int v_digitsEnd, .int v_unitsAt, .int v_tenPower, .ref a_number, .ref a_rounded, .ref a_lowEdge, .ref a_highEdge])), (a_text, .inl (c_text, 400, .inl v_text)), (a_rounded, .inr (0, [.ref a_rounded_limbs, .int v_rounded_first, .int v_rounded_last])), (a_rounded_limbs, .inl (c_rounded_limbs, 160, .inr (.inl v_rounded_limbs)))]) (w1 := (wd_X0_setDigit a_number a_number_limbs c_number_limbs v_number_first_87 v_number_last_87 v_number_limbs_87)) hP hD [2, 3] [0, 1, 4, 5] rfl rfl (by decide) (by decide) hk1 hFc hP1 hD1
        generalize H1 = H at hP hS ⊢
        have hP : va_P (dC, dI) vwCl (wd_X1_nearestToNumeral a_this a_text a_number a_number_limbs a_rounded a_rounded_limbs a_lowEdge a_highEdge c_text c_number_limbs c_rounded_limbs v_length v_digitsStart v_digitsEnd v_unitsAt v_tenPower v_text v_number_first_87 v_number_last_87 v_number_limbs_87 v_rounded_first v_rounded_last v_rounded_limbs) H := hP.sub [0, 1, 4, 5, 2, 3] rfl
        have hD : va_D A (wd_X1_nearestToNumeral a_this a_text a_number a_number_limbs a_rounded a_rounded_limbs a_lowEdge a_highEdge c_text c_number_limbs c_rounded_limbs v_length v_digitsStart v_digitsEnd v_unitsAt v_tenPower v_text v_number_first_87 v_number_last_87 v_number_limbs_87 v_rounded_first v_rounded_last v_rounded_limbs) := hD.sub [0, 1, 4, 5, 2, 3] (by decide) rfl
        clear hP1 hK1 hD1 hPc hDc hKc hFc hk1 hz1 ht hvm
        refine lv_iinc (v := (l2 + 1)) (lv' := [(2, .int (l2 + 1)), (0, .ref a_this)]) hx hb dX1_nearestToNumeral_90 hl (k := 1) rfl rfl (by decide) rfl (fun ls hl => ?_)
        refine lv_goto (tgt := 50) hx hb dX1_nearestToNumeral_93 (by decide) ?_
        exact ih (l2 + 1) v_length v_digitsStart v_digitsEnd v_unitsAt v_tenPower v_text v_number_first_87 v_number_last_87 v_number_limbs_87 v_rounded_first v_rounded_last v_rounded_limbs o_r o_number_first o_number_last o_number_limbs o_rounded_first o_rounded_last o_rounded_limbs h H locs hK hP hD hS ls (lv_sub hl [1, 0] rfl)
set_option maxHeartbeats 4000000 in
set_option maxRecDepth 100000 in
theorem c_X1_nearestToNumeral (l : Launch) (dC : Nat → ClassId) (dI : Nat → Nat → Nat) (a_TENS : Nat) (a_this a_text a_number a_number_limbs a_rounded a_rounded_limbs a_lowEdge a_highEdge : Nat) (c_text c_number_limbs c_rounded_limbs : ClassId) (sz : Nat)  (v_length : Int32) (v_digitsStart : Int32) (v_digitsEnd : Int32) (v_unitsAt : Int32) (v_tenPower : Int32) (v_text : Nat → Int32) (v_number_first : Int32) (v_number_last : Int32) (v_number_limbs : Nat → Int64) (v_rounded_first : Int32) (v_rounded_last : Int32) (v_rounded_limbs : Nat → Int64) (o_r : Int64) (o_number_first : Int32) (o_number_last : Int32) (o_number_limbs : Nat → Int64) (o_rounded_first : Int32) (o_rounded_last : Int32) (o_rounded_limbs : Nat → Int64) (h : f_X1_nearestToNumeral v_digitsStart v_digitsEnd v_unitsAt v_tenPower v_text v_number_first v_number_last v_number_limbs v_rounded_first v_rounded_last v_rounded_limbs = some (o_r, o_number_first, o_number_last, o_number_limbs, o_rounded_first, o_rounded_last, o_rounded_limbs)) : Met l yX1_nearestToNumeral w_X1_nearestToNumeral ({ frames := 5, cells := 0, slots := 0, locals := 122 } : Room) (va_Pc [.ref a_this] (fun U => U.heap.size = sz ∧ va_P (dC, dI) vwCl (wd_X1_nearestToNumeral a_this a_text a_number a_number_limbs a_rounded a_rounded_limbs a_lowEdge a_highEdge c_text c_number_limbs c_rounded_limbs v_length v_digitsStart v_digitsEnd v_unitsAt v_tenPower v_text v_number_first v_number_last v_number_limbs v_rounded_first v_rounded_last v_rounded_limbs) U.heap ∧ va_K (dC, dI) vwCl [(c_text, .int), (c_number_limbs, .long), (c_rounded_limbs, .long)] U ∧ va_D (fun _ => True) (wd_X1_nearestToNumeral a_this a_text a_number a_number_limbs a_rounded a_rounded_limbs a_lowEdge a_highEdge c_text c_number_limbs c_rounded_limbs v_length v_digitsStart v_digitsEnd v_unitsAt v_tenPower v_text v_number_first v_number_last v_number_limbs v_rounded_first v_rounded_last v_rounded_limbs) ∧ va_Z "DoubleText$Decimal" "TENS" "[J" (.ref a_TENS) (va_A (wd_X1_nearestToNumeral a_this a_text a_number a_number_limbs a_rounded a_rounded_limbs a_lowEdge a_highEdge c_text c_number_limbs c_rounded_limbs v_length v_digitsStart v_digitsEnd v_unitsAt v_tenPower v_text v_number_first v_number_last v_number_limbs v_rounded_first v_rounded_last v_rounded_limbs) sz) U U.heap ∧ va_T .long a_TENS 9 TENS_v (va_A (wd_X1_nearestToNumeral a_this a_text a_number a_number_limbs a_rounded a_rounded_limbs a_lowEdge a_highEdge c_text c_number_limbs c_rounded_limbs v_length v_digitsStart v_digitsEnd v_unitsAt v_tenPower v_text v_number_first v_number_last v_number_limbs v_rounded_first v_rounded_last v_rounded_limbs) sz) U U.heap)) (va_Ql (fun r9 (_ : Unit) => r9 = o_r) (fun (_ : Unit) t => va_P (dC, dI) vwCl (wd_X1_nearestToNumeral a_this a_text a_number a_number_limbs a_rounded a_rounded_limbs a_lowEdge a_highEdge c_text c_number_limbs c_rounded_limbs v_length v_digitsStart v_digitsEnd v_unitsAt v_tenPower v_text o_number_first o_number_last o_number_limbs o_rounded_first o_rounded_last o_rounded_limbs) t.heap ∧ va_K (dC, dI) vwCl [(c_text, .int), (c_number_limbs, .long), (c_rounded_limbs, .long)] t ∧ va_D (va_A (wd_X1_nearestToNumeral a_this a_text a_number a_number_limbs a_rounded a_rounded_limbs a_lowEdge a_highEdge c_text c_number_limbs c_rounded_limbs v_length v_digitsStart v_digitsEnd v_unitsAt v_tenPower v_text v_number_first v_number_last v_number_limbs v_rounded_first v_rounded_last v_rounded_limbs) sz) (wd_X1_nearestToNumeral a_this a_text a_number a_number_limbs a_rounded a_rounded_limbs a_lowEdge a_highEdge c_text c_number_limbs c_rounded_limbs v_length v_digitsStart v_digitsEnd v_unitsAt v_tenPower v_text o_number_first o_number_last o_number_limbs o_rounded_first o_rounded_last o_rounded_limbs)) (va_A (wd_X1_nearestToNumeral a_this a_text a_number a_number_limbs a_rounded a_rounded_limbs a_lowEdge a_highEdge c_text c_number_limbs c_rounded_limbs v_length v_digitsStart v_digitsEnd v_unitsAt v_tenPower v_text v_number_first v_number_last v_number_limbs v_rounded_first v_rounded_last v_rounded_limbs) sz)) 0 0 (va_A (wd_X1_nearestToNumeral a_this a_text a_number a_number_limbs a_rounded a_rounded_limbs a_lowEdge a_highEdge c_text c_number_limbs c_rounded_limbs v_length v_digitsStart v_digitsEnd v_unitsAt v_tenPower v_text v_number_first v_number_last v_number_limbs v_rounded_first v_rounded_last v_rounded_limbs) sz) := by
  refine Met.ofW (cc := cX1_nearestToNumeral) (maxL := 3) (ret := (some .long)) (by decide) rfl ?_
  intro p e s m args below meth c s₁ B hml hv
  obtain ⟨rfl, hsz, hP, hK, hD0, hZ_TENS, hT_TENS⟩ := hv
  have hx := B.exec
  have hb := B.bytes
  have hr := B.returns
  have hws : ∀ w ∈ wsL_law, w.before _ s = true := fun w hw => atoms_spec (ws := w_X1_nearestToNumeral) B.pre w (List.mem_cons_of_mem _ hw)
  have hown : s.vm.findClass RX1 = some m.cls := findClass_of_methodNamed B.named
  have hlocks := B.notSynchronized
  subst hsz
  have hD := hD0.self (sz := s.heap.size)
  generalize hAe : va_A (wd_X1_nearestToNumeral a_this a_text a_number a_number_limbs a_rounded a_rounded_limbs a_lowEdge a_highEdge c_text c_number_limbs c_rounded_limbs v_length v_digitsStart v_digitsEnd v_unitsAt v_tenPower v_text v_number_first v_number_last v_number_limbs v_rounded_first v_rounded_last v_rounded_limbs) s.heap.size = A at hD hZ_TENS hT_TENS ⊢
  have hA : ∀ q : Nat, s.heap.size ≤ q → A q := fun q h => by rw [← hAe]; exact Or.inr h
  have hS : va_S A s.heap s.heap [] := va_S.rf
  have hl := lv_entry ([.ref a_this]) (n := 3) (Nat.le_of_ble_eq_true rfl)
  rw [lg_entry_eq]
  generalize (lg_sl ([.ref a_this]) ++ List.replicate (3 - (lg_sl ([.ref a_this])).length) Slot.unset).toArray = ls at hl ⊢
  have hl : lv_has ls 3 [(0, .ref a_this)] := hl
  unfold f_X1_nearestToNumeral at h
  refine lv_aload_n hx hb dX1_nearestToNumeral_0 rfl (lv_at hl 0 rfl) ?_
  obtain ⟨r1, hc, h⟩ := bd h
  have hPc := hP.sub (ws' := (wd_X1_leadingDigit a_this a_text a_number a_rounded a_lowEdge a_highEdge c_text v_length v_digitsStart v_digitsEnd v_unitsAt v_tenPower v_text)) [0, 1] rfl
  have hDc := hD.sub (ws' := (wd_X1_leadingDigit a_this a_text a_number a_rounded a_lowEdge a_highEdge c_text v_length v_digitsStart v_digitsEnd v_unitsAt v_tenPower v_text)) [0, 1] (by decide) rfl
  have hKc := hK.sub (tys' := [(c_text, .int)]) [0] rfl
  have hFc := va_free (wc := (wd_X1_leadingDigit a_this a_text a_number a_rounded a_lowEdge a_highEdge c_text v_length v_digitsStart v_digitsEnd v_unitsAt v_tenPower v_text)) hD hS hA [0, 1] rfl
  refine va_calli (va_runV (As := []) (rest := []) ⟨hx, hb, hml, hown, hws⟩ (c_X1_leadingDigit l dC dI  a_this a_text a_number a_rounded a_lowEdge a_highEdge c_text (Array.size s.heap)  v_length v_digitsStart v_digitsEnd v_unitsAt v_tenPower v_text r1 hc) (cwV 0 hws (gV ww_109 ww_110 ww_111 ww_2 ww_112) rfl rfl rfl (by decide +kernel) ⟨Nat.le_of_ble_eq_true rfl, Nat.le_of_ble_eq_true rfl⟩) ⟨(fun a U g mk q => by obtain ⟨q0, q1, qP, qK, qD⟩ := q; exact ⟨q0, q1, qP, va_K.moved (u := U) (U := U.calling g mk a) (Vm.Alike.refl U.vm) qK, qD⟩), va_recv hKc hPc (ci := 1) (q0 := 0) rfl rfl, (fun U hU hW => ⟨rfl, by rw [hU], by rw [hU]; exact hPc, va_K.moved hW.alike hKc, hDc.weaken (fun _ _ _ _ => trivial)⟩)⟩ rfl rfl hl.1 rfl (lv_room (Nat.le_of_ble_eq_true rfl)) dX1_nearestToNumeral_1 ⟨Nat.zero_le _, Nat.zero_le _⟩) hS (fun q _ h => hFc q h) hFc (fun r9 u9 t H1 locs ht hvm hw hB hz1 hk1 hS => ?_)
  obtain ⟨hP1, hK1, hD1⟩ := hB
  rw [ht] at hP1
  subst r9
  obtain ⟨hP, hD⟩ := va_join (wr := [(a_number, .inr (0, [.ref a_number_limbs, .int v_number_first, .int v_number_last])), (a_number_limbs, .inl (c_number_limbs, 160, .inr (.inl v_number_limbs))), (a_rounded, .inr (0, [.ref a_rounded_limbs, .int v_rounded_first, .int v_rounded_last])), (a_rounded_limbs, .inl (c_rounded_limbs, 160, .inr (.inl v_rounded_limbs)))]) (w1 := (wd_X1_leadingDigit a_this a_text a_number a_rounded a_lowEdge a_highEdge c_text v_length v_digitsStart v_digitsEnd v_unitsAt v_tenPower v_text)) hP hD [0, 1] [2, 3, 4, 5] rfl rfl (by decide) (by decide) hk1 hFc hP1 hD1
  generalize H1 = H at hP hS ⊢
  have hP : va_P (dC, dI) vwCl (wd_X1_nearestToNumeral a_this a_text a_number a_number_limbs a_rounded a_rounded_limbs a_lowEdge a_highEdge c_text c_number_limbs c_rounded_limbs v_length v_digitsStart v_digitsEnd v_unitsAt v_tenPower v_text v_number_first v_number_last v_number_limbs v_rounded_first v_rounded_last v_rounded_limbs) H := hP.sub [4, 5, 0, 1, 2, 3] rfl
  have hD : va_D A (wd_X1_nearestToNumeral a_this a_text a_number a_number_limbs a_rounded a_rounded_limbs a_lowEdge a_highEdge c_text c_number_limbs c_rounded_limbs v_length v_digitsStart v_digitsEnd v_unitsAt v_tenPower v_text v_number_first v_number_last v_number_limbs v_rounded_first v_rounded_last v_rounded_limbs) := hD.sub [4, 5, 0, 1, 2, 3] (by decide) rfl
  clear hP1 hK1 hD1 hPc hDc hKc hFc hk1 hz1 ht hvm
  refine lv_istore_n (lv' := [(1, .int r1), (0, .ref a_this)]) hx hb dX1_nearestToNumeral_4 rfl hl (by decide) rfl (fun ls hl => ?_)
  refine lv_iload_n hx hb dX1_nearestToNumeral_5 rfl (lv_at hl 0 rfl) ?_
  refine lv_aload_n hx hb dX1_nearestToNumeral_6 rfl (lv_at hl 1 rfl) ?_
  refine va_get (D := (dC, dI)) (ci := 1) (v := .int v_digitsEnd) (C := RX1) (T := TX1) (N := 10) hx hb hws inlX1 hown hK hP 0 rfl rfl 3 (by decide) (hws _ ww_89) (fun _ h9 => h9) rfl dX1_nearestToNumeral_7 ?_
  refine lv_icmp_eq (tgt := 24) hx hb dX1_nearestToNumeral_10 (by decide) (fun c9 => ?_) (fun c9 => ?_)
  · have h := (if_pos c9).symm.trans h
    refine lv_lconst (v := 0) hx hb dX1_nearestToNumeral_24 (by decide) ?_
    obtain ⟨h09, h19, h29, h39, h49, h59, h69⟩ := rt7 h
    subst o_r
    subst o_number_first
    subst o_number_last
    subst o_number_limbs
    subst o_rounded_first
    subst o_rounded_last
    subst o_rounded_limbs
    exact W.lret hx hb hr (fun t ht hW => ⟨⟨_, (), rfl, rfl, by rw [ht]; exact hP, va_K.moved hW.alike hK, hD⟩, hS.F ht⟩) hS.2.2 dX1_nearestToNumeral_25
  · have h := (if_neg c9).symm.trans h
    refine lv_aload_n hx hb dX1_nearestToNumeral_13 rfl (lv_at hl 1 rfl) ?_
    refine lv_iload_n hx hb dX1_nearestToNumeral_14 rfl (lv_at hl 0 rfl) ?_
    obtain ⟨r15, hc, h⟩ := bd h
    have hPc := hP.sub (ws' := (wd_X1_placeOf a_this a_text a_number a_rounded a_lowEdge a_highEdge v_length v_digitsStart v_digitsEnd v_unitsAt v_tenPower)) [0] rfl
    have hDc := hD.sub (ws' := (wd_X1_placeOf a_this a_text a_number a_rounded a_lowEdge a_highEdge v_length v_digitsStart v_digitsEnd v_unitsAt v_tenPower)) [0] (by decide) rfl
    have hKc := hK.sub (tys' := []) [] rfl
    have hFc := va_free (wc := (wd_X1_placeOf a_this a_text a_number a_rounded a_lowEdge a_highEdge v_length v_digitsStart v_digitsEnd v_unitsAt v_tenPower)) hD hS hA [0] rfl
    refine va_calli (va_runV (As := [.int r1]) (rest := []) ⟨hx, hb, hml, hown, hws⟩ (c_X1_placeOf l dC dI  a_this a_text a_number a_rounded a_lowEdge a_highEdge (Array.size H) r1 v_length v_digitsStart v_digitsEnd v_unitsAt v_tenPower r15 hc) (cwV 1 hws (gV ww_113 ww_114 ww_115 ww_2 ww_116) rfl rfl rfl (by decide +kernel) ⟨Nat.le_of_ble_eq_true rfl, Nat.le_of_ble_eq_true rfl⟩) ⟨(fun a U g mk q => by obtain ⟨q0, q1, qP, qK, qD⟩ := q; exact ⟨q0, q1, qP, va_K.moved (u := U) (U := U.calling g mk a) (Vm.Alike.refl U.vm) qK, qD⟩), va_recv hKc hPc (ci := 1) (q0 := 0) rfl rfl, (fun U hU hW => ⟨rfl, by rw [hU], by rw [hU]; exact hPc, va_K.moved hW.alike hKc, hDc.weaken (fun _ _ _ _ => trivial)⟩)⟩ rfl rfl hl.1 rfl (lv_room (Nat.le_of_ble_eq_true rfl)) dX1_nearestToNumeral_15 ⟨Nat.zero_le _, Nat.zero_le _⟩) hS (fun q _ h => hFc q h) hFc (fun r9 u9 t H1 locs ht hvm hw hB hz1 hk1 hS => ?_)
    obtain ⟨hP1, hK1, hD1⟩ := hB
    rw [ht] at hP1
    subst r9
    obtain ⟨hP, hD⟩ := va_join (wr := [(a_text, .inl (c_text, 400, .inl v_text)), (a_number, .inr (0, [.ref a_number_limbs, .int v_number_first, .int v_number_last])), (a_number_limbs, .inl (c_number_limbs, 160, .inr (.inl v_number_limbs))), (a_rounded, .inr (0, [.ref a_rounded_limbs, .int v_rounded_first, .int v_rounded_last])), (a_rounded_limbs, .inl (c_rounded_limbs, 160, .inr (.inl v_rounded_limbs)))]) (w1 := (wd_X1_placeOf a_this a_text a_number a_rounded a_lowEdge a_highEdge v_length v_digitsStart v_digitsEnd v_unitsAt v_tenPower)) hP hD [0] [1, 2, 3, 4, 5] rfl rfl (by decide) (by decide) hk1 hFc hP1 hD1
    generalize H1 = H at hP hS ⊢
    have hP : va_P (dC, dI) vwCl (wd_X1_nearestToNumeral a_this a_text a_number a_number_limbs a_rounded a_rounded_limbs a_lowEdge a_highEdge c_text c_number_limbs c_rounded_limbs v_length v_digitsStart v_digitsEnd v_unitsAt v_tenPower v_text v_number_first v_number_last v_number_limbs v_rounded_first v_rounded_last v_rounded_limbs) H := hP.sub [5, 0, 1, 2, 3, 4] rfl
    have hD : va_D A (wd_X1_nearestToNumeral a_this a_text a_number a_number_limbs a_rounded a_rounded_limbs a_lowEdge a_highEdge c_text c_number_limbs c_rounded_limbs v_length v_digitsStart v_digitsEnd v_unitsAt v_tenPower v_text v_number_first v_number_last v_number_limbs v_rounded_first v_rounded_last v_rounded_limbs) := hD.sub [5, 0, 1, 2, 3, 4] (by decide) rfl
    clear hP1 hK1 hD1 hPc hDc hKc hFc hk1 hz1 ht hvm
    refine lv_sipush (v := (-324)) hx hb dX1_nearestToNumeral_18 (by decide) ?_
    refine lv_icmp_ge (tgt := 26) hx hb dX1_nearestToNumeral_21 (by decide) (fun c9 => ?_) (fun c9 => ?_)
    · have h := (if_pos c9).symm.trans h
      refine lv_aload_n hx hb dX1_nearestToNumeral_26 rfl (lv_at hl 1 rfl) ?_
      refine lv_iload_n hx hb dX1_nearestToNumeral_27 rfl (lv_at hl 0 rfl) ?_
      obtain ⟨r28, hc, h⟩ := bd h
      have hPc := hP.sub (ws' := (wd_X1_placeOf a_this a_text a_number a_rounded a_lowEdge a_highEdge v_length v_digitsStart v_digitsEnd v_unitsAt v_tenPower)) [0] rfl
      have hDc := hD.sub (ws' := (wd_X1_placeOf a_this a_text a_number a_rounded a_lowEdge a_highEdge v_length v_digitsStart v_digitsEnd v_unitsAt v_tenPower)) [0] (by decide) rfl
      have hKc := hK.sub (tys' := []) [] rfl
      have hFc := va_free (wc := (wd_X1_placeOf a_this a_text a_number a_rounded a_lowEdge a_highEdge v_length v_digitsStart v_digitsEnd v_unitsAt v_tenPower)) hD hS hA [0] rfl
      refine va_calli (va_runV (As := [.int r1]) (rest := []) ⟨hx, hb, hml, hown, hws⟩ (c_X1_placeOf l dC dI  a_this a_text a_number a_rounded a_lowEdge a_highEdge (Array.size H) r1 v_length v_digitsStart v_digitsEnd v_unitsAt v_tenPower r28 hc) (cwV 1 hws (gV ww_113 ww_114 ww_115 ww_2 ww_116) rfl rfl rfl (by decide +kernel) ⟨Nat.le_of_ble_eq_true rfl, Nat.le_of_ble_eq_true rfl⟩) ⟨(fun a U g mk q => by obtain ⟨q0, q1, qP, qK, qD⟩ := q; exact ⟨q0, q1, qP, va_K.moved (u := U) (U := U.calling g mk a) (Vm.Alike.refl U.vm) qK, qD⟩), va_recv hKc hPc (ci := 1) (q0 := 0) rfl rfl, (fun U hU hW => ⟨rfl, by rw [hU], by rw [hU]; exact hPc, va_K.moved hW.alike hKc, hDc.weaken (fun _ _ _ _ => trivial)⟩)⟩ rfl rfl hl.1 rfl (lv_room (Nat.le_of_ble_eq_true rfl)) dX1_nearestToNumeral_28 ⟨Nat.zero_le _, Nat.zero_le _⟩) hS (fun q _ h => hFc q h) hFc (fun r9 u9 t H1 locs ht hvm hw hB hz1 hk1 hS => ?_)
      obtain ⟨hP1, hK1, hD1⟩ := hB
      rw [ht] at hP1
      subst r9
      obtain ⟨hP, hD⟩ := va_join (wr := [(a_text, .inl (c_text, 400, .inl v_text)), (a_number, .inr (0, [.ref a_number_limbs, .int v_number_first, .int v_number_last])), (a_number_limbs, .inl (c_number_limbs, 160, .inr (.inl v_number_limbs))), (a_rounded, .inr (0, [.ref a_rounded_limbs, .int v_rounded_first, .int v_rounded_last])), (a_rounded_limbs, .inl (c_rounded_limbs, 160, .inr (.inl v_rounded_limbs)))]) (w1 := (wd_X1_placeOf a_this a_text a_number a_rounded a_lowEdge a_highEdge v_length v_digitsStart v_digitsEnd v_unitsAt v_tenPower)) hP hD [0] [1, 2, 3, 4, 5] rfl rfl (by decide) (by decide) hk1 hFc hP1 hD1
      generalize H1 = H at hP hS ⊢
      have hP : va_P (dC, dI) vwCl (wd_X1_nearestToNumeral a_this a_text a_number a_number_limbs a_rounded a_rounded_limbs a_lowEdge a_highEdge c_text c_number_limbs c_rounded_limbs v_length v_digitsStart v_digitsEnd v_unitsAt v_tenPower v_text v_number_first v_number_last v_number_limbs v_rounded_first v_rounded_last v_rounded_limbs) H := hP.sub [5, 0, 1, 2, 3, 4] rfl
      have hD : va_D A (wd_X1_nearestToNumeral a_this a_text a_number a_number_limbs a_rounded a_rounded_limbs a_lowEdge a_highEdge c_text c_number_limbs c_rounded_limbs v_length v_digitsStart v_digitsEnd v_unitsAt v_tenPower v_text v_number_first v_number_last v_number_limbs v_rounded_first v_rounded_last v_rounded_limbs) := hD.sub [5, 0, 1, 2, 3, 4] (by decide) rfl
      clear hP1 hK1 hD1 hPc hDc hKc hFc hk1 hz1 ht hvm
      refine lv_sipush (v := 308) hx hb dX1_nearestToNumeral_31 (by decide) ?_
      refine lv_icmp_le (tgt := 41) hx hb dX1_nearestToNumeral_34 (by decide) (fun c9 => ?_) (fun c9 => ?_)
      · have h := (if_pos c9).symm.trans h
        refine lv_aload_n hx hb dX1_nearestToNumeral_41 rfl (lv_at hl 1 rfl) ?_
        refine va_get (D := (dC, dI)) (ci := 1) (v := .ref a_number) (C := RX1) (T := TX1) (N := 10) hx hb hws inlX1 hown hK hP 0 rfl rfl 6 (by decide) (hws _ ww_19) (fun _ h9 => h9) rfl dX1_nearestToNumeral_42 ?_
        obtain ⟨⟨v_number_first_45, v_number_last_45, v_number_limbs_45⟩, hc, h⟩ := bd h
        dsimp only at h
        have hPc := hP.sub (ws' := (wd_X0_wipe a_number a_number_limbs c_number_limbs v_number_first v_number_last v_number_limbs)) [2, 3] rfl
        have hDc := hD.sub (ws' := (wd_X0_wipe a_number a_number_limbs c_number_limbs v_number_first v_number_last v_number_limbs)) [2, 3] (by decide) rfl
        have hKc := hK.sub (tys' := [(c_number_limbs, .long)]) [1] rfl
        have hFc := va_free (wc := (wd_X0_wipe a_number a_number_limbs c_number_limbs v_number_first v_number_last v_number_limbs)) hD hS hA [2, 3] rfl
        refine va_callv (va_runV (As := []) (rest := []) ⟨hx, hb, hml, hown, hws⟩ (c_X0_wipe l dC dI  a_number a_number_limbs c_number_limbs (Array.size H)  v_number_first v_number_last v_number_limbs v_number_first_45 v_number_last_45 v_number_limbs_45 hc) (cwV 0 hws (gV ww_117 ww_118 ww_119 ww_18 ww_120) rfl rfl rfl (by decide +kernel) ⟨Nat.le_of_ble_eq_true rfl, Nat.le_of_ble_eq_true rfl⟩) ⟨(fun a U g mk q => by obtain ⟨q0, q1, qP, qK, qD⟩ := q; exact ⟨q0, q1, qP, va_K.moved (u := U) (U := U.calling g mk a) (Vm.Alike.refl U.vm) qK, qD⟩), va_recv hKc hPc (ci := 0) (q0 := 0) rfl rfl, (fun U hU hW => ⟨rfl, by rw [hU], by rw [hU]; exact hPc, va_K.moved hW.alike hKc, hDc.weaken (fun _ _ _ _ => trivial)⟩)⟩ rfl rfl hl.1 rfl (lv_room (Nat.le_of_ble_eq_true rfl)) dX1_nearestToNumeral_45 ⟨Nat.zero_le _, Nat.zero_le _⟩) hS (fun q _ h => hFc q h) hFc (fun u9 t H1 locs ht hvm hw hB hz1 hk1 hS => ?_)
        obtain ⟨hP1, hK1, hD1⟩ := hB
        rw [ht] at hP1
        obtain ⟨hP, hD⟩ := va_join (wr := [(a_this, .inr (1, [.ref a_text, .int v_length, .int v_digitsStart, .int v_digitsEnd, .int v_unitsAt, .int v_tenPower, .ref a_number, .ref a_rounded, .ref a_lowEdge, .ref a_highEdge])), (a_text, .inl (c_text, 400, .inl v_text)), (a_rounded, .inr (0, [.ref a_rounded_limbs, .int v_rounded_first, .int v_rounded_last])), (a_rounded_limbs, .inl (c_rounded_limbs, 160, .inr (.inl v_rounded_limbs)))]) (w1 := (wd_X0_wipe a_number a_number_limbs c_number_limbs v_number_first_45 v_number_last_45 v_number_limbs_45)) hP hD [2, 3] [0, 1, 4, 5] rfl rfl (by decide) (by decide) hk1 hFc hP1 hD1
        generalize H1 = H at hP hS ⊢
        have hP : va_P (dC, dI) vwCl (wd_X1_nearestToNumeral a_this a_text a_number a_number_limbs a_rounded a_rounded_limbs a_lowEdge a_highEdge c_text c_number_limbs c_rounded_limbs v_length v_digitsStart v_digitsEnd v_unitsAt v_tenPower v_text v_number_first_45 v_number_last_45 v_number_limbs_45 v_rounded_first v_rounded_last v_rounded_limbs) H := hP.sub [0, 1, 4, 5, 2, 3] rfl
        have hD : va_D A (wd_X1_nearestToNumeral a_this a_text a_number a_number_limbs a_rounded a_rounded_limbs a_lowEdge a_highEdge c_text c_number_limbs c_rounded_limbs v_length v_digitsStart v_digitsEnd v_unitsAt v_tenPower v_text v_number_first_45 v_number_last_45 v_number_limbs_45 v_rounded_first v_rounded_last v_rounded_limbs) := hD.sub [0, 1, 4, 5, 2, 3] (by decide) rfl
        clear hP1 hK1 hD1 hPc hDc hKc hFc hk1 hz1 ht hvm
        refine lv_iload_n hx hb dX1_nearestToNumeral_48 rfl (lv_at hl 0 rfl) ?_
        refine lv_istore_n (lv' := [(2, .int r1), (1, .int r1), (0, .ref a_this)]) hx hb dX1_nearestToNumeral_49 rfl hl (by decide) rfl (fun ls hl => ?_)
        exact w_X1_nearestToNumeral_50 l a_this a_text a_number a_number_limbs a_rounded a_rounded_limbs a_lowEdge a_highEdge c_text c_number_limbs c_rounded_limbs hx hb hr hml hown hws hlocks hA hZ_TENS hT_TENS FU r1 v_length v_digitsStart v_digitsEnd v_unitsAt v_tenPower v_text v_number_first_45 v_number_last_45 v_number_limbs_45 v_rounded_first v_rounded_last v_rounded_limbs o_r o_number_first o_number_last o_number_limbs o_rounded_first o_rounded_last o_rounded_limbs h H locs hK hP hD hS ls (lv_sub hl [2, 0] rfl)
      · have h := (if_neg c9).symm.trans h
        refine lv_ldc2 (v := 9218868437227405312) hx hb hown (hws _ ww_108) dX1_nearestToNumeral_37 ?_
        obtain ⟨h09, h19, h29, h39, h49, h59, h69⟩ := rt7 h
        subst o_r
        subst o_number_first
        subst o_number_last
        subst o_number_limbs
        subst o_rounded_first
        subst o_rounded_last
        subst o_rounded_limbs
        exact W.lret hx hb hr (fun t ht hW => ⟨⟨_, (), rfl, rfl, by rw [ht]; exact hP, va_K.moved hW.alike hK, hD⟩, hS.F ht⟩) hS.2.2 dX1_nearestToNumeral_40
    · have h := (if_neg c9).symm.trans h
      refine lv_lconst (v := 0) hx hb dX1_nearestToNumeral_24 (by decide) ?_
      obtain ⟨h09, h19, h29, h39, h49, h59, h69⟩ := rt7 h
      subst o_r
      subst o_number_first
      subst o_number_last
      subst o_number_limbs
      subst o_rounded_first
      subst o_rounded_last
      subst o_rounded_limbs
      exact W.lret hx hb hr (fun t ht hW => ⟨⟨_, (), rfl, rfl, by rw [ht]; exact hP, va_K.moved hW.alike hK, hD⟩, hS.F ht⟩) hS.2.2 dX1_nearestToNumeral_25
