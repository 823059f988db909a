set_option maxHeartbeats 4000000 in
set_option maxRecDepth 100000 in
theorem w_X2_nearest_45 (l : Launch) {p : Program} {e : Env} {s : State} {m : MethodId} {args : Array Value} {below : List Frame} {meth : Method} {c : Code} {A : Nat → Prop} {dC : Nat → ClassId} {dI : Nat → Nat → Nat} (a_this a_text a_d a_n a_power a_limbs : Nat) (c_d c_n c_power c_limbs : ClassId) (hx : p.tables.exec = Jvm.exec) (hb : c.code = cX2_nearest) (hr : meth.sig.returnType = (some .long)) (hml : c.maxLocals = 7) (hown : s.vm.findClass RX2 = some m.cls) (hws : ∀ w ∈ wsL_law, w.before args s = true) (hlocks : meth.locks = false) (hA : ∀ q : Nat, s.heap.size ≤ q → A q) : ∀ (n : Nat) (l1 : Int64) (l3 : Int64) (v_thrown : Int32) (v_size : Int32) (v_used : Int32) (v_at : Int32) (v_d : Nat → Int32) (v_n : Nat → Int32) (v_power : Nat → Int32) (v_limbs : Nat → Int64) (o_r : Int64) (o_used : Int32) (o_d : Nat → Int32) (o_n : Nat → Int32) (o_power : Nat → Int32) (o_limbs : Nat → Int64), f_X2_nearest_L45 n l1 l3 v_used v_d v_n v_power v_limbs = some (o_r, o_used, o_d, o_n, o_power, o_limbs) → ∀ (H : Heap) (locs : List Loc), va_K (dC, dI) vwCl [(c_d, .int), (c_n, .int), (c_power, .int), (c_limbs, .long)] s → va_P (dC, dI) vwCl (wd_X2_nearest a_this a_text a_d a_n a_power a_limbs c_d c_n c_power c_limbs v_thrown v_size v_used v_at v_d v_n v_power v_limbs) H → va_D A (wd_X2_nearest a_this a_text a_d a_n a_power a_limbs c_d c_n c_power c_limbs v_thrown v_size v_used v_at v_d v_n v_power v_limbs) → va_S A s.heap H locs → ∀ (ls : Array Slot), lv_has ls 7 [(0, .ref a_this), (1, .long l1), (3, .long l3)] → W p l e (headSpec (w_X2_nearest) ({ frames := 3, cells := 0, slots := 0, locals := 75 } : Room)).room s m args below meth c H locs 0 0 (MQ below (va_Ql (fun r9 (_ : Unit) => r9 = o_r) (fun (_ : Unit) t => va_P (dC, dI) vwCl (wd_X2_nearest a_this a_text a_d a_n a_power a_limbs c_d c_n c_power c_limbs v_thrown v_size o_used v_at o_d o_n o_power o_limbs) t.heap ∧ va_K (dC, dI) vwCl [(c_d, .int), (c_n, .int), (c_power, .int), (c_limbs, .long)] t ∧ va_D A (wd_X2_nearest a_this a_text a_d a_n a_power a_limbs c_d c_n c_power c_limbs v_thrown v_size o_used v_at o_d o_n o_power o_limbs)) A) args s 0 0 A) (F0 m 45 ls []) := by
  intro n
  induction n with
  | zero =>
    intro l1 l3 v_thrown v_size v_used v_at v_d v_n v_power v_limbs o_r o_used o_d o_n o_power o_limbs h H locs hK hP hD hS ls hl
    exact absurd h (by simp [f_X2_nearest_L45])
  | succ n ih =>
    intro l1 l3 v_thrown v_size v_used v_at v_d v_n v_power v_limbs o_r o_used o_d o_n o_power o_limbs h H locs hK hP hD hS ls hl
    unfold f_X2_nearest_L45 at h
    refine lv_lload_n hx hb dX2_nearest_45 rfl (lv_at hl 1 rfl) ?_
    refine lv_lload_n hx hb dX2_nearest_46 rfl (lv_at hl 2 rfl) ?_
    refine W.lcmp hx hb dX2_nearest_47 ?_
    refine lv_if_ge (tgt := 98) hx hb dX2_nearest_48 (by decide) (fun c9 => ?_) (fun c9 => ?_)
    · have h := (if_pos c9).symm.trans h
      refine lv_aload_n hx hb dX2_nearest_98 rfl (lv_at hl 0 rfl) ?_
      refine lv_ldc2 (v := 2) hx hb hown (hws _ ww_249) dX2_nearest_99 ?_
      refine lv_lload_n hx hb dX2_nearest_102 rfl (lv_at hl 1 rfl) ?_
      obtain ⟨r103, hc, h⟩ := bd h
      have hPc := hP.sub (ws' := ([] : va_W)) [] rfl
      have hDc := hD.sub (ws' := ([] : va_W)) [] (by decide) rfl
      have hKc := hK.sub (tys' := []) [] rfl
      have hFc := va_free (wc := ([] : va_W)) hD hS hA [] rfl
      refine va_calll (va_runS (As := [.long l1]) (rest := [.long 2, .ref a_this]) ⟨hx, hb, hml, hown, hws⟩ (c_X2_whole l dC dI   (Array.size H) l1  r103 hc) (va_cwS 1 hws (gS ww_254 ww_255 ww_5 ww_256) rfl rfl rfl (by decide +kernel) ⟨Nat.le_of_ble_eq_true rfl, Nat.le_of_ble_eq_true rfl⟩) ⟨(fun a U g mk q => by obtain ⟨q0, q1, qP, qK, qD⟩ := q; exact ⟨q0, q1, qP, va_K.moved (u := U) (U := U.calling g mk a) (Vm.Alike.refl U.vm) qK, qD⟩), (fun U hU hW => ⟨rfl, by rw [hU], by rw [hU]; exact hPc, va_K.moved hW.alike hKc, hDc.weaken (fun _ _ _ _ => trivial)⟩)⟩ rfl rfl hl.1 rfl (lv_room (Nat.le_of_ble_eq_true rfl)) dX2_nearest_103 ⟨Nat.zero_le _, Nat.zero_le _⟩) hS (fun q _ h => hFc q h) hFc (fun r9 u9 t H1 locs ht hvm hw hB hz1 hk1 hS => ?_)
      obtain ⟨hP1, hK1, hD1⟩ := hB
      rw [ht] at hP1
      subst r9
      obtain ⟨hP, hD⟩ := va_join (wr := [(a_this, .inr (2, [.int v_thrown, .ref a_text, .int v_size, .ref a_d, .ref a_n, .ref a_power, .ref a_limbs, .int v_used, .int v_at])), (a_d, .inl (c_d, 7000, .inl v_d)), (a_n, .inl (c_n, 7000, .inl v_n)), (a_power, .inl (c_power, 7000, .inl v_power)), (a_limbs, .inl (c_limbs, 160, .inr (.inl v_limbs)))]) (w1 := ([] : va_W)) hP hD [] [0, 1, 2, 3, 4] rfl rfl (by decide) (by decide) hk1 hFc hP1 hD1
      generalize H1 = H at hP hS ⊢
      have hP : va_P (dC, dI) vwCl (wd_X2_nearest a_this a_text a_d a_n a_power a_limbs c_d c_n c_power c_limbs v_thrown v_size v_used v_at v_d v_n v_power v_limbs) H := hP.sub [0, 1, 2, 3, 4] rfl
      have hD : va_D A (wd_X2_nearest a_this a_text a_d a_n a_power a_limbs c_d c_n c_power c_limbs v_thrown v_size v_used v_at v_d v_n v_power v_limbs) := hD.sub [0, 1, 2, 3, 4] (by decide) rfl
      clear hP1 hK1 hD1 hPc hDc hKc hFc hk1 hz1 ht hvm
      refine lv_lmul hx hb dX2_nearest_106 ?_
      refine lv_lconst (v := 1) hx hb dX2_nearest_107 (by decide) ?_
      refine lv_ladd hx hb dX2_nearest_108 ?_
      refine lv_lload_n hx hb dX2_nearest_109 rfl (lv_at hl 1 rfl) ?_
      obtain ⟨r110, hc, h⟩ := bd h
      have hPc := hP.sub (ws' := ([] : va_W)) [] rfl
      have hDc := hD.sub (ws' := ([] : va_W)) [] (by decide) rfl
      have hKc := hK.sub (tys' := []) [] rfl
      have hFc := va_free (wc := ([] : va_W)) hD hS hA [] rfl
      refine va_calli (va_runS (As := [.long l1]) (rest := [.long ((2 * r103) + 1), .ref a_this]) ⟨hx, hb, hml, hown, hws⟩ (c_X2_two l dC dI   (Array.size H) l1  r110 hc) (va_cwS 1 hws (gS ww_259 ww_260 ww_5 ww_261) rfl rfl rfl (by decide +kernel) ⟨Nat.le_of_ble_eq_true rfl, Nat.le_of_ble_eq_true rfl⟩) ⟨(fun a U g mk q => by obtain ⟨q0, q1, qP, qK, qD⟩ := q; exact ⟨q0, q1, qP, va_K.moved (u := U) (U := U.calling g mk a) (Vm.Alike.refl U.vm) qK, qD⟩), (fun U hU hW => ⟨rfl, by rw [hU], by rw [hU]; exact hPc, va_K.moved hW.alike hKc, hDc.weaken (fun _ _ _ _ => trivial)⟩)⟩ rfl rfl hl.1 rfl (lv_room (Nat.le_of_ble_eq_true rfl)) dX2_nearest_110 ⟨Nat.zero_le _, Nat.zero_le _⟩) hS (fun q _ h => hFc q h) hFc (fun r9 u9 t H1 locs ht hvm hw hB hz1 hk1 hS => ?_)
      obtain ⟨hP1, hK1, hD1⟩ := hB
      rw [ht] at hP1
      subst r9
      obtain ⟨hP, hD⟩ := va_join (wr := [(a_this, .inr (2, [.int v_thrown, .ref a_text, .int v_size, .ref a_d, .ref a_n, .ref a_power, .ref a_limbs, .int v_used, .int v_at])), (a_d, .inl (c_d, 7000, .inl v_d)), (a_n, .inl (c_n, 7000, .inl v_n)), (a_power, .inl (c_power, 7000, .inl v_power)), (a_limbs, .inl (c_limbs, 160, .inr (.inl v_limbs)))]) (w1 := ([] : va_W)) hP hD [] [0, 1, 2, 3, 4] rfl rfl (by decide) (by decide) hk1 hFc hP1 hD1
      generalize H1 = H at hP hS ⊢
      have hP : va_P (dC, dI) vwCl (wd_X2_nearest a_this a_text a_d a_n a_power a_limbs c_d c_n c_power c_limbs v_thrown v_size v_used v_at v_d v_n v_power v_limbs) H := hP.sub [0, 1, 2, 3, 4] rfl
      have hD : va_D A (wd_X2_nearest a_this a_text a_d a_n a_power a_limbs c_d c_n c_power c_limbs v_thrown v_size v_used v_at v_d v_n v_power v_limbs) := hD.sub [0, 1, 2, 3, 4] (by decide) rfl
      clear hP1 hK1 hD1 hPc hDc hKc hFc hk1 hz1 ht hvm
      refine lv_iconst (v := 1) hx hb dX2_nearest_113 (by decide) ?_
      refine lv_isub hx hb dX2_nearest_114 ?_
      refine lv_sipush (v := 5600) hx hb dX2_nearest_115 (by decide) ?_
      obtain ⟨⟨v_used_118, v_d_118, v_n_118, v_power_118, v_limbs_118⟩, hc, h⟩ := bd h
      dsimp only at h
      have hPc := hP.sub (ws' := (wd_X2_row a_this a_text a_d a_n a_power a_limbs c_d c_n c_power c_limbs v_thrown v_size v_used v_at v_d v_n v_power v_limbs)) [0, 1, 2, 3, 4] rfl
      have hDc := hD.sub (ws' := (wd_X2_row a_this a_text a_d a_n a_power a_limbs c_d c_n c_power c_limbs v_thrown v_size v_used v_at v_d v_n v_power v_limbs)) [0, 1, 2, 3, 4] (by decide) rfl
      have hKc := hK.sub (tys' := [(c_d, .int), (c_n, .int), (c_power, .int), (c_limbs, .long)]) [0, 1, 2, 3] rfl
      have hFc := va_free (wc := (wd_X2_row a_this a_text a_d a_n a_power a_limbs c_d c_n c_power c_limbs v_thrown v_size v_used v_at v_d v_n v_power v_limbs)) hD hS hA [0, 1, 2, 3, 4] rfl
      refine va_callv (va_runV (As := [.long ((2 * r103) + 1), .int (r110 - 1), .int 5600]) (rest := []) ⟨hx, hb, hml, hown, hws⟩ (c_X2_row l dC dI  a_this a_text a_d a_n a_power a_limbs c_d c_n c_power c_limbs (Array.size H) ((2 * r103) + 1) (r110 - 1) 5600 v_thrown v_size v_used v_at v_d v_n v_power v_limbs v_used_118 v_d_118 v_n_118 v_power_118 v_limbs_118 hc) (cwV 3 hws (gV ww_262 ww_263 ww_264 ww_5 ww_265) rfl rfl rfl (by decide +kernel) ⟨Nat.le_of_ble_eq_true rfl, Nat.le_of_ble_eq_true rfl⟩) ⟨(fun a U g mk q => by obtain ⟨q0, q1, qP, qK, qD⟩ := q; exact ⟨q0, q1, qP, va_K.moved (u := U) (U := U.calling g mk a) (Vm.Alike.refl U.vm) qK, qD⟩), va_recv hKc hPc (ci := 2) (q0 := 0) rfl rfl, (fun U hU hW => ⟨rfl, by rw [hU], by rw [hU]; exact hPc, va_K.moved hW.alike hKc, hDc.weaken (fun _ _ _ _ => trivial)⟩)⟩ rfl rfl hl.1 rfl (lv_room (Nat.le_of_ble_eq_true rfl)) dX2_nearest_118 ⟨Nat.zero_le _, Nat.zero_le _⟩) hS (fun q _ h => hFc q h) hFc (fun u9 t H1 locs ht hvm hw hB hz1 hk1 hS => ?_)
      obtain ⟨hP1, hK1, hD1⟩ := hB
      rw [ht] at hP1
      obtain ⟨hP, hD⟩ := va_join (wr := []) (w1 := (wd_X2_row a_this a_text a_d a_n a_power a_limbs c_d c_n c_power c_limbs v_thrown v_size v_used_118 v_at v_d_118 v_n_118 v_power_118 v_limbs_118)) hP hD [0, 1, 2, 3, 4] [] rfl rfl (by decide) (by decide) hk1 hFc hP1 hD1
      generalize H1 = H at hP hS ⊢
      have hP : va_P (dC, dI) vwCl (wd_X2_nearest a_this a_text a_d a_n a_power a_limbs c_d c_n c_power c_limbs v_thrown v_size v_used_118 v_at v_d_118 v_n_118 v_power_118 v_limbs_118) H := hP.sub [0, 1, 2, 3, 4] rfl
      have hD : va_D A (wd_X2_nearest a_this a_text a_d a_n a_power a_limbs c_d c_n c_power c_limbs v_thrown v_size v_used_118 v_at v_d_118 v_n_118 v_power_118 v_limbs_118) := hD.sub [0, 1, 2, 3, 4] (by decide) rfl
      clear hP1 hK1 hD1 hPc hDc hKc hFc hk1 hz1 ht hvm
      refine lv_aload_n hx hb dX2_nearest_121 rfl (lv_at hl 0 rfl) ?_
      refine lv_iconst (v := 0) hx hb dX2_nearest_122 (by decide) ?_
      refine lv_sipush (v := 5600) hx hb dX2_nearest_123 (by decide) ?_
      obtain ⟨r126, hc, h⟩ := bd h
      have hPc := hP.sub (ws' := (wd_X2_against a_this a_text a_d a_n a_power a_limbs c_d c_n c_power v_thrown v_size v_used_118 v_at v_d_118 v_n_118 v_power_118)) [0, 1, 2, 3] rfl
      have hDc := hD.sub (ws' := (wd_X2_against a_this a_text a_d a_n a_power a_limbs c_d c_n c_power v_thrown v_size v_used_118 v_at v_d_118 v_n_118 v_power_118)) [0, 1, 2, 3] (by decide) rfl
      have hKc := hK.sub (tys' := [(c_d, .int), (c_n, .int), (c_power, .int)]) [0, 1, 2] rfl
      have hFc := va_free (wc := (wd_X2_against a_this a_text a_d a_n a_power a_limbs c_d c_n c_power v_thrown v_size v_used_118 v_at v_d_118 v_n_118 v_power_118)) hD hS hA [0, 1, 2, 3] rfl
      refine va_calli (va_runV (As := [.int 0, .int 5600]) (rest := []) ⟨hx, hb, hml, hown, hws⟩ (c_X2_against l dC dI  a_this a_text a_d a_n a_power a_limbs c_d c_n c_power (Array.size H) 0 5600 v_thrown v_size v_used_118 v_at v_d_118 v_n_118 v_power_118 r126 hc) (cwV 2 hws (gV ww_277 ww_278 ww_279 ww_5 ww_280) rfl rfl rfl (by decide +kernel) ⟨Nat.le_of_ble_eq_true rfl, Nat.le_of_ble_eq_true rfl⟩) ⟨(fun a U g mk q => by obtain ⟨q0, q1, qP, qK, qD⟩ := q; exact ⟨q0, q1, qP, va_K.moved (u := U) (U := U.calling g mk a) (Vm.Alike.refl U.vm) qK, qD⟩), va_recv hKc hPc (ci := 2) (q0 := 0) rfl rfl, (fun U hU hW => ⟨rfl, by rw [hU], by rw [hU]; exact hPc, va_K.moved hW.alike hKc, hDc.weaken (fun _ _ _ _ => trivial)⟩)⟩ rfl rfl hl.1 rfl (lv_room (Nat.le_of_ble_eq_true rfl)) dX2_nearest_126 ⟨Nat.zero_le _, Nat.zero_le _⟩) hS (fun q _ h => hFc q h) hFc (fun r9 u9 t H1 locs ht hvm hw hB hz1 hk1 hS => ?_)
      obtain ⟨hP1, hK1, hD1⟩ := hB
      rw [ht] at hP1
      subst r9
      obtain ⟨hP, hD⟩ := va_join (wr := [(a_limbs, .inl (c_limbs, 160, .inr (.inl v_limbs_118)))]) (w1 := (wd_X2_against a_this a_text a_d a_n a_power a_limbs c_d c_n c_power v_thrown v_size v_used_118 v_at v_d_118 v_n_118 v_power_118)) hP hD [0, 1, 2, 3] [4] rfl rfl (by decide) (by decide) hk1 hFc hP1 hD1
      generalize H1 = H at hP hS ⊢
      have hP : va_P (dC, dI) vwCl (wd_X2_nearest a_this a_text a_d a_n a_power a_limbs c_d c_n c_power c_limbs v_thrown v_size v_used_118 v_at v_d_118 v_n_118 v_power_118 v_limbs_118) H := hP.sub [1, 2, 3, 4, 0] rfl
      have hD : va_D A (wd_X2_nearest a_this a_text a_d a_n a_power a_limbs c_d c_n c_power c_limbs v_thrown v_size v_used_118 v_at v_d_118 v_n_118 v_power_118 v_limbs_118) := hD.sub [1, 2, 3, 4, 0] (by decide) rfl
      clear hP1 hK1 hD1 hPc hDc hKc hFc hk1 hz1 ht hvm
      refine lv_istore (lv' := [(5, .int r126), (0, .ref a_this), (1, .long l1), (3, .long l3)]) hx hb dX2_nearest_129 hl (by decide) rfl (fun ls hl => ?_)
      refine lv_iload hx hb dX2_nearest_131 (lv_at hl 0 rfl) ?_
      refine lv_if_lt (tgt := 151) hx hb dX2_nearest_133 (by decide) (fun c9 => ?_) (fun c9 => ?_)
      · have h := (if_pos c9).symm.trans h
        refine lv_lload_n hx hb dX2_nearest_151 rfl (lv_at hl 2 rfl) ?_
        refine lv_goto (tgt := 158) hx hb dX2_nearest_152 (by decide) ?_
        obtain ⟨h09, h19, h29, h39, h49, h59⟩ := rt6 h
        subst o_r
        subst o_used
        subst o_d
        subst o_n
        subst o_power
        subst o_limbs
        exact W.lret hx hb hr (fun t ht hW => ⟨⟨_, (), rfl, rfl, by rw [ht]; exact hP, va_K.moved hW.alike hK, hD⟩, hS.F ht⟩) hS.2.2 dX2_nearest_158
      · have h := (if_neg c9).symm.trans h
        refine lv_iload hx hb dX2_nearest_136 (lv_at hl 0 rfl) ?_
        refine lv_if_ne (tgt := 155) hx hb dX2_nearest_138 (by decide) (fun c9 => ?_) (fun c9 => ?_)
        · have h := (if_neg c9).symm.trans h
          refine lv_lload_n hx hb dX2_nearest_155 rfl (lv_at hl 2 rfl) ?_
          refine lv_lconst (v := 1) hx hb dX2_nearest_156 (by decide) ?_
          refine lv_ladd hx hb dX2_nearest_157 ?_
          obtain ⟨h09, h19, h29, h39, h49, h59⟩ := rt6 h
          subst o_r
          subst o_used
          subst o_d
          subst o_n
          subst o_power
          subst o_limbs
          exact W.lret hx hb hr (fun t ht hW => ⟨⟨_, (), rfl, rfl, by rw [ht]; exact hP, va_K.moved hW.alike hK, hD⟩, hS.F ht⟩) hS.2.2 dX2_nearest_158
        · have h := (if_pos c9).symm.trans h
          refine lv_lload_n hx hb dX2_nearest_141 rfl (lv_at hl 2 rfl) ?_
          refine lv_ldc2 (v := 2) hx hb hown (hws _ ww_249) dX2_nearest_142 ?_
          refine lv_lrem hx hb dX2_nearest_145 (by decide) ?_
          refine lv_lconst (v := 0) hx hb dX2_nearest_146 (by decide) ?_
          refine W.lcmp hx hb dX2_nearest_147 ?_
          refine lv_if_ne (tgt := 155) hx hb dX2_nearest_148 (by decide) (fun c9 => ?_) (fun c9 => ?_)
          · have h := (if_neg c9).symm.trans h
            refine lv_lload_n hx hb dX2_nearest_155 rfl (lv_at hl 2 rfl) ?_
            refine lv_lconst (v := 1) hx hb dX2_nearest_156 (by decide) ?_
            refine lv_ladd hx hb dX2_nearest_157 ?_
            obtain ⟨h09, h19, h29, h39, h49, h59⟩ := rt6 h
            subst o_r
            subst o_used
            subst o_d
            subst o_n
            subst o_power
            subst o_limbs
            exact W.lret hx hb hr (fun t ht hW => ⟨⟨_, (), rfl, rfl, by rw [ht]; exact hP, va_K.moved hW.alike hK, hD⟩, hS.F ht⟩) hS.2.2 dX2_nearest_158
          · have h := (if_pos c9).symm.trans h
            refine lv_lload_n hx hb dX2_nearest_151 rfl (lv_at hl 2 rfl) ?_
            refine lv_goto (tgt := 158) hx hb dX2_nearest_152 (by decide) ?_
            obtain ⟨h09, h19, h29, h39, h49, h59⟩ := rt6 h
            subst o_r
            subst o_used
            subst o_d
            subst o_n
            subst o_power
            subst o_limbs
            exact W.lret hx hb hr (fun t ht hW => ⟨⟨_, (), rfl, rfl, by rw [ht]; exact hP, va_K.moved hW.alike hK, hD⟩, hS.F ht⟩) hS.2.2 dX2_nearest_158
    · have h := (if_neg c9).symm.trans h
      refine lv_lload_n hx hb dX2_nearest_51 rfl (lv_at hl 1 rfl) ?_
      refine lv_lload_n hx hb dX2_nearest_52 rfl (lv_at hl 2 rfl) ?_
      refine lv_lload_n hx hb dX2_nearest_53 rfl (lv_at hl 1 rfl) ?_
      refine lv_lsub hx hb dX2_nearest_54 ?_
      refine lv_lconst (v := 1) hx hb dX2_nearest_55 (by decide) ?_
      refine lv_ladd hx hb dX2_nearest_56 ?_
      refine lv_ldc2 (v := 2) hx hb hown (hws _ ww_249) dX2_nearest_57 ?_
      refine lv_ldiv hx hb dX2_nearest_60 (by decide) ?_
      refine lv_ladd hx hb dX2_nearest_61 ?_
      refine lv_lstore (lv' := [(5, .long (l1 + (((l3 - l1) + 1) / 2))), (0, .ref a_this), (1, .long l1), (3, .long l3)]) hx hb dX2_nearest_62 hl (by decide) rfl (fun ls hl => ?_)
      refine lv_aload_n hx hb dX2_nearest_64 rfl (lv_at hl 1 rfl) ?_
      refine lv_lload hx hb dX2_nearest_65 (lv_at hl 0 rfl) ?_
      refine lv_sipush (v := 1400) hx hb dX2_nearest_67 (by decide) ?_
      obtain ⟨⟨v_used_70, v_d_70, v_n_70, v_power_70, v_limbs_70⟩, hc, h⟩ := bd h
      dsimp only at h
      have hPc := hP.sub (ws' := (wd_X2_rowOf a_this a_text a_d a_n a_power a_limbs c_d c_n c_power c_limbs v_thrown v_size v_used v_at v_d v_n v_power v_limbs)) [0, 1, 2, 3, 4] rfl
      have hDc := hD.sub (ws' := (wd_X2_rowOf a_this a_text a_d a_n a_power a_limbs c_d c_n c_power c_limbs v_thrown v_size v_used v_at v_d v_n v_power v_limbs)) [0, 1, 2, 3, 4] (by decide) rfl
      have hKc := hK.sub (tys' := [(c_d, .int), (c_n, .int), (c_power, .int), (c_limbs, .long)]) [0, 1, 2, 3] rfl
      have hFc := va_free (wc := (wd_X2_rowOf a_this a_text a_d a_n a_power a_limbs c_d c_n c_power c_limbs v_thrown v_size v_used v_at v_d v_n v_power v_limbs)) hD hS hA [0, 1, 2, 3, 4] rfl
      refine va_callv (va_runV (As := [.long (l1 + (((l3 - l1) + 1) / 2)), .int 1400]) (rest := []) ⟨hx, hb, hml, hown, hws⟩ (c_X2_rowOf l dC dI  a_this a_text a_d a_n a_power a_limbs c_d c_n c_power c_limbs (Array.size H) (l1 + (((l3 - l1) + 1) / 2)) 1400 v_thrown v_size v_used v_at v_d v_n v_power v_limbs v_used_70 v_d_70 v_n_70 v_power_70 v_limbs_70 hc) (cwV 2 hws (gV ww_250 ww_251 ww_252 ww_5 ww_253) rfl rfl rfl (by decide +kernel) ⟨Nat.le_of_ble_eq_true rfl, Nat.le_of_ble_eq_true rfl⟩) ⟨(fun a U g mk q => by obtain ⟨q0, q1, qP, qK, qD⟩ := q; exact ⟨q0, q1, qP, va_K.moved (u := U) (U := U.calling g mk a) (Vm.Alike.refl U.vm) qK, qD⟩), va_recv hKc hPc (ci := 2) (q0 := 0) rfl rfl, (fun U hU hW => ⟨rfl, by rw [hU], by rw [hU]; exact hPc, va_K.moved hW.alike hKc, hDc.weaken (fun _ _ _ _ => trivial)⟩)⟩ rfl rfl hl.1 rfl (lv_room (Nat.le_of_ble_eq_true rfl)) dX2_nearest_70 ⟨Nat.zero_le _, Nat.zero_le _⟩) hS (fun q _ h => hFc q h) hFc (fun u9 t H1 locs ht hvm hw hB hz1 hk1 hS => ?_)
      obtain ⟨hP1, hK1, hD1⟩ := hB
      rw [ht] at hP1
      obtain ⟨hP, hD⟩ := va_join (wr := []) (w1 := (wd_X2_rowOf a_this a_text a_d a_n a_power a_limbs c_d c_n c_power c_limbs v_thrown v_size v_used_70 v_at v_d_70 v_n_70 v_power_70 v_limbs_70)) hP hD [0, 1, 2, 3, 4] [] rfl rfl (by decide) (by decide) hk1 hFc hP1 hD1
      generalize H1 = H at hP hS ⊢
      have hP : va_P (dC, dI) vwCl (wd_X2_nearest a_this a_text a_d a_n a_power a_limbs c_d c_n c_power c_limbs v_thrown v_size v_used_70 v_at v_d_70 v_n_70 v_power_70 v_limbs_70) H := hP.sub [0, 1, 2, 3, 4] rfl
      have hD : va_D A (wd_X2_nearest a_this a_text a_d a_n a_power a_limbs c_d c_n c_power c_limbs v_thrown v_size v_used_70 v_at v_d_70 v_n_70 v_power_70 v_limbs_70) := hD.sub [0, 1, 2, 3, 4] (by decide) rfl
      clear hP1 hK1 hD1 hPc hDc hKc hFc hk1 hz1 ht hvm
      refine lv_aload_n hx hb dX2_nearest_73 rfl (lv_at hl 1 rfl) ?_
      refine lv_iconst (v := 0) hx hb dX2_nearest_74 (by decide) ?_
      refine lv_sipush (v := 1400) hx hb dX2_nearest_75 (by decide) ?_
      obtain ⟨r78, hc, h⟩ := bd h
      have hPc := hP.sub (ws' := (wd_X2_against a_this a_text a_d a_n a_power a_limbs c_d c_n c_power v_thrown v_size v_used_70 v_at v_d_70 v_n_70 v_power_70)) [0, 1, 2, 3] rfl
      have hDc := hD.sub (ws' := (wd_X2_against a_this a_text a_d a_n a_power a_limbs c_d c_n c_power v_thrown v_size v_used_70 v_at v_d_70 v_n_70 v_power_70)) [0, 1, 2, 3] (by decide) rfl
      have hKc := hK.sub (tys' := [(c_d, .int), (c_n, .int), (c_power, .int)]) [0, 1, 2] rfl
      have hFc := va_free (wc := (wd_X2_against a_this a_text a_d a_n a_power a_limbs c_d c_n c_power v_thrown v_size v_used_70 v_at v_d_70 v_n_70 v_power_70)) hD hS hA [0, 1, 2, 3] rfl
      refine va_calli (va_runV (As := [.int 0, .int 1400]) (rest := []) ⟨hx, hb, hml, hown, hws⟩ (c_X2_against l dC dI  a_this a_text a_d a_n a_power a_limbs c_d c_n c_power (Array.size H) 0 1400 v_thrown v_size v_used_70 v_at v_d_70 v_n_70 v_power_70 r78 hc) (cwV 2 hws (gV ww_277 ww_278 ww_279 ww_5 ww_280) rfl rfl rfl (by decide +kernel) ⟨Nat.le_of_ble_eq_true rfl, Nat.le_of_ble_eq_true rfl⟩) ⟨(fun a U g mk q => by obtain ⟨q0, q1, qP, qK, qD⟩ := q; exact ⟨q0, q1, qP, va_K.moved (u := U) (U := U.calling g mk a) (Vm.Alike.refl U.vm) qK, qD⟩), va_recv hKc hPc (ci := 2) (q0 := 0) rfl rfl, (fun U hU hW => ⟨rfl, by rw [hU], by rw [hU]; exact hPc, va_K.moved hW.alike hKc, hDc.weaken (fun _ _ _ _ => trivial)⟩)⟩ rfl rfl hl.1 rfl (lv_room (Nat.le_of_ble_eq_true rfl)) dX2_nearest_78 ⟨Nat.zero_le _, Nat.zero_le _⟩) hS (fun q _ h => hFc q h) hFc (fun r9 u9 t H1 locs ht hvm hw hB hz1 hk1 hS => ?_)
      obtain ⟨hP1, hK1, hD1⟩ := hB
      rw [ht] at hP1
      subst r9
      obtain ⟨hP, hD⟩ := va_join (wr := [(a_limbs, .inl (c_limbs, 160, .inr (.inl v_limbs_70)))]) (w1 := (wd_X2_against a_this a_text a_d a_n a_power a_limbs c_d c_n c_power v_thrown v_size v_used_70 v_at v_d_70 v_n_70 v_power_70)) hP hD [0, 1, 2, 3] [4] rfl rfl (by decide) (by decide) hk1 hFc hP1 hD1
      generalize H1 = H at hP hS ⊢
      have hP : va_P (dC, dI) vwCl (wd_X2_nearest a_this a_text a_d a_n a_power a_limbs c_d c_n c_power c_limbs v_thrown v_size v_used_70 v_at v_d_70 v_n_70 v_power_70 v_limbs_70) H := hP.sub [1, 2, 3, 4, 0] rfl
      have hD : va_D A (wd_X2_nearest a_this a_text a_d a_n a_power a_limbs c_d c_n c_power c_limbs v_thrown v_size v_used_70 v_at v_d_70 v_n_70 v_power_70 v_limbs_70) := hD.sub [1, 2, 3, 4, 0] (by decide) rfl
      clear hP1 hK1 hD1 hPc hDc hKc hFc hk1 hz1 ht hvm
      refine lv_if_lt (tgt := 90) hx hb dX2_nearest_81 (by decide) (fun c9 => ?_) (fun c9 => ?_)
      · have h := (if_pos c9).symm.trans h
        refine lv_lload hx hb dX2_nearest_90 (lv_at hl 0 rfl) ?_
        refine lv_lconst (v := 1) hx hb dX2_nearest_92 (by decide) ?_
        refine lv_lsub hx hb dX2_nearest_93 ?_
        refine lv_lstore_n (lv' := [(3, .long ((l1 + (((l3 - l1) + 1) / 2)) - 1)), (5, .long (l1 + (((l3 - l1) + 1) / 2))), (0, .ref a_this), (1, .long l1)]) hx hb dX2_nearest_94 rfl hl (by decide) rfl (fun ls hl => ?_)
        refine lv_goto (tgt := 45) hx hb dX2_nearest_95 (by decide) ?_
        exact ih l1 ((l1 + (((l3 - l1) + 1) / 2)) - 1) v_thrown v_size v_used_70 v_at v_d_70 v_n_70 v_power_70 v_limbs_70 o_r o_used o_d o_n o_power o_limbs h H locs hK hP hD hS ls (lv_sub hl [2, 3, 0] rfl)
      · have h := (if_neg c9).symm.trans h
        refine lv_lload hx hb dX2_nearest_84 (lv_at hl 0 rfl) ?_
        refine lv_lstore_n (lv' := [(1, .long (l1 + (((l3 - l1) + 1) / 2))), (5, .long (l1 + (((l3 - l1) + 1) / 2))), (0, .ref a_this), (3, .long l3)]) hx hb dX2_nearest_86 rfl hl (by decide) rfl (fun ls hl => ?_)
        refine lv_goto (tgt := 95) hx hb dX2_nearest_87 (by decide) ?_
        refine lv_goto (tgt := 45) hx hb dX2_nearest_95 (by decide) ?_
        exact ih (l1 + (((l3 - l1) + 1) / 2)) l3 v_thrown v_size v_used_70 v_at v_d_70 v_n_70 v_power_70 v_limbs_70 o_r o_used o_d o_n o_power o_limbs h H locs hK hP hD hS ls (lv_sub hl [2, 0, 3] rfl)
set_option maxHeartbeats 4000000 in
set_option maxRecDepth 100000 in
theorem c_X2_nearest (l : Launch) (dC : Nat → ClassId) (dI : Nat → Nat → Nat)  (a_this a_text a_d a_n a_power a_limbs : Nat) (c_d c_n c_power c_limbs : ClassId) (sz : Nat)  (v_thrown : Int32) (v_size : Int32) (v_used : Int32) (v_at : Int32) (v_d : Nat → Int32) (v_n : Nat → Int32) (v_power : Nat → Int32) (v_limbs : Nat → Int64) (o_r : Int64) (o_used : Int32) (o_d : Nat → Int32) (o_n : Nat → Int32) (o_power : Nat → Int32) (o_limbs : Nat → Int64) (h : f_X2_nearest v_used v_d v_n v_power v_limbs = some (o_r, o_used, o_d, o_n, o_power, o_limbs)) : Met l yX2_nearest w_X2_nearest ({ frames := 3, cells := 0, slots := 0, locals := 75 } : Room) (va_Pc [.ref a_this] (fun U => U.heap.size = sz ∧ va_P (dC, dI) vwCl (wd_X2_nearest a_this a_text a_d a_n a_power a_limbs c_d c_n c_power c_limbs v_thrown v_size v_used v_at v_d v_n v_power v_limbs) U.heap ∧ va_K (dC, dI) vwCl [(c_d, .int), (c_n, .int), (c_power, .int), (c_limbs, .long)] U ∧ va_D (fun _ => True) (wd_X2_nearest a_this a_text a_d a_n a_power a_limbs c_d c_n c_power c_limbs v_thrown v_size v_used v_at v_d v_n v_power v_limbs))) (va_Ql (fun r9 (_ : Unit) => r9 = o_r) (fun (_ : Unit) t => va_P (dC, dI) vwCl (wd_X2_nearest a_this a_text a_d a_n a_power a_limbs c_d c_n c_power c_limbs v_thrown v_size o_used v_at o_d o_n o_power o_limbs) t.heap ∧ va_K (dC, dI) vwCl [(c_d, .int), (c_n, .int), (c_power, .int), (c_limbs, .long)] t ∧ va_D (va_A (wd_X2_nearest a_this a_text a_d a_n a_power a_limbs c_d c_n c_power c_limbs v_thrown v_size v_used v_at v_d v_n v_power v_limbs) sz) (wd_X2_nearest a_this a_text a_d a_n a_power a_limbs c_d c_n c_power c_limbs v_thrown v_size o_used v_at o_d o_n o_power o_limbs)) (va_A (wd_X2_nearest a_this a_text a_d a_n a_power a_limbs c_d c_n c_power c_limbs v_thrown v_size v_used v_at v_d v_n v_power v_limbs) sz)) 0 0 (va_A (wd_X2_nearest a_this a_text a_d a_n a_power a_limbs c_d c_n c_power c_limbs v_thrown v_size v_used v_at v_d v_n v_power v_limbs) sz) := by
  refine Met.ofW (cc := cX2_nearest) (maxL := 7) (ret := (some .long)) (by decide) rfl ?_
  intro p e s m args below meth c s₁ B hml hv
  obtain ⟨rfl, hsz, hP, hK, hD0⟩ := hv
  have hx := B.exec
  have hb := B.bytes
  have hr := B.returns
  have hws : ∀ w ∈ wsL_law, w.before _ s = true := fun w hw => atoms_spec (ws := w_X2_nearest) B.pre w (List.mem_cons_of_mem _ hw)
  have hown : s.vm.findClass RX2 = some m.cls := findClass_of_methodNamed B.named
  have hlocks := B.notSynchronized
  subst hsz
  have hD := hD0.self (sz := s.heap.size)
  generalize hAe : va_A (wd_X2_nearest a_this a_text a_d a_n a_power a_limbs c_d c_n c_power c_limbs v_thrown v_size v_used v_at v_d v_n v_power v_limbs) s.heap.size = A at hD ⊢
  have hA : ∀ q : Nat, s.heap.size ≤ q → A q := fun q h => by rw [← hAe]; exact Or.inr h
  have hS : va_S A s.heap s.heap [] := va_S.rf
  have hl := lv_entry ([.ref a_this]) (n := 7) (Nat.le_of_ble_eq_true rfl)
  rw [lg_entry_eq]
  generalize (lg_sl ([.ref a_this]) ++ List.replicate (7 - (lg_sl ([.ref a_this])).length) Slot.unset).toArray = ls at hl ⊢
  have hl : lv_has ls 7 [(0, .ref a_this)] := hl
  unfold f_X2_nearest at h
  refine lv_aload_n hx hb dX2_nearest_0 rfl (lv_at hl 0 rfl) ?_
  refine va_get (D := (dC, dI)) (ci := 2) (v := .ref a_n) (C := RX2) (T := TX2) (N := 9) hx hb hws inlX2 hown hK hP 0 rfl rfl 4 (by decide) (hws _ ww_36) (fun _ h9 => h9) rfl dX2_nearest_1 ?_
  refine lv_iconst (v := 0) hx hb dX2_nearest_4 (by decide) ?_
  have hi : vp_in 0 7000 := by unfold vp_in; decide +kernel
  refine va_iald hx hb hK hP 2 1 rfl rfl hi dX2_nearest_5 ?_
  refine lv_if_eq (tgt := 21) hx hb dX2_nearest_6 (by decide) (fun c9 => ?_) (fun c9 => ?_)
  · have h := (if_pos c9).symm.trans h
    refine lv_lconst (v := 0) hx hb dX2_nearest_21 (by decide) ?_
    obtain ⟨h09, h19, h29, h39, h49, h59⟩ := rt6 h
    subst o_r
    subst o_used
    subst o_d
    subst o_n
    subst o_power
    subst o_limbs
    exact W.lret hx hb hr (fun t ht hW => ⟨⟨_, (), rfl, rfl, by rw [ht]; exact hP, va_K.moved hW.alike hK, hD⟩, hS.F ht⟩) hS.2.2 dX2_nearest_22
  · have h := (if_neg c9).symm.trans h
    refine lv_aload_n hx hb dX2_nearest_9 rfl (lv_at hl 0 rfl) ?_
    refine va_get (D := (dC, dI)) (ci := 2) (v := .ref a_power) (C := RX2) (T := TX2) (N := 9) hx hb hws inlX2 hown hK hP 0 rfl rfl 5 (by decide) (hws _ ww_37) (fun _ h9 => h9) rfl dX2_nearest_10 ?_
    refine lv_iconst (v := 0) hx hb dX2_nearest_13 (by decide) ?_
    have hi : vp_in 0 7000 := by unfold vp_in; decide +kernel
    refine va_iald hx hb hK hP 3 2 rfl rfl hi dX2_nearest_14 ?_
    refine lv_sipush (v := (-400)) hx hb dX2_nearest_15 (by decide) ?_
    refine lv_icmp_ge (tgt := 23) hx hb dX2_nearest_18 (by decide) (fun c9 => ?_) (fun c9 => ?_)
    · have h := (if_pos c9).symm.trans h
      refine lv_aload_n hx hb dX2_nearest_23 rfl (lv_at hl 0 rfl) ?_
      refine va_get (D := (dC, dI)) (ci := 2) (v := .ref a_power) (C := RX2) (T := TX2) (N := 9) hx hb hws inlX2 hown hK hP 0 rfl rfl 5 (by decide) (hws _ ww_37) (fun _ h9 => h9) rfl dX2_nearest_24 ?_
      refine lv_iconst (v := 0) hx hb dX2_nearest_27 (by decide) ?_
      have hi : vp_in 0 7000 := by unfold vp_in; decide +kernel
      refine va_iald hx hb hK hP 3 2 rfl rfl hi dX2_nearest_28 ?_
      refine lv_sipush (v := 400) hx hb dX2_nearest_29 (by decide) ?_
      refine lv_icmp_le (tgt := 39) hx hb dX2_nearest_32 (by decide) (fun c9 => ?_) (fun c9 => ?_)
      · have h := (if_pos c9).symm.trans h
        refine lv_lconst (v := 0) hx hb dX2_nearest_39 (by decide) ?_
        refine lv_lstore_n (lv' := [(1, .long 0), (0, .ref a_this)]) hx hb dX2_nearest_40 rfl hl (by decide) rfl (fun ls hl => ?_)
        refine lv_ldc2 (v := 9218868437227405311) hx hb hown (hws _ ww_248) dX2_nearest_41 ?_
        refine lv_lstore_n (lv' := [(3, .long 9218868437227405311), (1, .long 0), (0, .ref a_this)]) hx hb dX2_nearest_44 rfl hl (by decide) rfl (fun ls hl => ?_)
        exact w_X2_nearest_45 l a_this a_text a_d a_n a_power a_limbs c_d c_n c_power c_limbs hx hb hr hml hown hws hlocks hA FU 0 9218868437227405311 v_thrown v_size v_used v_at v_d v_n v_power v_limbs o_r o_used o_d o_n o_power o_limbs h s.heap [] hK hP hD hS ls (lv_sub hl [2, 1, 0] rfl)
      · have h := (if_neg c9).symm.trans h
        refine lv_ldc2 (v := 9218868437227405312) hx hb hown (hws _ ww_247) dX2_nearest_35 ?_
        obtain ⟨h09, h19, h29, h39, h49, h59⟩ := rt6 h
        subst o_r
        subst o_used
        subst o_d
        subst o_n
        subst o_power
        subst o_limbs
        exact W.lret hx hb hr (fun t ht hW => ⟨⟨_, (), rfl, rfl, by rw [ht]; exact hP, va_K.moved hW.alike hK, hD⟩, hS.F ht⟩) hS.2.2 dX2_nearest_38
    · have h := (if_neg c9).symm.trans h
      refine lv_lconst (v := 0) hx hb dX2_nearest_21 (by decide) ?_
      obtain ⟨h09, h19, h29, h39, h49, h59⟩ := rt6 h
      subst o_r
      subst o_used
      subst o_d
      subst o_n
      subst o_power
      subst o_limbs
      exact W.lret hx hb hr (fun t ht hW => ⟨⟨_, (), rfl, rfl, by rw [ht]; exact hP, va_K.moved hW.alike hK, hD⟩, hS.F ht⟩) hS.2.2 dX2_nearest_22
set_option maxHeartbeats 4000000 in
set_option maxRecDepth 100000 in
theorem w_X2_read_39 (l : Launch) {p : Program} {e : Env} {s : State} {m : MethodId} {args : Array Value} {below : List Frame} {meth : Method} {c : Code} {A : Nat → Prop} {dC : Nat → ClassId} {dI : Nat → Nat → Nat} (a_this a_text a_d a_n a_power a_limbs : Nat) (c_text c_d c_n c_power c_limbs : ClassId) (hx : p.tables.exec = Jvm.exec) (hb : c.code = cX2_read) (hr : meth.sig.returnType = (some .long)) (hml : c.maxLocals = 2) (hown : s.vm.findClass RX2 = some m.cls) (hws : ∀ w ∈ wsL_law, w.before args s = true) (hlocks : meth.locks = false) (hA : ∀ q : Nat, s.heap.size ≤ q → A q) : ∀ (l1 : Int32) (s1 : Int32) (v_thrown : Int32) (v_size : Int32) (v_used : Int32) (v_at : Int32) (v_text : Nat → Int32) (v_d : Nat → Int32) (v_n : Nat → Int32) (v_power : Nat → Int32) (v_limbs : Nat → Int64) (o_r : Int64) (o_thrown : Int32) (o_used : Int32) (o_at : Int32) (o_d : Nat → Int32) (o_n : Nat → Int32) (o_power : Nat → Int32) (o_limbs : Nat → Int64), f_X2_read_b39 l1 s1 v_thrown v_size v_used v_at v_text v_d v_n v_power v_limbs = some (o_r, o_thrown, o_used, o_at, o_d, o_n, o_power, o_limbs) → ∀ (H : Heap) (locs : List Loc), va_K (dC, dI) vwCl [(c_text, .int), (c_d, .int), (c_n, .int), (c_power, .int), (c_limbs, .long)] s → va_P (dC, dI) vwCl (wd_X2_read a_this a_text a_d a_n a_power a_limbs c_text c_d c_n c_power c_limbs v_thrown v_size v_used v_at v_text v_d v_n v_power v_limbs) H → va_D A (wd_X2_read a_this a_text a_d a_n a_power a_limbs c_text c_d c_n c_power c_limbs v_thrown v_size v_used v_at v_text v_d v_n v_power v_limbs) → va_S A s.heap H locs → ∀ (ls : Array Slot), lv_has ls 2 [(0, .ref a_this), (1, .int l1)] → W p l e (headSpec (w_X2_read) ({ frames := 4, cells := 0, slots := 0, locals := 101 } : Room)).room s m args below meth c H locs 0 0 (MQ below (va_Ql (fun r9 (_ : Unit) => r9 = o_r) (fun (_ : Unit) t => va_P (dC, dI) vwCl (wd_X2_read a_this a_text a_d a_n a_power a_limbs c_text c_d c_n c_power c_limbs o_thrown v_size o_used o_at v_text o_d o_n o_power o_limbs) t.heap ∧ va_K (dC, dI) vwCl [(c_text, .int), (c_d, .int), (c_n, .int), (c_power, .int), (c_limbs, .long)] t ∧ va_D A (wd_X2_read a_this a_text a_d a_n a_power a_limbs c_text c_d c_n c_power c_limbs o_thrown v_size o_used o_at v_text o_d o_n o_power o_limbs)) A) args s 0 0 A) (F0 m 39 ls [.int s1, .ref a_this]) := by
  intro l1 s1 v_thrown v_size v_used v_at v_text v_d v_n v_power v_limbs o_r o_thrown o_used o_at o_d o_n o_power o_limbs h H locs hK hP hD hS ls hl
  unfold f_X2_read_b39 at h
  refine va_put (D := (dC, dI)) (ci := 2) (v := .int s1) (ty := .int) (C := RX2) (T := TX2) (N := 9) hx hb hws inlX2 tyX2 tyX2_ok nmX2 hown hK hP hD hS 0 rfl rfl 0 (by decide) (hws _ ww_48) (fun _ h9 => h9) rfl (by decide +kernel) rfl rfl (Nat.le_of_ble_eq_true rfl) dX2_read_39 (fun H locs hP hD hS => ?_)
  have hP : va_P (dC, dI) vwCl (wd_X2_read a_this a_text a_d a_n a_power a_limbs c_text c_d c_n c_power c_limbs s1 v_size v_used v_at v_text v_d v_n v_power v_limbs) H := hP
  have hD : va_D A (wd_X2_read a_this a_text a_d a_n a_power a_limbs c_text c_d c_n c_power c_limbs s1 v_size v_used v_at v_text v_d v_n v_power v_limbs) := hD
  refine lv_aload_n hx hb dX2_read_42 rfl (lv_at hl 0 rfl) ?_
  refine va_get (D := (dC, dI)) (ci := 2) (v := .int s1) (C := RX2) (T := TX2) (N := 9) hx hb hws inlX2 hown hK hP 0 rfl rfl 0 (by decide) (hws _ ww_48) (fun _ h9 => h9) rfl dX2_read_43 ?_
  refine lv_if_eq (tgt := 51) hx hb dX2_read_46 (by decide) (fun c9 => ?_) (fun c9 => ?_)
  · have h := (if_pos c9).symm.trans h
    refine lv_aload_n hx hb dX2_read_51 rfl (lv_at hl 0 rfl) ?_
    obtain ⟨⟨r52, v_used_52, v_d_52, v_n_52, v_power_52, v_limbs_52⟩, hc, h⟩ := bd h
    dsimp only at h
    have hPc := hP.sub (ws' := (wd_X2_nearest a_this a_text a_d a_n a_power a_limbs c_d c_n c_power c_limbs s1 v_size v_used v_at v_d v_n v_power v_limbs)) [0, 2, 3, 4, 5] rfl
    have hDc := hD.sub (ws' := (wd_X2_nearest a_this a_text a_d a_n a_power a_limbs c_d c_n c_power c_limbs s1 v_size v_used v_at v_d v_n v_power v_limbs)) [0, 2, 3, 4, 5] (by decide) rfl
    have hKc := hK.sub (tys' := [(c_d, .int), (c_n, .int), (c_power, .int), (c_limbs, .long)]) [1, 2, 3, 4] rfl
    have hFc := va_free (wc := (wd_X2_nearest a_this a_text a_d a_n a_power a_limbs c_d c_n c_power c_limbs s1 v_size v_used v_at v_d v_n v_power v_limbs)) hD hS hA [0, 2, 3, 4, 5] rfl
    refine va_calll (va_runV (As := []) (rest := []) ⟨hx, hb, hml, hown, hws⟩ (c_X2_nearest l dC dI  a_this a_text a_d a_n a_power a_limbs c_d c_n c_power c_limbs (Array.size H)  s1 v_size v_used v_at v_d v_n v_power v_limbs r52 v_used_52 v_d_52 v_n_52 v_power_52 v_limbs_52 hc) (cwV 0 hws (gV ww_243 ww_244 ww_245 ww_5 ww_246) rfl rfl rfl (by decide +kernel) ⟨Nat.le_of_ble_eq_true rfl, Nat.le_of_ble_eq_true rfl⟩) ⟨(fun a U g mk q => by obtain ⟨q0, q1, qP, qK, qD⟩ := q; exact ⟨q0, q1, qP, va_K.moved (u := U) (U := U.calling g mk a) (Vm.Alike.refl U.vm) qK, qD⟩), va_recv hKc hPc (ci := 2) (q0 := 0) rfl rfl, (fun U hU hW => ⟨rfl, by rw [hU], by rw [hU]; exact hPc, va_K.moved hW.alike hKc, hDc.weaken (fun _ _ _ _ => trivial)⟩)⟩ rfl rfl hl.1 rfl (lv_room (Nat.le_of_ble_eq_true rfl)) dX2_read_52 ⟨Nat.zero_le _, Nat.zero_le _⟩) hS (fun q _ h => hFc q h) hFc (fun r9 u9 t H1 locs ht hvm hw hB hz1 hk1 hS => ?_)
    obtain ⟨hP1, hK1, hD1⟩ := hB
    rw [ht] at hP1
    subst r9
    obtain ⟨hP, hD⟩ := va_join (wr := [(a_text, .inl (c_text, 400, .inl v_text))]) (w1 := (wd_X2_nearest a_this a_text a_d a_n a_power a_limbs c_d c_n c_power c_limbs s1 v_size v_used_52 v_at v_d_52 v_n_52 v_power_52 v_limbs_52)) hP hD [0, 2, 3, 4, 5] [1] rfl rfl (by decide) (by decide) hk1 hFc hP1 hD1
    generalize H1 = H at hP hS ⊢
    have hP : va_P (dC, dI) vwCl (wd_X2_read a_this a_text a_d a_n a_power a_limbs c_text c_d c_n c_power c_limbs s1 v_size v_used_52 v_at v_text v_d_52 v_n_52 v_power_52 v_limbs_52) H := hP.sub [1, 0, 2, 3, 4, 5] rfl
    have hD : va_D A (wd_X2_read a_this a_text a_d a_n a_power a_limbs c_text c_d c_n c_power c_limbs s1 v_size v_used_52 v_at v_text v_d_52 v_n_52 v_power_52 v_limbs_52) := hD.sub [1, 0, 2, 3, 4, 5] (by decide) rfl
    clear hP1 hK1 hD1 hPc hDc hKc hFc hk1 hz1 ht hvm
    refine lv_iload_n hx hb dX2_read_55 rfl (lv_at hl 1 rfl) ?_
    refine lv_if_eq (tgt := 65) hx hb dX2_read_56 (by decide) (fun c9 => ?_) (fun c9 => ?_)
    · have h := (if_pos c9).symm.trans h
      refine lv_lconst (v := 0) hx hb dX2_read_65 (by decide) ?_
      refine lv_lor hx hb dX2_read_66 ?_
      obtain ⟨h09, h19, h29, h39, h49, h59, h69, h79⟩ := rt8 h
      subst o_r
      subst o_thrown
      subst o_used
      subst o_at
      subst o_d
      subst o_n
      subst o_power
      subst o_limbs
      exact W.lret hx hb hr (fun t ht hW => ⟨⟨_, (), rfl, rfl, by rw [ht]; exact hP, va_K.moved hW.alike hK, hD⟩, hS.F ht⟩) hS.2.2 dX2_read_67
    · have h := (if_neg c9).symm.trans h
      refine lv_ldc2 (v := (-9223372036854775808)) hx hb hown (hws _ ww_222) dX2_read_59 ?_
      refine lv_goto (tgt := 66) hx hb dX2_read_62 (by decide) ?_
      refine lv_lor hx hb dX2_read_66 ?_
      obtain ⟨h09, h19, h29, h39, h49, h59, h69, h79⟩ := rt8 h
      subst o_r
      subst o_thrown
      subst o_used
      subst o_at
      subst o_d
      subst o_n
      subst o_power
      subst o_limbs
      exact W.lret hx hb hr (fun t ht hW => ⟨⟨_, (), rfl, rfl, by rw [ht]; exact hP, va_K.moved hW.alike hK, hD⟩, hS.F ht⟩) hS.2.2 dX2_read_67
  · have h := (if_neg c9).symm.trans h
    refine lv_lconst (v := 0) hx hb dX2_read_49 (by decide) ?_
    obtain ⟨h09, h19, h29, h39, h49, h59, h69, h79⟩ := rt8 h
    subst o_r
    subst o_thrown
    subst o_used
    subst o_at
    subst o_d
    subst o_n
    subst o_power
    subst o_limbs
    exact W.lret hx hb hr (fun t ht hW => ⟨⟨_, (), rfl, rfl, by rw [ht]; exact hP, va_K.moved hW.alike hK, hD⟩, hS.F ht⟩) hS.2.2 dX2_read_50
set_option maxHeartbeats 4000000 in
set_option maxRecDepth 100000 in
theorem w_X2_read_26 (l : Launch) {p : Program} {e : Env} {s : State} {m : MethodId} {args : Array Value} {below : List Frame} {meth : Method} {c : Code} {A : Nat → Prop} {dC : Nat → ClassId} {dI : Nat → Nat → Nat} (a_this a_text a_d a_n a_power a_limbs : Nat) (c_text c_d c_n c_power c_limbs : ClassId) (hx : p.tables.exec = Jvm.exec) (hb : c.code = cX2_read) (hr : meth.sig.returnType = (some .long)) (hml : c.maxLocals = 2) (hown : s.vm.findClass RX2 = some m.cls) (hws : ∀ w ∈ wsL_law, w.before args s = true) (hlocks : meth.locks = false) (hA : ∀ q : Nat, s.heap.size ≤ q → A q) : ∀ (l1 : Int32) (v_thrown : Int32) (v_size : Int32) (v_used : Int32) (v_at : Int32) (v_text : Nat → Int32) (v_d : Nat → Int32) (v_n : Nat → Int32) (v_power : Nat → Int32) (v_limbs : Nat → Int64) (o_r : Int64) (o_thrown : Int32) (o_used : Int32) (o_at : Int32) (o_d : Nat → Int32) (o_n : Nat → Int32) (o_power : Nat → Int32) (o_limbs : Nat → Int64), f_X2_read_b26 l1 v_thrown v_size v_used v_at v_text v_d v_n v_power v_limbs = some (o_r, o_thrown, o_used, o_at, o_d, o_n, o_power, o_limbs) → ∀ (H : Heap) (locs : List Loc), va_K (dC, dI) vwCl [(c_text, .int), (c_d, .int), (c_n, .int), (c_power, .int), (c_limbs, .long)] s → va_P (dC, dI) vwCl (wd_X2_read a_this a_text a_d a_n a_power a_limbs c_text c_d c_n c_power c_limbs v_thrown v_size v_used v_at v_text v_d v_n v_power v_limbs) H → va_D A (wd_X2_read a_this a_text a_d a_n a_power a_limbs c_text c_d c_n c_power c_limbs v_thrown v_size v_used v_at v_text v_d v_n v_power v_limbs) → va_S A s.heap H locs → ∀ (ls : Array Slot), lv_has ls 2 [(0, .ref a_this), (1, .int l1)] → W p l e (headSpec (w_X2_read) ({ frames := 4, cells := 0, slots := 0, locals := 101 } : Room)).room s m args below meth c H locs 0 0 (MQ below (va_Ql (fun r9 (_ : Unit) => r9 = o_r) (fun (_ : Unit) t => va_P (dC, dI) vwCl (wd_X2_read a_this a_text a_d a_n a_power a_limbs c_text c_d c_n c_power c_limbs o_thrown v_size o_used o_at v_text o_d o_n o_power o_limbs) t.heap ∧ va_K (dC, dI) vwCl [(c_text, .int), (c_d, .int), (c_n, .int), (c_power, .int), (c_limbs, .long)] t ∧ va_D A (wd_X2_read a_this a_text a_d a_n a_power a_limbs c_text c_d c_n c_power c_limbs o_thrown v_size o_used o_at v_text o_d o_n o_power o_limbs)) A) args s 0 0 A) (F0 m 26 ls []) := by
  intro l1 v_thrown v_size v_used v_at v_text v_d v_n v_power v_limbs o_r o_thrown o_used o_at o_d o_n o_power o_limbs h H locs hK hP hD hS ls hl
  unfold f_X2_read_b26 at h
  refine lv_aload_n hx hb dX2_read_26 rfl (lv_at hl 0 rfl) ?_
  refine lv_aload_n hx hb dX2_read_27 rfl (lv_at hl 0 rfl) ?_
  obtain ⟨⟨r28, v_at_28, v_d_28, v_n_28, v_power_28⟩, hc, h⟩ := bd h
  dsimp only at h
  have hPc := hP.sub (ws' := (wd_X2_parse a_this a_text a_d a_n a_power a_limbs c_text c_d c_n c_power v_thrown v_size v_used v_at v_text v_d v_n v_power)) [0, 1, 2, 3, 4] rfl
  have hDc := hD.sub (ws' := (wd_X2_parse a_this a_text a_d a_n a_power a_limbs c_text c_d c_n c_power v_thrown v_size v_used v_at v_text v_d v_n v_power)) [0, 1, 2, 3, 4] (by decide) rfl
  have hKc := hK.sub (tys' := [(c_text, .int), (c_d, .int), (c_n, .int), (c_power, .int)]) [0, 1, 2, 3] rfl
  have hFc := va_free (wc := (wd_X2_parse a_this a_text a_d a_n a_power a_limbs c_text c_d c_n c_power v_thrown v_size v_used v_at v_text v_d v_n v_power)) hD hS hA [0, 1, 2, 3, 4] rfl
  refine va_calli (va_runV (As := []) (rest := [.ref a_this]) ⟨hx, hb, hml, hown, hws⟩ (c_X2_parse l dC dI  a_this a_text a_d a_n a_power a_limbs c_text c_d c_n c_power (Array.size H)  v_thrown v_size v_used v_at v_text v_d v_n v_power r28 v_at_28 v_d_28 v_n_28 v_power_28 hc) (cwV 0 hws (gV ww_227 ww_228 ww_229 ww_5 ww_230) rfl rfl rfl (by decide +kernel) ⟨Nat.le_of_ble_eq_true rfl, Nat.le_of_ble_eq_true rfl⟩) ⟨(fun a U g mk q => by obtain ⟨q0, q1, qP, qK, qD⟩ := q; exact ⟨q0, q1, qP, va_K.moved (u := U) (U := U.calling g mk a) (Vm.Alike.refl U.vm) qK, qD⟩), va_recv hKc hPc (ci := 2) (q0 := 0) rfl rfl, (fun U hU hW => ⟨rfl, by rw [hU], by rw [hU]; exact hPc, va_K.moved hW.alike hKc, hDc.weaken (fun _ _ _ _ => trivial)⟩)⟩ rfl rfl hl.1 rfl (lv_room (Nat.le_of_ble_eq_true rfl)) dX2_read_28 ⟨Nat.zero_le _, Nat.zero_le _⟩) hS (fun q _ h => hFc q h) hFc (fun r9 u9 t H1 locs ht hvm hw hB hz1 hk1 hS => ?_)
  obtain ⟨hP1, hK1, hD1⟩ := hB
  rw [ht] at hP1
  subst r9
  obtain ⟨hP, hD⟩ := va_join (wr := [(a_limbs, .inl (c_limbs, 160, .inr (.inl v_limbs)))]) (w1 := (wd_X2_parse a_this a_text a_d a_n a_power a_limbs c_text c_d c_n c_power v_thrown v_size v_used v_at_28 v_text v_d_28 v_n_28 v_power_28)) hP hD [0, 1, 2, 3, 4] [5] rfl rfl (by decide) (by decide) hk1 hFc hP1 hD1
  generalize H1 = H at hP hS ⊢
  have hP : va_P (dC, dI) vwCl (wd_X2_read a_this a_text a_d a_n a_power a_limbs c_text c_d c_n c_power c_limbs v_thrown v_size v_used v_at_28 v_text v_d_28 v_n_28 v_power_28 v_limbs) H := hP.sub [1, 2, 3, 4, 5, 0] rfl
  have hD : va_D A (wd_X2_read a_this a_text a_d a_n a_power a_limbs c_text c_d c_n c_power c_limbs v_thrown v_size v_used v_at_28 v_text v_d_28 v_n_28 v_power_28 v_limbs) := hD.sub [1, 2, 3, 4, 5, 0] (by decide) rfl
  clear hP1 hK1 hD1 hPc hDc hKc hFc hk1 hz1 ht hvm
  refine lv_if_eq (tgt := 38) hx hb dX2_read_31 (by decide) (fun c9 => ?_) (fun c9 => ?_)
  · have h := (if_pos c9).symm.trans h
    refine lv_iconst (v := 1) hx hb dX2_read_38 (by decide) ?_
    exact w_X2_read_39 l a_this a_text a_d a_n a_power a_limbs c_text c_d c_n c_power c_limbs hx hb hr hml hown hws hlocks hA l1 1 v_thrown v_size v_used v_at_28 v_text v_d_28 v_n_28 v_power_28 v_limbs o_r o_thrown o_used o_at o_d o_n o_power o_limbs h H locs hK hP hD hS ls (lv_sub hl [0, 1] rfl)
  · have h := (if_neg c9).symm.trans h
    refine lv_iconst (v := 0) hx hb dX2_read_34 (by decide) ?_
    refine lv_goto (tgt := 39) hx hb dX2_read_35 (by decide) ?_
    exact w_X2_read_39 l a_this a_text a_d a_n a_power a_limbs c_text c_d c_n c_power c_limbs hx hb hr hml hown hws hlocks hA l1 0 v_thrown v_size v_used v_at_28 v_text v_d_28 v_n_28 v_power_28 v_limbs o_r o_thrown o_used o_at o_d o_n o_power o_limbs h H locs hK hP hD hS ls (lv_sub hl [0, 1] rfl)
set_option maxHeartbeats 4000000 in
set_option maxRecDepth 100000 in
theorem c_X2_read (l : Launch) (dC : Nat → ClassId) (dI : Nat → Nat → Nat)  (a_this a_text a_d a_n a_power a_limbs : Nat) (c_text c_d c_n c_power c_limbs : ClassId) (sz : Nat)  (v_thrown : Int32) (v_size : Int32) (v_used : Int32) (v_at : Int32) (v_text : Nat → Int32) (v_d : Nat → Int32) (v_n : Nat → Int32) (v_power : Nat → Int32) (v_limbs : Nat → Int64) (o_r : Int64) (o_thrown : Int32) (o_used : Int32) (o_at : Int32) (o_d : Nat → Int32) (o_n : Nat → Int32) (o_power : Nat → Int32) (o_limbs : Nat → Int64) (h : f_X2_read v_thrown v_size v_used v_at v_text v_d v_n v_power v_limbs = some (o_r, o_thrown, o_used, o_at, o_d, o_n, o_power, o_limbs)) : Met l yX2_read w_X2_read ({ frames := 4, cells := 0, slots := 0, locals := 101 } : Room) (va_Pc [.ref a_this] (fun U => U.heap.size = sz ∧ va_P (dC, dI) vwCl (wd_X2_read a_this a_text a_d a_n a_power a_limbs c_text c_d c_n c_power c_limbs v_thrown v_size v_used v_at v_text v_d v_n v_power v_limbs) U.heap ∧ va_K (dC, dI) vwCl [(c_text, .int), (c_d, .int), (c_n, .int), (c_power, .int), (c_limbs, .long)] U ∧ va_D (fun _ => True) (wd_X2_read a_this a_text a_d a_n a_power a_limbs c_text c_d c_n c_power c_limbs v_thrown v_size v_used v_at v_text v_d v_n v_power v_limbs))) (va_Ql (fun r9 (_ : Unit) => r9 = o_r) (fun (_ : Unit) t => va_P (dC, dI) vwCl (wd_X2_read a_this a_text a_d a_n a_power a_limbs c_text c_d c_n c_power c_limbs o_thrown v_size o_used o_at v_text o_d o_n o_power o_limbs) t.heap ∧ va_K (dC, dI) vwCl [(c_text, .int), (c_d, .int), (c_n, .int), (c_power, .int), (c_limbs, .long)] t ∧ va_D (va_A (wd_X2_read a_this a_text a_d a_n a_power a_limbs c_text c_d c_n c_power c_limbs v_thrown v_size v_used v_at v_text v_d v_n v_power v_limbs) sz) (wd_X2_read a_this a_text a_d a_n a_power a_limbs c_text c_d c_n c_power c_limbs o_thrown v_size o_used o_at v_text o_d o_n o_power o_limbs)) (va_A (wd_X2_read a_this a_text a_d a_n a_power a_limbs c_text c_d c_n c_power c_limbs v_thrown v_size v_used v_at v_text v_d v_n v_power v_limbs) sz)) 0 0 (va_A (wd_X2_read a_this a_text a_d a_n a_power a_limbs c_text c_d c_n c_power c_limbs v_thrown v_size v_used v_at v_text v_d v_n v_power v_limbs) sz) := by
  refine Met.ofW (cc := cX2_read) (maxL := 2) (ret := (some .long)) (by decide) rfl ?_
  intro p e s m args below meth c s₁ B hml hv
  obtain ⟨rfl, hsz, hP, hK, hD0⟩ := hv
  have hx := B.exec
  have hb := B.bytes
  have hr := B.returns
  have hws : ∀ w ∈ wsL_law, w.before _ s = true := fun w hw => atoms_spec (ws := w_X2_read) B.pre w (List.mem_cons_of_mem _ hw)
  have hown : s.vm.findClass RX2 = some m.cls := findClass_of_methodNamed B.named
  have hlocks := B.notSynchronized
  subst hsz
  have hD := hD0.self (sz := s.heap.size)
  generalize hAe : va_A (wd_X2_read a_this a_text a_d a_n a_power a_limbs c_text c_d c_n c_power c_limbs v_thrown v_size v_used v_at v_text v_d v_n v_power v_limbs) s.heap.size = A at hD ⊢
  have hA : ∀ q : Nat, s.heap.size ≤ q → A q := fun q h => by rw [← hAe]; exact Or.inr h
  have hS : va_S A s.heap s.heap [] := va_S.rf
  have hl := lv_entry ([.ref a_this]) (n := 2) (Nat.le_of_ble_eq_true rfl)
  rw [lg_entry_eq]
  generalize (lg_sl ([.ref a_this]) ++ List.replicate (2 - (lg_sl ([.ref a_this])).length) Slot.unset).toArray = ls at hl ⊢
  have hl : lv_has ls 2 [(0, .ref a_this)] := hl
  unfold f_X2_read at h
  refine lv_aload_n hx hb dX2_read_0 rfl (lv_at hl 0 rfl) ?_
  refine lv_iconst (v := 0) hx hb dX2_read_1 (by decide) ?_
  refine va_put (D := (dC, dI)) (ci := 2) (v := .int 0) (ty := .int) (C := RX2) (T := TX2) (N := 9) hx hb hws inlX2 tyX2 tyX2_ok nmX2 hown hK hP hD hS 0 rfl rfl 8 (by decide) (hws _ ww_221) (fun _ h9 => h9) rfl (by decide +kernel) rfl rfl (Nat.le_of_ble_eq_true rfl) dX2_read_2 (fun H locs hP hD hS => ?_)
  have hP : va_P (dC, dI) vwCl (wd_X2_read a_this a_text a_d a_n a_power a_limbs c_text c_d c_n c_power c_limbs v_thrown v_size v_used 0 v_text v_d v_n v_power v_limbs) H := hP
  have hD : va_D A (wd_X2_read a_this a_text a_d a_n a_power a_limbs c_text c_d c_n c_power c_limbs v_thrown v_size v_used 0 v_text v_d v_n v_power v_limbs) := hD
  refine lv_aload_n hx hb dX2_read_5 rfl (lv_at hl 0 rfl) ?_
  refine lv_bipush (v := 45) hx hb dX2_read_6 (by decide) ?_
  obtain ⟨r8, hc, h⟩ := bd h
  have hPc := hP.sub (ws' := (wd_X2_is a_this a_text a_d a_n a_power a_limbs c_text v_thrown v_size v_used 0 v_text)) [0, 1] rfl
  have hDc := hD.sub (ws' := (wd_X2_is a_this a_text a_d a_n a_power a_limbs c_text v_thrown v_size v_used 0 v_text)) [0, 1] (by decide) rfl
  have hKc := hK.sub (tys' := [(c_text, .int)]) [0] rfl
  have hFc := va_free (wc := (wd_X2_is a_this a_text a_d a_n a_power a_limbs c_text v_thrown v_size v_used 0 v_text)) hD hS hA [0, 1] rfl
  refine va_calli (va_runV (As := [.int 45]) (rest := []) ⟨hx, hb, hml, hown, hws⟩ (c_X2_is l dC dI  a_this a_text a_d a_n a_power a_limbs c_text (Array.size H) 45 v_thrown v_size v_used 0 v_text r8 hc) (cwV 1 hws (gV ww_223 ww_224 ww_225 ww_5 ww_226) rfl rfl rfl (by decide +kernel) ⟨Nat.le_of_ble_eq_true rfl, Nat.le_of_ble_eq_true rfl⟩) ⟨(fun a U g mk q => by obtain ⟨q0, q1, qP, qK, qD⟩ := q; exact ⟨q0, q1, qP, va_K.moved (u := U) (U := U.calling g mk a) (Vm.Alike.refl U.vm) qK, qD⟩), va_recv hKc hPc (ci := 2) (q0 := 0) rfl rfl, (fun U hU hW => ⟨rfl, by rw [hU], by rw [hU]; exact hPc, va_K.moved hW.alike hKc, hDc.weaken (fun _ _ _ _ => trivial)⟩)⟩ rfl rfl hl.1 rfl (lv_room (Nat.le_of_ble_eq_true rfl)) dX2_read_8 ⟨Nat.zero_le _, Nat.zero_le _⟩) hS (fun q _ h => hFc q h) hFc (fun r9 u9 t H1 locs ht hvm hw hB hz1 hk1 hS => ?_)
  obtain ⟨hP1, hK1, hD1⟩ := hB
  rw [ht] at hP1
  subst r9
  obtain ⟨hP, hD⟩ := va_join (wr := [(a_d, .inl (c_d, 7000, .inl v_d)), (a_n, .inl (c_n, 7000, .inl v_n)), (a_power, .inl (c_power, 7000, .inl v_power)), (a_limbs, .inl (c_limbs, 160, .inr (.inl v_limbs)))]) (w1 := (wd_X2_is a_this a_text a_d a_n a_power a_limbs c_text v_thrown v_size v_used 0 v_text)) hP hD [0, 1] [2, 3, 4, 5] rfl rfl (by decide) (by decide) hk1 hFc hP1 hD1
  generalize H1 = H at hP hS ⊢
  have hP : va_P (dC, dI) vwCl (wd_X2_read a_this a_text a_d a_n a_power a_limbs c_text c_d c_n c_power c_limbs v_thrown v_size v_used 0 v_text v_d v_n v_power v_limbs) H := hP.sub [4, 5, 0, 1, 2, 3] rfl
  have hD : va_D A (wd_X2_read a_this a_text a_d a_n a_power a_limbs c_text c_d c_n c_power c_limbs v_thrown v_size v_used 0 v_text v_d v_n v_power v_limbs) := hD.sub [4, 5, 0, 1, 2, 3] (by decide) rfl
  clear hP1 hK1 hD1 hPc hDc hKc hFc hk1 hz1 ht hvm
  refine lv_istore_n (lv' := [(1, .int r8), (0, .ref a_this)]) hx hb dX2_read_11 rfl hl (by decide) rfl (fun ls hl => ?_)
  refine lv_iload_n hx hb dX2_read_12 rfl (lv_at hl 0 rfl) ?_
  refine lv_if_eq (tgt := 26) hx hb dX2_read_13 (by decide) (fun c9 => ?_) (fun c9 => ?_)
  · have h := (if_pos c9).symm.trans h
    exact w_X2_read_26 l a_this a_text a_d a_n a_power a_limbs c_text c_d c_n c_power c_limbs hx hb hr hml hown hws hlocks hA r8 v_thrown v_size v_used 0 v_text v_d v_n v_power v_limbs o_r o_thrown o_used o_at o_d o_n o_power o_limbs h H locs hK hP hD hS ls (lv_sub hl [1, 0] rfl)
  · have h := (if_neg c9).symm.trans h
    refine lv_aload_n hx hb dX2_read_16 rfl (lv_at hl 1 rfl) ?_
    refine lv_dup hx hb dX2_read_17 rfl ?_
    refine va_get (D := (dC, dI)) (ci := 2) (v := .int 0) (C := RX2) (T := TX2) (N := 9) hx hb hws inlX2 hown hK hP 0 rfl rfl 8 (by decide) (hws _ ww_221) (fun _ h9 => h9) rfl dX2_read_18 ?_
    refine lv_iconst (v := 1) hx hb dX2_read_21 (by decide) ?_
    refine lv_iadd hx hb dX2_read_22 ?_
    refine va_put (D := (dC, dI)) (ci := 2) (v := .int (0 + 1)) (ty := .int) (C := RX2) (T := TX2) (N := 9) hx hb hws inlX2 tyX2 tyX2_ok nmX2 hown hK hP hD hS 0 rfl rfl 8 (by decide) (hws _ ww_221) (fun _ h9 => h9) rfl (by decide +kernel) rfl rfl (Nat.le_of_ble_eq_true rfl) dX2_read_23 (fun H locs hP hD hS => ?_)
    have hP : va_P (dC, dI) vwCl (wd_X2_read a_this a_text a_d a_n a_power a_limbs c_text c_d c_n c_power c_limbs v_thrown v_size v_used (0 + 1) v_text v_d v_n v_power v_limbs) H := hP
    have hD : va_D A (wd_X2_read a_this a_text a_d a_n a_power a_limbs c_text c_d c_n c_power c_limbs v_thrown v_size v_used (0 + 1) v_text v_d v_n v_power v_limbs) := hD
    exact w_X2_read_26 l a_this a_text a_d a_n a_power a_limbs c_text c_d c_n c_power c_limbs hx hb hr hml hown hws hlocks hA r8 v_thrown v_size v_used (0 + 1) v_text v_d v_n v_power v_limbs o_r o_thrown o_used o_at o_d o_n o_power o_limbs h H locs hK hP hD hS ls (lv_sub hl [1, 0] rfl)
set_option maxHeartbeats 4000000 in
set_option maxRecDepth 100000 in
theorem c_X2_put (l : Launch) (dC : Nat → ClassId) (dI : Nat → Nat → Nat)  (a_this a_text a_d a_n a_power a_limbs : Nat) (c_text : ClassId) (sz : Nat) (l1 : Int32) (v_thrown : Int32) (v_size : Int32) (v_used : Int32) (v_at : Int32) (v_text : Nat → Int32) (o_size : Int32) (o_text : Nat → Int32) (h : f_X2_put l1 v_size v_text = some (o_size, o_text)) : Met l yX2_put w_X2_put ({ frames := 0, cells := 0, slots := 0, locals := 0 } : Room) (va_Pc [.ref a_this, .int l1] (fun U => U.heap.size = sz ∧ va_P (dC, dI) vwCl (wd_X2_put a_this a_text a_d a_n a_power a_limbs c_text v_thrown v_size v_used v_at v_text) U.heap ∧ va_K (dC, dI) vwCl [(c_text, .int)] U ∧ va_D (fun _ => True) (wd_X2_put a_this a_text a_d a_n a_power a_limbs c_text v_thrown v_size v_used v_at v_text))) (va_Qv (fun (_ : Unit) => True) (fun (_ : Unit) t => va_P (dC, dI) vwCl (wd_X2_put a_this a_text a_d a_n a_power a_limbs c_text v_thrown o_size v_used v_at o_text) t.heap ∧ va_K (dC, dI) vwCl [(c_text, .int)] t ∧ va_D (va_A (wd_X2_put a_this a_text a_d a_n a_power a_limbs c_text v_thrown v_size v_used v_at v_text) sz) (wd_X2_put a_this a_text a_d a_n a_power a_limbs c_text v_thrown o_size v_used v_at o_text)) (va_A (wd_X2_put a_this a_text a_d a_n a_power a_limbs c_text v_thrown v_size v_used v_at v_text) sz)) 0 0 (va_A (wd_X2_put a_this a_text a_d a_n a_power a_limbs c_text v_thrown v_size v_used v_at v_text) sz) := by
  refine Met.ofW (cc := cX2_put) (maxL := 2) (ret := none) (by decide) rfl ?_
  intro p e s m args below meth c s₁ B hml hv
  obtain ⟨rfl, hsz, hP, hK, hD0⟩ := hv
  have hx := B.exec
  have hb := B.bytes
  have hr := B.returns
  have hws : ∀ w ∈ wsL_law, w.before _ s = true := fun w hw => atoms_spec (ws := w_X2_put) B.pre w (List.mem_cons_of_mem _ hw)
  have hown : s.vm.findClass RX2 = some m.cls := findClass_of_methodNamed B.named
  have hlocks := B.notSynchronized
  subst hsz
  have hD := hD0.self (sz := s.heap.size)
  generalize hAe : va_A (wd_X2_put a_this a_text a_d a_n a_power a_limbs c_text v_thrown v_size v_used v_at v_text) s.heap.size = A at hD ⊢
  have hA : ∀ q : Nat, s.heap.size ≤ q → A q := fun q h => by rw [← hAe]; exact Or.inr h
  have hS : va_S A s.heap s.heap [] := va_S.rf
  have hl := lv_entry ([.ref a_this, .int l1]) (n := 2) (Nat.le_of_ble_eq_true rfl)
  rw [lg_entry_eq]
  generalize (lg_sl ([.ref a_this, .int l1]) ++ List.replicate (2 - (lg_sl ([.ref a_this, .int l1])).length) Slot.unset).toArray = ls at hl ⊢
  have hl : lv_has ls 2 [(0, .ref a_this), (1, .int l1)] := hl
  unfold f_X2_put at h
  refine lv_aload_n hx hb dX2_put_0 rfl (lv_at hl 0 rfl) ?_
  refine va_get (D := (dC, dI)) (ci := 2) (v := .ref a_text) (C := RX2) (T := TX2) (N := 9) hx hb hws inlX2 hown hK hP 0 rfl rfl 1 (by decide) (hws _ ww_34) (fun _ h9 => h9) rfl dX2_put_1 ?_
  refine lv_aload_n hx hb dX2_put_4 rfl (lv_at hl 0 rfl) ?_
  refine va_get (D := (dC, dI)) (ci := 2) (v := .int v_size) (C := RX2) (T := TX2) (N := 9) hx hb hws inlX2 hown hK hP 0 rfl rfl 2 (by decide) (hws _ ww_49) (fun _ h9 => h9) rfl dX2_put_5 ?_
  refine lv_iload_n hx hb dX2_put_8 rfl (lv_at hl 1 rfl) ?_
  obtain ⟨hi, h⟩ := gd h
  refine va_iast hx hb hK hP hD hS 1 0 rfl rfl hi dX2_put_9 (fun H locs hP hD hS => ?_)
  have hP : va_P (dC, dI) vwCl (wd_X2_put a_this a_text a_d a_n a_power a_limbs c_text v_thrown v_size v_used v_at (upd v_text (Int32.toNatClampNeg v_size) l1)) H := hP
  have hD : va_D A (wd_X2_put a_this a_text a_d a_n a_power a_limbs c_text v_thrown v_size v_used v_at (upd v_text (Int32.toNatClampNeg v_size) l1)) := hD
  refine lv_aload_n hx hb dX2_put_10 rfl (lv_at hl 0 rfl) ?_
  refine lv_dup hx hb dX2_put_11 rfl ?_
  refine va_get (D := (dC, dI)) (ci := 2) (v := .int v_size) (C := RX2) (T := TX2) (N := 9) hx hb hws inlX2 hown hK hP 0 rfl rfl 2 (by decide) (hws _ ww_49) (fun _ h9 => h9) rfl dX2_put_12 ?_
  refine lv_iconst (v := 1) hx hb dX2_put_15 (by decide) ?_
  refine lv_iadd hx hb dX2_put_16 ?_
  refine va_put (D := (dC, dI)) (ci := 2) (v := .int (v_size + 1)) (ty := .int) (C := RX2) (T := TX2) (N := 9) hx hb hws inlX2 tyX2 tyX2_ok nmX2 hown hK hP hD hS 0 rfl rfl 2 (by decide) (hws _ ww_49) (fun _ h9 => h9) rfl (by decide +kernel) rfl rfl (Nat.le_of_ble_eq_true rfl) dX2_put_17 (fun H locs hP hD hS => ?_)
  have hP : va_P (dC, dI) vwCl (wd_X2_put a_this a_text a_d a_n a_power a_limbs c_text v_thrown (v_size + 1) v_used v_at (upd v_text (Int32.toNatClampNeg v_size) l1)) H := hP
  have hD : va_D A (wd_X2_put a_this a_text a_d a_n a_power a_limbs c_text v_thrown (v_size + 1) v_used v_at (upd v_text (Int32.toNatClampNeg v_size) l1)) := hD
  obtain ⟨h09, h19⟩ := rt2 h
  subst o_size
  subst o_text
  exact W.vret hx hb hr (fun t ht hW => ⟨⟨(), rfl, trivial, by rw [ht]; exact hP, va_K.moved hW.alike hK, hD⟩, hS.F ht⟩) hS.2.2 dX2_put_20
