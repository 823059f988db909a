set_option maxHeartbeats 4000000 in
set_option maxRecDepth 100000 in
theorem w_X2_row_243 (l : Launch) {p : Program} {e : Env} {s : State} {m : MethodId} {args : Array Value} {below : List Frame} {meth : Method} {c : Code} {A : Nat → Prop} {dC : Nat → ClassId} {dI : Nat → Nat → Nat} (a_this a_text a_d a_n a_power a_limbs : Nat) (c_d c_n c_power c_limbs : ClassId) (hx : p.tables.exec = Jvm.exec) (hb : c.code = cX2_row) (hr : meth.sig.returnType = none) (hml : c.maxLocals = 8) (hown : s.vm.findClass RX2 = some m.cls) (hws : ∀ w ∈ wsL_law, w.before args s = true) (hlocks : meth.locks = false) (hA : ∀ q : Nat, s.heap.size ≤ q → A q) : ∀ (l4 : Int32) (s1 : Int32) (s2 : Int32) (s3 : Int32) (v_thrown : Int32) (v_size : Int32) (v_used : Int32) (v_at : Int32) (v_d : Nat → Int32) (v_n : Nat → Int32) (v_power : Nat → Int32) (v_limbs : Nat → Int64) (o_used : Int32) (o_d : Nat → Int32) (o_n : Nat → Int32) (o_power : Nat → Int32) (o_limbs : Nat → Int64), f_X2_row_b243 l4 s1 s2 s3 v_used v_d v_n v_power v_limbs = some (o_used, o_d, o_n, o_power, o_limbs) → ∀ (H : Heap) (locs : List Loc), va_K (dC, dI) vwCl [(c_d, .int), (c_n, .int), (c_power, .int), (c_limbs, .long)] s → va_P (dC, dI) vwCl (wd_X2_row a_this a_text a_d a_n a_power a_limbs c_d c_n c_power c_limbs v_thrown v_size v_used v_at v_d v_n v_power v_limbs) H → va_D A (wd_X2_row a_this a_text a_d a_n a_power a_limbs c_d c_n c_power c_limbs v_thrown v_size v_used v_at v_d v_n v_power v_limbs) → va_S A s.heap H locs → ∀ (ls : Array Slot), lv_has ls 8 [(0, .ref a_this), (4, .int l4)] → W p l e (headSpec (w_X2_row) ({ frames := 1, cells := 0, slots := 0, locals := 25 } : Room)).room s m args below meth c H locs 0 0 (MQ below (va_Qv (fun (_ : Unit) => True) (fun (_ : Unit) t => va_P (dC, dI) vwCl (wd_X2_row a_this a_text a_d a_n a_power a_limbs c_d c_n c_power c_limbs v_thrown v_size o_used v_at o_d o_n o_power o_limbs) t.heap ∧ va_K (dC, dI) vwCl [(c_d, .int), (c_n, .int), (c_power, .int), (c_limbs, .long)] t ∧ va_D A (wd_X2_row a_this a_text a_d a_n a_power a_limbs c_d c_n c_power c_limbs v_thrown v_size o_used v_at o_d o_n o_power o_limbs)) A) args s 0 0 A) (F0 m 243 ls [.int s3, .int s2, .int s1, .ref a_power]) := by
  intro l4 s1 s2 s3 v_thrown v_size v_used v_at v_d v_n v_power v_limbs o_used o_d o_n o_power o_limbs h H locs hK hP hD hS ls hl
  unfold f_X2_row_b243 at h
  refine lv_iadd hx hb dX2_row_243 ?_
  obtain ⟨hi, h⟩ := gd h
  refine va_iast hx hb hK hP hD hS 3 2 rfl rfl hi dX2_row_244 (fun H locs hP hD hS => ?_)
  have hP : va_P (dC, dI) vwCl (wd_X2_row a_this a_text a_d a_n a_power a_limbs c_d c_n c_power c_limbs v_thrown v_size v_used v_at v_d v_n (upd v_power (Int32.toNatClampNeg s1) (s2 + s3)) v_limbs) H := hP
  have hD : va_D A (wd_X2_row a_this a_text a_d a_n a_power a_limbs c_d c_n c_power c_limbs v_thrown v_size v_used v_at v_d v_n (upd v_power (Int32.toNatClampNeg s1) (s2 + s3)) v_limbs) := hD
  refine lv_aload_n hx hb dX2_row_245 rfl (lv_at hl 0 rfl) ?_
  refine lv_iload hx hb dX2_row_246 (lv_at hl 1 rfl) ?_
  obtain ⟨⟨v_d_248, v_n_248, v_power_248⟩, hc, h⟩ := bd h
  dsimp only at h
  have hPc := hP.sub (ws' := (wd_X2_trim a_this a_text a_d a_n a_power a_limbs c_d c_n c_power v_thrown v_size v_used v_at v_d v_n (upd v_power (Int32.toNatClampNeg s1) (s2 + s3)))) [0, 1, 2, 3] rfl
  have hDc := hD.sub (ws' := (wd_X2_trim a_this a_text a_d a_n a_power a_limbs c_d c_n c_power v_thrown v_size v_used v_at v_d v_n (upd v_power (Int32.toNatClampNeg s1) (s2 + s3)))) [0, 1, 2, 3] (by decide) rfl
  have hKc := hK.sub (tys' := [(c_d, .int), (c_n, .int), (c_power, .int)]) [0, 1, 2] rfl
  have hFc := va_free (wc := (wd_X2_trim a_this a_text a_d a_n a_power a_limbs c_d c_n c_power v_thrown v_size v_used v_at v_d v_n (upd v_power (Int32.toNatClampNeg s1) (s2 + s3)))) hD hS hA [0, 1, 2, 3] rfl
  refine va_callv (va_runV (As := [.int l4]) (rest := []) ⟨hx, hb, hml, hown, hws⟩ (c_X2_trim l dC dI  a_this a_text a_d a_n a_power a_limbs c_d c_n c_power (Array.size H) l4 v_thrown v_size v_used v_at v_d v_n (upd v_power (Int32.toNatClampNeg s1) (s2 + s3)) v_d_248 v_n_248 v_power_248 hc) (cwV 1 hws (gV ww_239 ww_240 ww_241 ww_5 ww_242) rfl rfl rfl (by decide +kernel) ⟨Nat.le_of_ble_eq_true rfl, Nat.le_of_ble_eq_true rfl⟩) ⟨(fun a U g mk q => by obtain ⟨q0, q1, qP, qK, qD⟩ := q; exact ⟨q0, q1, qP, va_K.moved (u := U) (U := U.calling g mk a) (Vm.Alike.refl U.vm) qK, qD⟩), va_recv hKc hPc (ci := 2) (q0 := 0) rfl rfl, (fun U hU hW => ⟨rfl, by rw [hU], by rw [hU]; exact hPc, va_K.moved hW.alike hKc, hDc.weaken (fun _ _ _ _ => trivial)⟩)⟩ rfl rfl hl.1 rfl (lv_room (Nat.le_of_ble_eq_true rfl)) dX2_row_248 ⟨Nat.zero_le _, Nat.zero_le _⟩) hS (fun q _ h => hFc q h) hFc (fun u9 t H1 locs ht hvm hw hB hz1 hk1 hS => ?_)
  obtain ⟨hP1, hK1, hD1⟩ := hB
  rw [ht] at hP1
  obtain ⟨hP, hD⟩ := va_join (wr := [(a_limbs, .inl (c_limbs, 160, .inr (.inl v_limbs)))]) (w1 := (wd_X2_trim a_this a_text a_d a_n a_power a_limbs c_d c_n c_power v_thrown v_size v_used v_at v_d_248 v_n_248 v_power_248)) hP hD [0, 1, 2, 3] [4] rfl rfl (by decide) (by decide) hk1 hFc hP1 hD1
  generalize H1 = H at hP hS ⊢
  have hP : va_P (dC, dI) vwCl (wd_X2_row a_this a_text a_d a_n a_power a_limbs c_d c_n c_power c_limbs v_thrown v_size v_used v_at v_d_248 v_n_248 v_power_248 v_limbs) H := hP.sub [1, 2, 3, 4, 0] rfl
  have hD : va_D A (wd_X2_row a_this a_text a_d a_n a_power a_limbs c_d c_n c_power c_limbs v_thrown v_size v_used v_at v_d_248 v_n_248 v_power_248 v_limbs) := hD.sub [1, 2, 3, 4, 0] (by decide) rfl
  clear hP1 hK1 hD1 hPc hDc hKc hFc hk1 hz1 ht hvm
  obtain ⟨h09, h19, h29, h39, h49⟩ := rt5 h
  subst o_used
  subst o_d
  subst o_n
  subst o_power
  subst o_limbs
  exact W.vret hx hb hr (fun t ht hW => ⟨⟨(), rfl, trivial, by rw [ht]; exact hP, va_K.moved hW.alike hK, hD⟩, hS.F ht⟩) hS.2.2 dX2_row_251
set_option maxHeartbeats 4000000 in
set_option maxRecDepth 100000 in
theorem w_X2_row_176 (l : Launch) {p : Program} {e : Env} {s : State} {m : MethodId} {args : Array Value} {below : List Frame} {meth : Method} {c : Code} {A : Nat → Prop} {dC : Nat → ClassId} {dI : Nat → Nat → Nat} (a_this a_text a_d a_n a_power a_limbs : Nat) (c_d c_n c_power c_limbs : ClassId) (hx : p.tables.exec = Jvm.exec) (hb : c.code = cX2_row) (hr : meth.sig.returnType = none) (hml : c.maxLocals = 8) (hown : s.vm.findClass RX2 = some m.cls) (hws : ∀ w ∈ wsL_law, w.before args s = true) (hlocks : meth.locks = false) (hA : ∀ q : Nat, s.heap.size ≤ q → A q) (k : (Int32) → (Int32) → (Int32) → (Int32) → (Nat → Int32) → (Nat → Int32) → (Nat → Int32) → (Nat → Int64) → Option ((Int32) × (Nat → Int32) × (Nat → Int32) × (Nat → Int32) × (Nat → Int64)))  (o_used : Int32) (o_d : Nat → Int32) (o_n : Nat → Int32) (o_power : Nat → Int32) (o_limbs : Nat → Int64) (hk : ∀ (l3 : Int32) (l4 : Int32) (l5 : Int32) (v_thrown : Int32) (v_size : Int32) (v_used : Int32) (v_at : Int32) (v_d : Nat → Int32) (v_n : Nat → Int32) (v_power : Nat → Int32) (v_limbs : Nat → Int64), k l3 l4 l5 v_used v_d v_n v_power v_limbs = some (o_used, o_d, o_n, o_power, o_limbs) → ∀ (H : Heap) (locs : List Loc), va_K (dC, dI) vwCl [(c_d, .int), (c_n, .int), (c_power, .int), (c_limbs, .long)] s → va_P (dC, dI) vwCl (wd_X2_row a_this a_text a_d a_n a_power a_limbs c_d c_n c_power c_limbs v_thrown v_size v_used v_at v_d v_n v_power v_limbs) H → va_D A (wd_X2_row a_this a_text a_d a_n a_power a_limbs c_d c_n c_power c_limbs v_thrown v_size v_used v_at v_d v_n v_power v_limbs) → va_S A s.heap H locs → ∀ (ls : Array Slot), lv_has ls 8 [(0, .ref a_this), (3, .int l3), (4, .int l4), (5, .int l5)] → W p l e (headSpec (w_X2_row) ({ frames := 1, cells := 0, slots := 0, locals := 25 } : Room)).room s m args below meth c H locs 0 0 (MQ below (va_Qv (fun (_ : Unit) => True) (fun (_ : Unit) t => va_P (dC, dI) vwCl (wd_X2_row a_this a_text a_d a_n a_power a_limbs c_d c_n c_power c_limbs v_thrown v_size o_used v_at o_d o_n o_power o_limbs) t.heap ∧ va_K (dC, dI) vwCl [(c_d, .int), (c_n, .int), (c_power, .int), (c_limbs, .long)] t ∧ va_D A (wd_X2_row a_this a_text a_d a_n a_power a_limbs c_d c_n c_power c_limbs v_thrown v_size o_used v_at o_d o_n o_power o_limbs)) A) args s 0 0 A) (F0 m 166 ls [])) : ∀ (n : Nat) (l3 : Int32) (l4 : Int32) (l5 : Int32) (l6 : Int64) (v_thrown : Int32) (v_size : Int32) (v_used : Int32) (v_at : Int32) (v_d : Nat → Int32) (v_n : Nat → Int32) (v_power : Nat → Int32) (v_limbs : Nat → Int64) , f_X2_row_L176 k n l3 l4 l5 l6 v_used v_d v_n v_power v_limbs = some (o_used, o_d, o_n, o_power, o_limbs) → ∀ (H : Heap) (locs : List Loc), va_K (dC, dI) vwCl [(c_d, .int), (c_n, .int), (c_power, .int), (c_limbs, .long)] s → va_P (dC, dI) vwCl (wd_X2_row a_this a_text a_d a_n a_power a_limbs c_d c_n c_power c_limbs v_thrown v_size v_used v_at v_d v_n v_power v_limbs) H → va_D A (wd_X2_row a_this a_text a_d a_n a_power a_limbs c_d c_n c_power c_limbs v_thrown v_size v_used v_at v_d v_n v_power v_limbs) → va_S A s.heap H locs → ∀ (ls : Array Slot), lv_has ls 8 [(0, .ref a_this), (3, .int l3), (4, .int l4), (5, .int l5), (6, .long l6)] → W p l e (headSpec (w_X2_row) ({ frames := 1, cells := 0, slots := 0, locals := 25 } : Room)).room s m args below meth c H locs 0 0 (MQ below (va_Qv (fun (_ : Unit) => True) (fun (_ : Unit) t => va_P (dC, dI) vwCl (wd_X2_row a_this a_text a_d a_n a_power a_limbs c_d c_n c_power c_limbs v_thrown v_size o_used v_at o_d o_n o_power o_limbs) t.heap ∧ va_K (dC, dI) vwCl [(c_d, .int), (c_n, .int), (c_power, .int), (c_limbs, .long)] t ∧ va_D A (wd_X2_row a_this a_text a_d a_n a_power a_limbs c_d c_n c_power c_limbs v_thrown v_size o_used v_at o_d o_n o_power o_limbs)) A) args s 0 0 A) (F0 m 176 ls []) := by
  intro n
  induction n with
  | zero =>
    intro l3 l4 l5 l6 v_thrown v_size v_used v_at v_d v_n v_power v_limbs h H locs hK hP hD hS ls hl
    exact absurd h (by simp [f_X2_row_L176])
  | succ n ih =>
    intro l3 l4 l5 l6 v_thrown v_size v_used v_at v_d v_n v_power v_limbs h H locs hK hP hD hS ls hl
    unfold f_X2_row_L176 at h
    refine lv_lload hx hb dX2_row_176 (lv_at hl 4 rfl) ?_
    refine lv_lconst (v := 0) hx hb dX2_row_178 (by decide) ?_
    refine W.lcmp hx hb dX2_row_179 ?_
    refine lv_if_le (tgt := 215) hx hb dX2_row_180 (by decide) (fun c9 => ?_) (fun c9 => ?_)
    · have h := (if_pos c9).symm.trans h
      refine lv_iinc (v := (l5 + (-1))) (lv' := [(5, .int (l5 + (-1))), (0, .ref a_this), (3, .int l3), (4, .int l4), (6, .long l6)]) hx hb dX2_row_215 hl (k := 3) rfl rfl (by decide) rfl (fun ls hl => ?_)
      refine lv_goto (tgt := 166) hx hb dX2_row_218 (by decide) ?_
      exact hk l3 l4 (l5 + (-1)) v_thrown v_size v_used v_at v_d v_n v_power v_limbs h H locs hK hP hD hS ls (lv_sub hl [1, 2, 3, 0] rfl)
    · have h := (if_neg c9).symm.trans h
      refine lv_aload_n hx hb dX2_row_183 rfl (lv_at hl 0 rfl) ?_
      refine lv_iload hx hb dX2_row_184 (lv_at hl 2 rfl) ?_
      refine lv_aload_n hx hb dX2_row_186 rfl (lv_at hl 0 rfl) ?_
      refine va_get (D := (dC, dI)) (ci := 2) (v := .ref a_limbs) (C := RX2) (T := TX2) (N := 9) hx hb hws inlX2 hown hK hP 0 rfl rfl 6 (by decide) (hws _ ww_38) (fun _ h9 => h9) rfl dX2_row_187 ?_
      refine lv_iload hx hb dX2_row_190 (lv_at hl 3 rfl) ?_
      obtain ⟨hi, h⟩ := gd h
      refine va_lald hx hb hK hP 4 3 rfl rfl hi dX2_row_192 ?_
      refine lv_lload hx hb dX2_row_193 (lv_at hl 4 rfl) ?_
      obtain ⟨hz, h⟩ := gd h
      refine lv_ldiv hx hb dX2_row_195 hz ?_
      refine lv_ldc2 (v := 10) hx hb hown (hws _ ww_272) dX2_row_196 ?_
      refine lv_lrem hx hb dX2_row_199 (by decide) ?_
      refine lv_l2i hx hb dX2_row_200 rfl ?_
      obtain ⟨⟨v_d_201, v_n_201⟩, hc, h⟩ := bd h
      dsimp only at h
      have hPc := hP.sub (ws' := (wd_X2_more a_this a_text a_d a_n a_power a_limbs c_d c_n v_thrown v_size v_used v_at v_d v_n)) [0, 1, 2] rfl
      have hDc := hD.sub (ws' := (wd_X2_more a_this a_text a_d a_n a_power a_limbs c_d c_n v_thrown v_size v_used v_at v_d v_n)) [0, 1, 2] (by decide) rfl
      have hKc := hK.sub (tys' := [(c_d, .int), (c_n, .int)]) [0, 1] rfl
      have hFc := va_free (wc := (wd_X2_more a_this a_text a_d a_n a_power a_limbs c_d c_n v_thrown v_size v_used v_at v_d v_n)) hD hS hA [0, 1, 2] rfl
      refine va_callv (va_runV (As := [.int l4, .int (Int64.toInt32 (((v_limbs (Int32.toNatClampNeg l5)) / l6) - ((v_limbs (Int32.toNatClampNeg l5)) / l6) / 10 * 10))]) (rest := []) ⟨hx, hb, hml, hown, hws⟩ (c_X2_more l dC dI  a_this a_text a_d a_n a_power a_limbs c_d c_n (Array.size H) l4 (Int64.toInt32 (((v_limbs (Int32.toNatClampNeg l5)) / l6) - ((v_limbs (Int32.toNatClampNeg l5)) / l6) / 10 * 10)) v_thrown v_size v_used v_at v_d v_n v_d_201 v_n_201 hc) (cwV 2 hws (gV ww_235 ww_236 ww_237 ww_5 ww_238) rfl rfl rfl (by decide +kernel) ⟨Nat.le_of_ble_eq_true rfl, Nat.le_of_ble_eq_true rfl⟩) ⟨(fun a U g mk q => by obtain ⟨q0, q1, qP, qK, qD⟩ := q; exact ⟨q0, q1, qP, va_K.moved (u := U) (U := U.calling g mk a) (Vm.Alike.refl U.vm) qK, qD⟩), va_recv hKc hPc (ci := 2) (q0 := 0) rfl rfl, (fun U hU hW => ⟨rfl, by rw [hU], by rw [hU]; exact hPc, va_K.moved hW.alike hKc, hDc.weaken (fun _ _ _ _ => trivial)⟩)⟩ rfl rfl hl.1 rfl (lv_room (Nat.le_of_ble_eq_true rfl)) dX2_row_201 ⟨Nat.zero_le _, Nat.zero_le _⟩) hS (fun q _ h => hFc q h) hFc (fun u9 t H1 locs ht hvm hw hB hz1 hk1 hS => ?_)
      obtain ⟨hP1, hK1, hD1⟩ := hB
      rw [ht] at hP1
      obtain ⟨hP, hD⟩ := va_join (wr := [(a_power, .inl (c_power, 7000, .inl v_power)), (a_limbs, .inl (c_limbs, 160, .inr (.inl v_limbs)))]) (w1 := (wd_X2_more a_this a_text a_d a_n a_power a_limbs c_d c_n v_thrown v_size v_used v_at v_d_201 v_n_201)) hP hD [0, 1, 2] [3, 4] rfl rfl (by decide) (by decide) hk1 hFc hP1 hD1
      generalize H1 = H at hP hS ⊢
      have hP : va_P (dC, dI) vwCl (wd_X2_row a_this a_text a_d a_n a_power a_limbs c_d c_n c_power c_limbs v_thrown v_size v_used v_at v_d_201 v_n_201 v_power v_limbs) H := hP.sub [2, 3, 4, 0, 1] rfl
      have hD : va_D A (wd_X2_row a_this a_text a_d a_n a_power a_limbs c_d c_n c_power c_limbs v_thrown v_size v_used v_at v_d_201 v_n_201 v_power v_limbs) := hD.sub [2, 3, 4, 0, 1] (by decide) rfl
      clear hP1 hK1 hD1 hPc hDc hKc hFc hk1 hz1 ht hvm
      refine lv_lload hx hb dX2_row_204 (lv_at hl 4 rfl) ?_
      refine lv_ldc2 (v := 10) hx hb hown (hws _ ww_272) dX2_row_206 ?_
      refine lv_ldiv hx hb dX2_row_209 (by decide) ?_
      refine lv_lstore (lv' := [(6, .long (l6 / 10)), (0, .ref a_this), (3, .int l3), (4, .int l4), (5, .int l5)]) hx hb dX2_row_210 hl (by decide) rfl (fun ls hl => ?_)
      refine lv_goto (tgt := 176) hx hb dX2_row_212 (by decide) ?_
      exact ih l3 l4 l5 (l6 / 10) v_thrown v_size v_used v_at v_d_201 v_n_201 v_power v_limbs  h H locs hK hP hD hS ls (lv_sub hl [1, 2, 3, 4, 0] rfl)
set_option maxHeartbeats 4000000 in
set_option maxRecDepth 100000 in
theorem w_X2_row_166 (l : Launch) {p : Program} {e : Env} {s : State} {m : MethodId} {args : Array Value} {below : List Frame} {meth : Method} {c : Code} {A : Nat → Prop} {dC : Nat → ClassId} {dI : Nat → Nat → Nat} (a_this a_text a_d a_n a_power a_limbs : Nat) (c_d c_n c_power c_limbs : ClassId) (hx : p.tables.exec = Jvm.exec) (hb : c.code = cX2_row) (hr : meth.sig.returnType = none) (hml : c.maxLocals = 8) (hown : s.vm.findClass RX2 = some m.cls) (hws : ∀ w ∈ wsL_law, w.before args s = true) (hlocks : meth.locks = false) (hA : ∀ q : Nat, s.heap.size ≤ q → A q) : ∀ (n : Nat) (l3 : Int32) (l4 : Int32) (l5 : Int32) (v_thrown : Int32) (v_size : Int32) (v_used : Int32) (v_at : Int32) (v_d : Nat → Int32) (v_n : Nat → Int32) (v_power : Nat → Int32) (v_limbs : Nat → Int64) (o_used : Int32) (o_d : Nat → Int32) (o_n : Nat → Int32) (o_power : Nat → Int32) (o_limbs : Nat → Int64), f_X2_row_L166 n l3 l4 l5 v_used v_d v_n v_power v_limbs = some (o_used, o_d, o_n, o_power, o_limbs) → ∀ (H : Heap) (locs : List Loc), va_K (dC, dI) vwCl [(c_d, .int), (c_n, .int), (c_power, .int), (c_limbs, .long)] s → va_P (dC, dI) vwCl (wd_X2_row a_this a_text a_d a_n a_power a_limbs c_d c_n c_power c_limbs v_thrown v_size v_used v_at v_d v_n v_power v_limbs) H → va_D A (wd_X2_row a_this a_text a_d a_n a_power a_limbs c_d c_n c_power c_limbs v_thrown v_size v_used v_at v_d v_n v_power v_limbs) → va_S A s.heap H locs → ∀ (ls : Array Slot), lv_has ls 8 [(0, .ref a_this), (3, .int l3), (4, .int l4), (5, .int l5)] → W p l e (headSpec (w_X2_row) ({ frames := 1, cells := 0, slots := 0, locals := 25 } : Room)).room s m args below meth c H locs 0 0 (MQ below (va_Qv (fun (_ : Unit) => True) (fun (_ : Unit) t => va_P (dC, dI) vwCl (wd_X2_row a_this a_text a_d a_n a_power a_limbs c_d c_n c_power c_limbs v_thrown v_size o_used v_at o_d o_n o_power o_limbs) t.heap ∧ va_K (dC, dI) vwCl [(c_d, .int), (c_n, .int), (c_power, .int), (c_limbs, .long)] t ∧ va_D A (wd_X2_row a_this a_text a_d a_n a_power a_limbs c_d c_n c_power c_limbs v_thrown v_size o_used v_at o_d o_n o_power o_limbs)) A) args s 0 0 A) (F0 m 166 ls []) := by
  intro n
  induction n with
  | zero =>
    intro l3 l4 l5 v_thrown v_size v_used v_at v_d v_n v_power v_limbs o_used o_d o_n o_power o_limbs h H locs hK hP hD hS ls hl
    exact absurd h (by simp [f_X2_row_L166])
  | succ n ih =>
    intro l3 l4 l5 v_thrown v_size v_used v_at v_d v_n v_power v_limbs o_used o_d o_n o_power o_limbs h H locs hK hP hD hS ls hl
    unfold f_X2_row_L166 at h
    refine lv_iload hx hb dX2_row_166 (lv_at hl 3 rfl) ?_
    refine lv_if_lt (tgt := 221) hx hb dX2_row_168 (by decide) (fun c9 => ?_) (fun c9 => ?_)
    · have h := (if_pos c9).symm.trans h
      refine lv_aload_n hx hb dX2_row_221 rfl (lv_at hl 0 rfl) ?_
      refine va_get (D := (dC, dI)) (ci := 2) (v := .ref a_power) (C := RX2) (T := TX2) (N := 9) hx hb hws inlX2 hown hK hP 0 rfl rfl 5 (by decide) (hws _ ww_37) (fun _ h9 => h9) rfl dX2_row_222 ?_
      refine lv_iload hx hb dX2_row_225 (lv_at hl 2 rfl) ?_
      refine lv_aload_n hx hb dX2_row_227 rfl (lv_at hl 0 rfl) ?_
      refine va_get (D := (dC, dI)) (ci := 2) (v := .ref a_n) (C := RX2) (T := TX2) (N := 9) hx hb hws inlX2 hown hK hP 0 rfl rfl 4 (by decide) (hws _ ww_36) (fun _ h9 => h9) rfl dX2_row_228 ?_
      refine lv_iload hx hb dX2_row_231 (lv_at hl 2 rfl) ?_
      obtain ⟨hi, h⟩ := gd h
      refine va_iald hx hb hK hP 2 1 rfl rfl hi dX2_row_233 ?_
      refine lv_iload_n hx hb dX2_row_234 rfl (lv_at hl 1 rfl) ?_
      refine lv_if_ge (tgt := 242) hx hb dX2_row_235 (by decide) (fun c9 => ?_) (fun c9 => ?_)
      · have h := (if_pos c9).symm.trans h
        refine lv_iconst (v := 0) hx hb dX2_row_242 (by decide) ?_
        exact w_X2_row_243 l a_this a_text a_d a_n a_power a_limbs c_d c_n c_power c_limbs hx hb hr hml hown hws hlocks hA l4 l4 (v_n (Int32.toNatClampNeg l4)) 0 v_thrown v_size v_used v_at v_d v_n v_power v_limbs o_used o_d o_n o_power o_limbs h H locs hK hP hD hS ls (lv_sub hl [0, 2] rfl)
      · have h := (if_neg c9).symm.trans h
        refine lv_iload_n hx hb dX2_row_238 rfl (lv_at hl 1 rfl) ?_
        refine lv_goto (tgt := 243) hx hb dX2_row_239 (by decide) ?_
        exact w_X2_row_243 l a_this a_text a_d a_n a_power a_limbs c_d c_n c_power c_limbs hx hb hr hml hown hws hlocks hA l4 l4 (v_n (Int32.toNatClampNeg l4)) l3 v_thrown v_size v_used v_at v_d v_n v_power v_limbs o_used o_d o_n o_power o_limbs h H locs hK hP hD hS ls (lv_sub hl [0, 2] rfl)
    · have h := (if_neg c9).symm.trans h
      refine lv_ldc2 (v := 100000000) hx hb hown (hws _ ww_271) dX2_row_171 ?_
      refine lv_lstore (lv' := [(6, .long 100000000), (0, .ref a_this), (3, .int l3), (4, .int l4), (5, .int l5)]) hx hb dX2_row_174 hl (by decide) rfl (fun ls hl => ?_)
      exact w_X2_row_176 l a_this a_text a_d a_n a_power a_limbs c_d c_n c_power c_limbs hx hb hr hml hown hws hlocks hA (f_X2_row_L166 n) o_used o_d o_n o_power o_limbs (fun l3 l4 l5 v_thrown v_size v_used v_at v_d v_n v_power v_limbs h => ih l3 l4 l5 v_thrown v_size v_used v_at v_d v_n v_power v_limbs o_used o_d o_n o_power o_limbs h) FU l3 l4 l5 100000000 v_thrown v_size v_used v_at v_d v_n v_power v_limbs h H locs hK hP hD hS ls (lv_sub hl [1, 2, 3, 4, 0] rfl)
set_option maxHeartbeats 4000000 in
set_option maxRecDepth 100000 in
theorem w_X2_row_119 (l : Launch) {p : Program} {e : Env} {s : State} {m : MethodId} {args : Array Value} {below : List Frame} {meth : Method} {c : Code} {A : Nat → Prop} {dC : Nat → ClassId} {dI : Nat → Nat → Nat} (a_this a_text a_d a_n a_power a_limbs : Nat) (c_d c_n c_power c_limbs : ClassId) (hx : p.tables.exec = Jvm.exec) (hb : c.code = cX2_row) (hr : meth.sig.returnType = none) (hml : c.maxLocals = 8) (hown : s.vm.findClass RX2 = some m.cls) (hws : ∀ w ∈ wsL_law, w.before args s = true) (hlocks : meth.locks = false) (hA : ∀ q : Nat, s.heap.size ≤ q → A q) : ∀ (n : Nat) (l3 : Int32) (l4 : Int32) (l5 : Int32) (v_thrown : Int32) (v_size : Int32) (v_used : Int32) (v_at : Int32) (v_d : Nat → Int32) (v_n : Nat → Int32) (v_power : Nat → Int32) (v_limbs : Nat → Int64) (o_used : Int32) (o_d : Nat → Int32) (o_n : Nat → Int32) (o_power : Nat → Int32) (o_limbs : Nat → Int64), f_X2_row_L119 n l3 l4 l5 v_used v_d v_n v_power v_limbs = some (o_used, o_d, o_n, o_power, o_limbs) → ∀ (H : Heap) (locs : List Loc), va_K (dC, dI) vwCl [(c_d, .int), (c_n, .int), (c_power, .int), (c_limbs, .long)] s → va_P (dC, dI) vwCl (wd_X2_row a_this a_text a_d a_n a_power a_limbs c_d c_n c_power c_limbs v_thrown v_size v_used v_at v_d v_n v_power v_limbs) H → va_D A (wd_X2_row a_this a_text a_d a_n a_power a_limbs c_d c_n c_power c_limbs v_thrown v_size v_used v_at v_d v_n v_power v_limbs) → va_S A s.heap H locs → ∀ (ls : Array Slot), lv_has ls 8 [(0, .ref a_this), (3, .int l3), (4, .int l4), (5, .int l5)] → W p l e (headSpec (w_X2_row) ({ frames := 1, cells := 0, slots := 0, locals := 25 } : Room)).room s m args below meth c H locs 0 0 (MQ below (va_Qv (fun (_ : Unit) => True) (fun (_ : Unit) t => va_P (dC, dI) vwCl (wd_X2_row a_this a_text a_d a_n a_power a_limbs c_d c_n c_power c_limbs v_thrown v_size o_used v_at o_d o_n o_power o_limbs) t.heap ∧ va_K (dC, dI) vwCl [(c_d, .int), (c_n, .int), (c_power, .int), (c_limbs, .long)] t ∧ va_D A (wd_X2_row a_this a_text a_d a_n a_power a_limbs c_d c_n c_power c_limbs v_thrown v_size o_used v_at o_d o_n o_power o_limbs)) A) args s 0 0 A) (F0 m 119 ls []) := by
  intro n
  induction n with
  | zero =>
    intro l3 l4 l5 v_thrown v_size v_used v_at v_d v_n v_power v_limbs o_used o_d o_n o_power o_limbs h H locs hK hP hD hS ls hl
    exact absurd h (by simp [f_X2_row_L119])
  | succ n ih =>
    intro l3 l4 l5 v_thrown v_size v_used v_at v_d v_n v_power v_limbs o_used o_d o_n o_power o_limbs h H locs hK hP hD hS ls hl
    unfold f_X2_row_L119 at h
    refine lv_iload hx hb dX2_row_119 (lv_at hl 3 rfl) ?_
    refine lv_iload_n hx hb dX2_row_121 rfl (lv_at hl 1 rfl) ?_
    refine lv_if_ge (tgt := 133) hx hb dX2_row_122 (by decide) (fun c9 => ?_) (fun c9 => ?_)
    · have h := (if_pos c9).symm.trans h
      refine lv_iconst (v := 0) hx hb dX2_row_133 (by decide) ?_
      refine lv_icmp_ge (tgt := 150) hx hb dX2_row_134 (by decide) (fun c9 => ?_) (fun c9 => ?_)
      · have h := (if_pos c9).symm.trans h
        refine lv_aload_n hx hb dX2_row_150 rfl (lv_at hl 0 rfl) ?_
        refine va_get (D := (dC, dI)) (ci := 2) (v := .ref a_n) (C := RX2) (T := TX2) (N := 9) hx hb hws inlX2 hown hK hP 0 rfl rfl 4 (by decide) (hws _ ww_36) (fun _ h9 => h9) rfl dX2_row_151 ?_
        refine lv_iload hx hb dX2_row_154 (lv_at hl 2 rfl) ?_
        refine lv_iconst (v := 0) hx hb dX2_row_156 (by decide) ?_
        obtain ⟨hi, h⟩ := gd h
        refine va_iast hx hb hK hP hD hS 2 1 rfl rfl hi dX2_row_157 (fun H locs hP hD hS => ?_)
        have hP : va_P (dC, dI) vwCl (wd_X2_row a_this a_text a_d a_n a_power a_limbs c_d c_n c_power c_limbs v_thrown v_size v_used v_at v_d (upd v_n (Int32.toNatClampNeg l4) 0) v_power v_limbs) H := hP
        have hD : va_D A (wd_X2_row a_this a_text a_d a_n a_power a_limbs c_d c_n c_power c_limbs v_thrown v_size v_used v_at v_d (upd v_n (Int32.toNatClampNeg l4) 0) v_power v_limbs) := hD
        refine lv_aload_n hx hb dX2_row_158 rfl (lv_at hl 0 rfl) ?_
        refine va_get (D := (dC, dI)) (ci := 2) (v := .int v_used) (C := RX2) (T := TX2) (N := 9) hx hb hws inlX2 hown hK hP 0 rfl rfl 7 (by decide) (hws _ ww_266) (fun _ h9 => h9) rfl dX2_row_159 ?_
        refine lv_iconst (v := 1) hx hb dX2_row_162 (by decide) ?_
        refine lv_isub hx hb dX2_row_163 ?_
        refine lv_istore (lv' := [(5, .int (v_used - 1)), (0, .ref a_this), (3, .int l3), (4, .int l4)]) hx hb dX2_row_164 hl (by decide) rfl (fun ls hl => ?_)
        exact w_X2_row_166 l a_this a_text a_d a_n a_power a_limbs c_d c_n c_power c_limbs hx hb hr hml hown hws hlocks hA FU l3 l4 (v_used - 1) v_thrown v_size v_used v_at v_d (upd v_n (Int32.toNatClampNeg l4) 0) v_power v_limbs o_used o_d o_n o_power o_limbs h H locs hK hP hD hS ls (lv_sub hl [1, 2, 3, 0] rfl)
      · have h := (if_neg c9).symm.trans h
        refine lv_aload_n hx hb dX2_row_137 rfl (lv_at hl 0 rfl) ?_
        refine lv_ldc2 (v := 5) hx hb hown (hws _ ww_270) dX2_row_138 ?_
        obtain ⟨⟨v_used_141, v_limbs_141⟩, hc, h⟩ := bd h
        dsimp only at h
        have hPc := hP.sub (ws' := (wd_X2_times a_this a_text a_d a_n a_power a_limbs c_limbs v_thrown v_size v_used v_at v_limbs)) [0, 4] rfl
        have hDc := hD.sub (ws' := (wd_X2_times a_this a_text a_d a_n a_power a_limbs c_limbs v_thrown v_size v_used v_at v_limbs)) [0, 4] (by decide) rfl
        have hKc := hK.sub (tys' := [(c_limbs, .long)]) [3] rfl
        have hFc := va_free (wc := (wd_X2_times a_this a_text a_d a_n a_power a_limbs c_limbs v_thrown v_size v_used v_at v_limbs)) hD hS hA [0, 4] rfl
        refine va_callv (va_runV (As := [.long 5]) (rest := []) ⟨hx, hb, hml, hown, hws⟩ (c_X2_times l dC dI  a_this a_text a_d a_n a_power a_limbs c_limbs (Array.size H) 5 v_thrown v_size v_used v_at v_limbs v_used_141 v_limbs_141 hc) (cwV 1 hws (gV ww_273 ww_274 ww_275 ww_5 ww_276) rfl rfl rfl (by decide +kernel) ⟨Nat.le_of_ble_eq_true rfl, Nat.le_of_ble_eq_true rfl⟩) ⟨(fun a U g mk q => by obtain ⟨q0, q1, qP, qK, qD⟩ := q; exact ⟨q0, q1, qP, va_K.moved (u := U) (U := U.calling g mk a) (Vm.Alike.refl U.vm) qK, qD⟩), va_recv hKc hPc (ci := 2) (q0 := 0) rfl rfl, (fun U hU hW => ⟨rfl, by rw [hU], by rw [hU]; exact hPc, va_K.moved hW.alike hKc, hDc.weaken (fun _ _ _ _ => trivial)⟩)⟩ rfl rfl hl.1 rfl (lv_room (Nat.le_of_ble_eq_true rfl)) dX2_row_141 ⟨Nat.zero_le _, Nat.zero_le _⟩) hS (fun q _ h => hFc q h) hFc (fun u9 t H1 locs ht hvm hw hB hz1 hk1 hS => ?_)
        obtain ⟨hP1, hK1, hD1⟩ := hB
        rw [ht] at hP1
        obtain ⟨hP, hD⟩ := va_join (wr := [(a_d, .inl (c_d, 7000, .inl v_d)), (a_n, .inl (c_n, 7000, .inl v_n)), (a_power, .inl (c_power, 7000, .inl v_power))]) (w1 := (wd_X2_times a_this a_text a_d a_n a_power a_limbs c_limbs v_thrown v_size v_used_141 v_at v_limbs_141)) hP hD [0, 4] [1, 2, 3] rfl rfl (by decide) (by decide) hk1 hFc hP1 hD1
        generalize H1 = H at hP hS ⊢
        have hP : va_P (dC, dI) vwCl (wd_X2_row a_this a_text a_d a_n a_power a_limbs c_d c_n c_power c_limbs v_thrown v_size v_used_141 v_at v_d v_n v_power v_limbs_141) H := hP.sub [3, 0, 1, 2, 4] rfl
        have hD : va_D A (wd_X2_row a_this a_text a_d a_n a_power a_limbs c_d c_n c_power c_limbs v_thrown v_size v_used_141 v_at v_d v_n v_power v_limbs_141) := hD.sub [3, 0, 1, 2, 4] (by decide) rfl
        clear hP1 hK1 hD1 hPc hDc hKc hFc hk1 hz1 ht hvm
        refine lv_iinc (v := (l5 + 1)) (lv' := [(5, .int (l5 + 1)), (0, .ref a_this), (3, .int l3), (4, .int l4)]) hx hb dX2_row_144 hl (k := 3) rfl rfl (by decide) rfl (fun ls hl => ?_)
        refine lv_goto (tgt := 119) hx hb dX2_row_147 (by decide) ?_
        exact ih l3 l4 (l5 + 1) v_thrown v_size v_used_141 v_at v_d v_n v_power v_limbs_141 o_used o_d o_n o_power o_limbs h H locs hK hP hD hS ls (lv_sub hl [1, 2, 3, 0] rfl)
    · have h := (if_neg c9).symm.trans h
      refine lv_iload_n hx hb dX2_row_125 rfl (lv_at hl 1 rfl) ?_
      refine lv_ineg hx hb dX2_row_126 ?_
      refine lv_bipush (v := 12) hx hb dX2_row_127 (by decide) ?_
      refine lv_irem hx hb dX2_row_129 (by decide) ?_
      refine lv_goto (tgt := 134) hx hb dX2_row_130 (by decide) ?_
      refine lv_icmp_ge (tgt := 150) hx hb dX2_row_134 (by decide) (fun c9 => ?_) (fun c9 => ?_)
      · have h := (if_pos c9).symm.trans h
        refine lv_aload_n hx hb dX2_row_150 rfl (lv_at hl 0 rfl) ?_
        refine va_get (D := (dC, dI)) (ci := 2) (v := .ref a_n) (C := RX2) (T := TX2) (N := 9) hx hb hws inlX2 hown hK hP 0 rfl rfl 4 (by decide) (hws _ ww_36) (fun _ h9 => h9) rfl dX2_row_151 ?_
        refine lv_iload hx hb dX2_row_154 (lv_at hl 2 rfl) ?_
        refine lv_iconst (v := 0) hx hb dX2_row_156 (by decide) ?_
        obtain ⟨hi, h⟩ := gd h
        refine va_iast hx hb hK hP hD hS 2 1 rfl rfl hi dX2_row_157 (fun H locs hP hD hS => ?_)
        have hP : va_P (dC, dI) vwCl (wd_X2_row a_this a_text a_d a_n a_power a_limbs c_d c_n c_power c_limbs v_thrown v_size v_used v_at v_d (upd v_n (Int32.toNatClampNeg l4) 0) v_power v_limbs) H := hP
        have hD : va_D A (wd_X2_row a_this a_text a_d a_n a_power a_limbs c_d c_n c_power c_limbs v_thrown v_size v_used v_at v_d (upd v_n (Int32.toNatClampNeg l4) 0) v_power v_limbs) := hD
        refine lv_aload_n hx hb dX2_row_158 rfl (lv_at hl 0 rfl) ?_
        refine va_get (D := (dC, dI)) (ci := 2) (v := .int v_used) (C := RX2) (T := TX2) (N := 9) hx hb hws inlX2 hown hK hP 0 rfl rfl 7 (by decide) (hws _ ww_266) (fun _ h9 => h9) rfl dX2_row_159 ?_
        refine lv_iconst (v := 1) hx hb dX2_row_162 (by decide) ?_
        refine lv_isub hx hb dX2_row_163 ?_
        refine lv_istore (lv' := [(5, .int (v_used - 1)), (0, .ref a_this), (3, .int l3), (4, .int l4)]) hx hb dX2_row_164 hl (by decide) rfl (fun ls hl => ?_)
        exact w_X2_row_166 l a_this a_text a_d a_n a_power a_limbs c_d c_n c_power c_limbs hx hb hr hml hown hws hlocks hA FU l3 l4 (v_used - 1) v_thrown v_size v_used v_at v_d (upd v_n (Int32.toNatClampNeg l4) 0) v_power v_limbs o_used o_d o_n o_power o_limbs h H locs hK hP hD hS ls (lv_sub hl [1, 2, 3, 0] rfl)
      · have h := (if_neg c9).symm.trans h
        refine lv_aload_n hx hb dX2_row_137 rfl (lv_at hl 0 rfl) ?_
        refine lv_ldc2 (v := 5) hx hb hown (hws _ ww_270) dX2_row_138 ?_
        obtain ⟨⟨v_used_141, v_limbs_141⟩, hc, h⟩ := bd h
        dsimp only at h
        have hPc := hP.sub (ws' := (wd_X2_times a_this a_text a_d a_n a_power a_limbs c_limbs v_thrown v_size v_used v_at v_limbs)) [0, 4] rfl
        have hDc := hD.sub (ws' := (wd_X2_times a_this a_text a_d a_n a_power a_limbs c_limbs v_thrown v_size v_used v_at v_limbs)) [0, 4] (by decide) rfl
        have hKc := hK.sub (tys' := [(c_limbs, .long)]) [3] rfl
        have hFc := va_free (wc := (wd_X2_times a_this a_text a_d a_n a_power a_limbs c_limbs v_thrown v_size v_used v_at v_limbs)) hD hS hA [0, 4] rfl
        refine va_callv (va_runV (As := [.long 5]) (rest := []) ⟨hx, hb, hml, hown, hws⟩ (c_X2_times l dC dI  a_this a_text a_d a_n a_power a_limbs c_limbs (Array.size H) 5 v_thrown v_size v_used v_at v_limbs v_used_141 v_limbs_141 hc) (cwV 1 hws (gV ww_273 ww_274 ww_275 ww_5 ww_276) rfl rfl rfl (by decide +kernel) ⟨Nat.le_of_ble_eq_true rfl, Nat.le_of_ble_eq_true rfl⟩) ⟨(fun a U g mk q => by obtain ⟨q0, q1, qP, qK, qD⟩ := q; exact ⟨q0, q1, qP, va_K.moved (u := U) (U := U.calling g mk a) (Vm.Alike.refl U.vm) qK, qD⟩), va_recv hKc hPc (ci := 2) (q0 := 0) rfl rfl, (fun U hU hW => ⟨rfl, by rw [hU], by rw [hU]; exact hPc, va_K.moved hW.alike hKc, hDc.weaken (fun _ _ _ _ => trivial)⟩)⟩ rfl rfl hl.1 rfl (lv_room (Nat.le_of_ble_eq_true rfl)) dX2_row_141 ⟨Nat.zero_le _, Nat.zero_le _⟩) hS (fun q _ h => hFc q h) hFc (fun u9 t H1 locs ht hvm hw hB hz1 hk1 hS => ?_)
        obtain ⟨hP1, hK1, hD1⟩ := hB
        rw [ht] at hP1
        obtain ⟨hP, hD⟩ := va_join (wr := [(a_d, .inl (c_d, 7000, .inl v_d)), (a_n, .inl (c_n, 7000, .inl v_n)), (a_power, .inl (c_power, 7000, .inl v_power))]) (w1 := (wd_X2_times a_this a_text a_d a_n a_power a_limbs c_limbs v_thrown v_size v_used_141 v_at v_limbs_141)) hP hD [0, 4] [1, 2, 3] rfl rfl (by decide) (by decide) hk1 hFc hP1 hD1
        generalize H1 = H at hP hS ⊢
        have hP : va_P (dC, dI) vwCl (wd_X2_row a_this a_text a_d a_n a_power a_limbs c_d c_n c_power c_limbs v_thrown v_size v_used_141 v_at v_d v_n v_power v_limbs_141) H := hP.sub [3, 0, 1, 2, 4] rfl
        have hD : va_D A (wd_X2_row a_this a_text a_d a_n a_power a_limbs c_d c_n c_power c_limbs v_thrown v_size v_used_141 v_at v_d v_n v_power v_limbs_141) := hD.sub [3, 0, 1, 2, 4] (by decide) rfl
        clear hP1 hK1 hD1 hPc hDc hKc hFc hk1 hz1 ht hvm
        refine lv_iinc (v := (l5 + 1)) (lv' := [(5, .int (l5 + 1)), (0, .ref a_this), (3, .int l3), (4, .int l4)]) hx hb dX2_row_144 hl (k := 3) rfl rfl (by decide) rfl (fun ls hl => ?_)
        refine lv_goto (tgt := 119) hx hb dX2_row_147 (by decide) ?_
        exact ih l3 l4 (l5 + 1) v_thrown v_size v_used_141 v_at v_d v_n v_power v_limbs_141 o_used o_d o_n o_power o_limbs h H locs hK hP hD hS ls (lv_sub hl [1, 2, 3, 0] rfl)
set_option maxHeartbeats 4000000 in
set_option maxRecDepth 100000 in
theorem w_X2_row_93 (l : Launch) {p : Program} {e : Env} {s : State} {m : MethodId} {args : Array Value} {below : List Frame} {meth : Method} {c : Code} {A : Nat → Prop} {dC : Nat → ClassId} {dI : Nat → Nat → Nat} (a_this a_text a_d a_n a_power a_limbs : Nat) (c_d c_n c_power c_limbs : ClassId) (hx : p.tables.exec = Jvm.exec) (hb : c.code = cX2_row) (hr : meth.sig.returnType = none) (hml : c.maxLocals = 8) (hown : s.vm.findClass RX2 = some m.cls) (hws : ∀ w ∈ wsL_law, w.before args s = true) (hlocks : meth.locks = false) (hA : ∀ q : Nat, s.heap.size ≤ q → A q) : ∀ (n : Nat) (l3 : Int32) (l4 : Int32) (l5 : Int32) (v_thrown : Int32) (v_size : Int32) (v_used : Int32) (v_at : Int32) (v_d : Nat → Int32) (v_n : Nat → Int32) (v_power : Nat → Int32) (v_limbs : Nat → Int64) (o_used : Int32) (o_d : Nat → Int32) (o_n : Nat → Int32) (o_power : Nat → Int32) (o_limbs : Nat → Int64), f_X2_row_L93 n l3 l4 l5 v_used v_d v_n v_power v_limbs = some (o_used, o_d, o_n, o_power, o_limbs) → ∀ (H : Heap) (locs : List Loc), va_K (dC, dI) vwCl [(c_d, .int), (c_n, .int), (c_power, .int), (c_limbs, .long)] s → va_P (dC, dI) vwCl (wd_X2_row a_this a_text a_d a_n a_power a_limbs c_d c_n c_power c_limbs v_thrown v_size v_used v_at v_d v_n v_power v_limbs) H → va_D A (wd_X2_row a_this a_text a_d a_n a_power a_limbs c_d c_n c_power c_limbs v_thrown v_size v_used v_at v_d v_n v_power v_limbs) → va_S A s.heap H locs → ∀ (ls : Array Slot), lv_has ls 8 [(0, .ref a_this), (3, .int l3), (4, .int l4), (5, .int l5)] → W p l e (headSpec (w_X2_row) ({ frames := 1, cells := 0, slots := 0, locals := 25 } : Room)).room s m args below meth c H locs 0 0 (MQ below (va_Qv (fun (_ : Unit) => True) (fun (_ : Unit) t => va_P (dC, dI) vwCl (wd_X2_row a_this a_text a_d a_n a_power a_limbs c_d c_n c_power c_limbs v_thrown v_size o_used v_at o_d o_n o_power o_limbs) t.heap ∧ va_K (dC, dI) vwCl [(c_d, .int), (c_n, .int), (c_power, .int), (c_limbs, .long)] t ∧ va_D A (wd_X2_row a_this a_text a_d a_n a_power a_limbs c_d c_n c_power c_limbs v_thrown v_size o_used v_at o_d o_n o_power o_limbs)) A) args s 0 0 A) (F0 m 93 ls []) := by
  intro n
  induction n with
  | zero =>
    intro l3 l4 l5 v_thrown v_size v_used v_at v_d v_n v_power v_limbs o_used o_d o_n o_power o_limbs h H locs hK hP hD hS ls hl
    exact absurd h (by simp [f_X2_row_L93])
  | succ n ih =>
    intro l3 l4 l5 v_thrown v_size v_used v_at v_d v_n v_power v_limbs o_used o_d o_n o_power o_limbs h H locs hK hP hD hS ls hl
    unfold f_X2_row_L93 at h
    refine lv_iload hx hb dX2_row_93 (lv_at hl 3 rfl) ?_
    refine lv_iload_n hx hb dX2_row_95 rfl (lv_at hl 1 rfl) ?_
    refine lv_ineg hx hb dX2_row_96 ?_
    refine lv_bipush (v := 12) hx hb dX2_row_97 (by decide) ?_
    refine lv_idiv hx hb dX2_row_99 (by decide) ?_
    refine lv_icmp_ge (tgt := 116) hx hb dX2_row_100 (by decide) (fun c9 => ?_) (fun c9 => ?_)
    · have h := (if_pos c9).symm.trans h
      refine lv_iconst (v := 0) hx hb dX2_row_116 (by decide) ?_
      refine lv_istore (lv' := [(5, .int 0), (0, .ref a_this), (3, .int l3), (4, .int l4)]) hx hb dX2_row_117 hl (by decide) rfl (fun ls hl => ?_)
      exact w_X2_row_119 l a_this a_text a_d a_n a_power a_limbs c_d c_n c_power c_limbs hx hb hr hml hown hws hlocks hA FU l3 l4 0 v_thrown v_size v_used v_at v_d v_n v_power v_limbs o_used o_d o_n o_power o_limbs h H locs hK hP hD hS ls (lv_sub hl [1, 2, 3, 0] rfl)
    · have h := (if_neg c9).symm.trans h
      refine lv_aload_n hx hb dX2_row_103 rfl (lv_at hl 0 rfl) ?_
      refine lv_ldc2 (v := 244140625) hx hb hown (hws _ ww_269) dX2_row_104 ?_
      obtain ⟨⟨v_used_107, v_limbs_107⟩, hc, h⟩ := bd h
      dsimp only at h
      have hPc := hP.sub (ws' := (wd_X2_times a_this a_text a_d a_n a_power a_limbs c_limbs v_thrown v_size v_used v_at v_limbs)) [0, 4] rfl
      have hDc := hD.sub (ws' := (wd_X2_times a_this a_text a_d a_n a_power a_limbs c_limbs v_thrown v_size v_used v_at v_limbs)) [0, 4] (by decide) rfl
      have hKc := hK.sub (tys' := [(c_limbs, .long)]) [3] rfl
      have hFc := va_free (wc := (wd_X2_times a_this a_text a_d a_n a_power a_limbs c_limbs v_thrown v_size v_used v_at v_limbs)) hD hS hA [0, 4] rfl
      refine va_callv (va_runV (As := [.long 244140625]) (rest := []) ⟨hx, hb, hml, hown, hws⟩ (c_X2_times l dC dI  a_this a_text a_d a_n a_power a_limbs c_limbs (Array.size H) 244140625 v_thrown v_size v_used v_at v_limbs v_used_107 v_limbs_107 hc) (cwV 1 hws (gV ww_273 ww_274 ww_275 ww_5 ww_276) rfl rfl rfl (by decide +kernel) ⟨Nat.le_of_ble_eq_true rfl, Nat.le_of_ble_eq_true rfl⟩) ⟨(fun a U g mk q => by obtain ⟨q0, q1, qP, qK, qD⟩ := q; exact ⟨q0, q1, qP, va_K.moved (u := U) (U := U.calling g mk a) (Vm.Alike.refl U.vm) qK, qD⟩), va_recv hKc hPc (ci := 2) (q0 := 0) rfl rfl, (fun U hU hW => ⟨rfl, by rw [hU], by rw [hU]; exact hPc, va_K.moved hW.alike hKc, hDc.weaken (fun _ _ _ _ => trivial)⟩)⟩ rfl rfl hl.1 rfl (lv_room (Nat.le_of_ble_eq_true rfl)) dX2_row_107 ⟨Nat.zero_le _, Nat.zero_le _⟩) hS (fun q _ h => hFc q h) hFc (fun u9 t H1 locs ht hvm hw hB hz1 hk1 hS => ?_)
      obtain ⟨hP1, hK1, hD1⟩ := hB
      rw [ht] at hP1
      obtain ⟨hP, hD⟩ := va_join (wr := [(a_d, .inl (c_d, 7000, .inl v_d)), (a_n, .inl (c_n, 7000, .inl v_n)), (a_power, .inl (c_power, 7000, .inl v_power))]) (w1 := (wd_X2_times a_this a_text a_d a_n a_power a_limbs c_limbs v_thrown v_size v_used_107 v_at v_limbs_107)) hP hD [0, 4] [1, 2, 3] rfl rfl (by decide) (by decide) hk1 hFc hP1 hD1
      generalize H1 = H at hP hS ⊢
      have hP : va_P (dC, dI) vwCl (wd_X2_row a_this a_text a_d a_n a_power a_limbs c_d c_n c_power c_limbs v_thrown v_size v_used_107 v_at v_d v_n v_power v_limbs_107) H := hP.sub [3, 0, 1, 2, 4] rfl
      have hD : va_D A (wd_X2_row a_this a_text a_d a_n a_power a_limbs c_d c_n c_power c_limbs v_thrown v_size v_used_107 v_at v_d v_n v_power v_limbs_107) := hD.sub [3, 0, 1, 2, 4] (by decide) rfl
      clear hP1 hK1 hD1 hPc hDc hKc hFc hk1 hz1 ht hvm
      refine lv_iinc (v := (l5 + 1)) (lv' := [(5, .int (l5 + 1)), (0, .ref a_this), (3, .int l3), (4, .int l4)]) hx hb dX2_row_110 hl (k := 3) rfl rfl (by decide) rfl (fun ls hl => ?_)
      refine lv_goto (tgt := 93) hx hb dX2_row_113 (by decide) ?_
      exact ih l3 l4 (l5 + 1) v_thrown v_size v_used_107 v_at v_d v_n v_power v_limbs_107 o_used o_d o_n o_power o_limbs h H locs hK hP hD hS ls (lv_sub hl [1, 2, 3, 0] rfl)
set_option maxHeartbeats 4000000 in
set_option maxRecDepth 100000 in
theorem w_X2_row_54 (l : Launch) {p : Program} {e : Env} {s : State} {m : MethodId} {args : Array Value} {below : List Frame} {meth : Method} {c : Code} {A : Nat → Prop} {dC : Nat → ClassId} {dI : Nat → Nat → Nat} (a_this a_text a_d a_n a_power a_limbs : Nat) (c_d c_n c_power c_limbs : ClassId) (hx : p.tables.exec = Jvm.exec) (hb : c.code = cX2_row) (hr : meth.sig.returnType = none) (hml : c.maxLocals = 8) (hown : s.vm.findClass RX2 = some m.cls) (hws : ∀ w ∈ wsL_law, w.before args s = true) (hlocks : meth.locks = false) (hA : ∀ q : Nat, s.heap.size ≤ q → A q) : ∀ (n : Nat) (l3 : Int32) (l4 : Int32) (l5 : Int32) (v_thrown : Int32) (v_size : Int32) (v_used : Int32) (v_at : Int32) (v_d : Nat → Int32) (v_n : Nat → Int32) (v_power : Nat → Int32) (v_limbs : Nat → Int64) (o_used : Int32) (o_d : Nat → Int32) (o_n : Nat → Int32) (o_power : Nat → Int32) (o_limbs : Nat → Int64), f_X2_row_L54 n l3 l4 l5 v_used v_d v_n v_power v_limbs = some (o_used, o_d, o_n, o_power, o_limbs) → ∀ (H : Heap) (locs : List Loc), va_K (dC, dI) vwCl [(c_d, .int), (c_n, .int), (c_power, .int), (c_limbs, .long)] s → va_P (dC, dI) vwCl (wd_X2_row a_this a_text a_d a_n a_power a_limbs c_d c_n c_power c_limbs v_thrown v_size v_used v_at v_d v_n v_power v_limbs) H → va_D A (wd_X2_row a_this a_text a_d a_n a_power a_limbs c_d c_n c_power c_limbs v_thrown v_size v_used v_at v_d v_n v_power v_limbs) → va_S A s.heap H locs → ∀ (ls : Array Slot), lv_has ls 8 [(0, .ref a_this), (3, .int l3), (4, .int l4), (5, .int l5)] → W p l e (headSpec (w_X2_row) ({ frames := 1, cells := 0, slots := 0, locals := 25 } : Room)).room s m args below meth c H locs 0 0 (MQ below (va_Qv (fun (_ : Unit) => True) (fun (_ : Unit) t => va_P (dC, dI) vwCl (wd_X2_row a_this a_text a_d a_n a_power a_limbs c_d c_n c_power c_limbs v_thrown v_size o_used v_at o_d o_n o_power o_limbs) t.heap ∧ va_K (dC, dI) vwCl [(c_d, .int), (c_n, .int), (c_power, .int), (c_limbs, .long)] t ∧ va_D A (wd_X2_row a_this a_text a_d a_n a_power a_limbs c_d c_n c_power c_limbs v_thrown v_size o_used v_at o_d o_n o_power o_limbs)) A) args s 0 0 A) (F0 m 54 ls []) := by
  intro n
  induction n with
  | zero =>
    intro l3 l4 l5 v_thrown v_size v_used v_at v_d v_n v_power v_limbs o_used o_d o_n o_power o_limbs h H locs hK hP hD hS ls hl
    exact absurd h (by simp [f_X2_row_L54])
  | succ n ih =>
    intro l3 l4 l5 v_thrown v_size v_used v_at v_d v_n v_power v_limbs o_used o_d o_n o_power o_limbs h H locs hK hP hD hS ls hl
    unfold f_X2_row_L54 at h
    refine lv_iload hx hb dX2_row_54 (lv_at hl 3 rfl) ?_
    refine lv_iload_n hx hb dX2_row_56 rfl (lv_at hl 1 rfl) ?_
    refine lv_bipush (v := 29) hx hb dX2_row_57 (by decide) ?_
    refine lv_idiv hx hb dX2_row_59 (by decide) ?_
    refine lv_icmp_ge (tgt := 76) hx hb dX2_row_60 (by decide) (fun c9 => ?_) (fun c9 => ?_)
    · have h := (if_pos c9).symm.trans h
      refine lv_iload_n hx hb dX2_row_76 rfl (lv_at hl 1 rfl) ?_
      refine lv_if_le (tgt := 90) hx hb dX2_row_77 (by decide) (fun c9 => ?_) (fun c9 => ?_)
      · have h := (if_pos c9).symm.trans h
        refine lv_iconst (v := 0) hx hb dX2_row_90 (by decide) ?_
        refine lv_istore (lv' := [(5, .int 0), (0, .ref a_this), (3, .int l3), (4, .int l4)]) hx hb dX2_row_91 hl (by decide) rfl (fun ls hl => ?_)
        exact w_X2_row_93 l a_this a_text a_d a_n a_power a_limbs c_d c_n c_power c_limbs hx hb hr hml hown hws hlocks hA FU l3 l4 0 v_thrown v_size v_used v_at v_d v_n v_power v_limbs o_used o_d o_n o_power o_limbs h H locs hK hP hD hS ls (lv_sub hl [1, 2, 3, 0] rfl)
      · have h := (if_neg c9).symm.trans h
        refine lv_aload_n hx hb dX2_row_80 rfl (lv_at hl 0 rfl) ?_
        refine lv_lconst (v := 1) hx hb dX2_row_81 (by decide) ?_
        refine lv_iload_n hx hb dX2_row_82 rfl (lv_at hl 1 rfl) ?_
        refine lv_bipush (v := 29) hx hb dX2_row_83 (by decide) ?_
        refine lv_irem hx hb dX2_row_85 (by decide) ?_
        refine lv_lshl hx hb dX2_row_86 rfl ?_
        obtain ⟨⟨v_used_87, v_limbs_87⟩, hc, h⟩ := bd h
        dsimp only at h
        have hPc := hP.sub (ws' := (wd_X2_times a_this a_text a_d a_n a_power a_limbs c_limbs v_thrown v_size v_used v_at v_limbs)) [0, 4] rfl
        have hDc := hD.sub (ws' := (wd_X2_times a_this a_text a_d a_n a_power a_limbs c_limbs v_thrown v_size v_used v_at v_limbs)) [0, 4] (by decide) rfl
        have hKc := hK.sub (tys' := [(c_limbs, .long)]) [3] rfl
        have hFc := va_free (wc := (wd_X2_times a_this a_text a_d a_n a_power a_limbs c_limbs v_thrown v_size v_used v_at v_limbs)) hD hS hA [0, 4] rfl
        refine va_callv (va_runV (As := [.long (1 <<< (Int32.toInt64 (l3 - l3 / 29 * 29) &&& 63))]) (rest := []) ⟨hx, hb, hml, hown, hws⟩ (c_X2_times l dC dI  a_this a_text a_d a_n a_power a_limbs c_limbs (Array.size H) (1 <<< (Int32.toInt64 (l3 - l3 / 29 * 29) &&& 63)) v_thrown v_size v_used v_at v_limbs v_used_87 v_limbs_87 hc) (cwV 1 hws (gV ww_273 ww_274 ww_275 ww_5 ww_276) rfl rfl rfl (by decide +kernel) ⟨Nat.le_of_ble_eq_true rfl, Nat.le_of_ble_eq_true rfl⟩) ⟨(fun a U g mk q => by obtain ⟨q0, q1, qP, qK, qD⟩ := q; exact ⟨q0, q1, qP, va_K.moved (u := U) (U := U.calling g mk a) (Vm.Alike.refl U.vm) qK, qD⟩), va_recv hKc hPc (ci := 2) (q0 := 0) rfl rfl, (fun U hU hW => ⟨rfl, by rw [hU], by rw [hU]; exact hPc, va_K.moved hW.alike hKc, hDc.weaken (fun _ _ _ _ => trivial)⟩)⟩ rfl rfl hl.1 rfl (lv_room (Nat.le_of_ble_eq_true rfl)) dX2_row_87 ⟨Nat.zero_le _, Nat.zero_le _⟩) hS (fun q _ h => hFc q h) hFc (fun u9 t H1 locs ht hvm hw hB hz1 hk1 hS => ?_)
        obtain ⟨hP1, hK1, hD1⟩ := hB
        rw [ht] at hP1
        obtain ⟨hP, hD⟩ := va_join (wr := [(a_d, .inl (c_d, 7000, .inl v_d)), (a_n, .inl (c_n, 7000, .inl v_n)), (a_power, .inl (c_power, 7000, .inl v_power))]) (w1 := (wd_X2_times a_this a_text a_d a_n a_power a_limbs c_limbs v_thrown v_size v_used_87 v_at v_limbs_87)) hP hD [0, 4] [1, 2, 3] rfl rfl (by decide) (by decide) hk1 hFc hP1 hD1
        generalize H1 = H at hP hS ⊢
        have hP : va_P (dC, dI) vwCl (wd_X2_row a_this a_text a_d a_n a_power a_limbs c_d c_n c_power c_limbs v_thrown v_size v_used_87 v_at v_d v_n v_power v_limbs_87) H := hP.sub [3, 0, 1, 2, 4] rfl
        have hD : va_D A (wd_X2_row a_this a_text a_d a_n a_power a_limbs c_d c_n c_power c_limbs v_thrown v_size v_used_87 v_at v_d v_n v_power v_limbs_87) := hD.sub [3, 0, 1, 2, 4] (by decide) rfl
        clear hP1 hK1 hD1 hPc hDc hKc hFc hk1 hz1 ht hvm
        refine lv_iconst (v := 0) hx hb dX2_row_90 (by decide) ?_
        refine lv_istore (lv' := [(5, .int 0), (0, .ref a_this), (3, .int l3), (4, .int l4)]) hx hb dX2_row_91 hl (by decide) rfl (fun ls hl => ?_)
        exact w_X2_row_93 l a_this a_text a_d a_n a_power a_limbs c_d c_n c_power c_limbs hx hb hr hml hown hws hlocks hA FU l3 l4 0 v_thrown v_size v_used_87 v_at v_d v_n v_power v_limbs_87 o_used o_d o_n o_power o_limbs h H locs hK hP hD hS ls (lv_sub hl [1, 2, 3, 0] rfl)
    · have h := (if_neg c9).symm.trans h
      refine lv_aload_n hx hb dX2_row_63 rfl (lv_at hl 0 rfl) ?_
      refine lv_ldc2 (v := 536870912) hx hb hown (hws _ ww_268) dX2_row_64 ?_
      obtain ⟨⟨v_used_67, v_limbs_67⟩, hc, h⟩ := bd h
      dsimp only at h
      have hPc := hP.sub (ws' := (wd_X2_times a_this a_text a_d a_n a_power a_limbs c_limbs v_thrown v_size v_used v_at v_limbs)) [0, 4] rfl
      have hDc := hD.sub (ws' := (wd_X2_times a_this a_text a_d a_n a_power a_limbs c_limbs v_thrown v_size v_used v_at v_limbs)) [0, 4] (by decide) rfl
      have hKc := hK.sub (tys' := [(c_limbs, .long)]) [3] rfl
      have hFc := va_free (wc := (wd_X2_times a_this a_text a_d a_n a_power a_limbs c_limbs v_thrown v_size v_used v_at v_limbs)) hD hS hA [0, 4] rfl
      refine va_callv (va_runV (As := [.long 536870912]) (rest := []) ⟨hx, hb, hml, hown, hws⟩ (c_X2_times l dC dI  a_this a_text a_d a_n a_power a_limbs c_limbs (Array.size H) 536870912 v_thrown v_size v_used v_at v_limbs v_used_67 v_limbs_67 hc) (cwV 1 hws (gV ww_273 ww_274 ww_275 ww_5 ww_276) rfl rfl rfl (by decide +kernel) ⟨Nat.le_of_ble_eq_true rfl, Nat.le_of_ble_eq_true rfl⟩) ⟨(fun a U g mk q => by obtain ⟨q0, q1, qP, qK, qD⟩ := q; exact ⟨q0, q1, qP, va_K.moved (u := U) (U := U.calling g mk a) (Vm.Alike.refl U.vm) qK, qD⟩), va_recv hKc hPc (ci := 2) (q0 := 0) rfl rfl, (fun U hU hW => ⟨rfl, by rw [hU], by rw [hU]; exact hPc, va_K.moved hW.alike hKc, hDc.weaken (fun _ _ _ _ => trivial)⟩)⟩ rfl rfl hl.1 rfl (lv_room (Nat.le_of_ble_eq_true rfl)) dX2_row_67 ⟨Nat.zero_le _, Nat.zero_le _⟩) hS (fun q _ h => hFc q h) hFc (fun u9 t H1 locs ht hvm hw hB hz1 hk1 hS => ?_)
      obtain ⟨hP1, hK1, hD1⟩ := hB
      rw [ht] at hP1
      obtain ⟨hP, hD⟩ := va_join (wr := [(a_d, .inl (c_d, 7000, .inl v_d)), (a_n, .inl (c_n, 7000, .inl v_n)), (a_power, .inl (c_power, 7000, .inl v_power))]) (w1 := (wd_X2_times a_this a_text a_d a_n a_power a_limbs c_limbs v_thrown v_size v_used_67 v_at v_limbs_67)) hP hD [0, 4] [1, 2, 3] rfl rfl (by decide) (by decide) hk1 hFc hP1 hD1
      generalize H1 = H at hP hS ⊢
      have hP : va_P (dC, dI) vwCl (wd_X2_row a_this a_text a_d a_n a_power a_limbs c_d c_n c_power c_limbs v_thrown v_size v_used_67 v_at v_d v_n v_power v_limbs_67) H := hP.sub [3, 0, 1, 2, 4] rfl
      have hD : va_D A (wd_X2_row a_this a_text a_d a_n a_power a_limbs c_d c_n c_power c_limbs v_thrown v_size v_used_67 v_at v_d v_n v_power v_limbs_67) := hD.sub [3, 0, 1, 2, 4] (by decide) rfl
      clear hP1 hK1 hD1 hPc hDc hKc hFc hk1 hz1 ht hvm
      refine lv_iinc (v := (l5 + 1)) (lv' := [(5, .int (l5 + 1)), (0, .ref a_this), (3, .int l3), (4, .int l4)]) hx hb dX2_row_70 hl (k := 3) rfl rfl (by decide) rfl (fun ls hl => ?_)
      refine lv_goto (tgt := 54) hx hb dX2_row_73 (by decide) ?_
      exact ih l3 l4 (l5 + 1) v_thrown v_size v_used_67 v_at v_d v_n v_power v_limbs_67 o_used o_d o_n o_power o_limbs h H locs hK hP hD hS ls (lv_sub hl [1, 2, 3, 0] rfl)
set_option maxHeartbeats 4000000 in
set_option maxRecDepth 100000 in
theorem w_X2_row_8 (l : Launch) {p : Program} {e : Env} {s : State} {m : MethodId} {args : Array Value} {below : List Frame} {meth : Method} {c : Code} {A : Nat → Prop} {dC : Nat → ClassId} {dI : Nat → Nat → Nat} (a_this a_text a_d a_n a_power a_limbs : Nat) (c_d c_n c_power c_limbs : ClassId) (hx : p.tables.exec = Jvm.exec) (hb : c.code = cX2_row) (hr : meth.sig.returnType = none) (hml : c.maxLocals = 8) (hown : s.vm.findClass RX2 = some m.cls) (hws : ∀ w ∈ wsL_law, w.before args s = true) (hlocks : meth.locks = false) (hA : ∀ q : Nat, s.heap.size ≤ q → A q) : ∀ (n : Nat) (l3 : Int32) (l4 : Int32) (l5 : Int64) (v_thrown : Int32) (v_size : Int32) (v_used : Int32) (v_at : Int32) (v_d : Nat → Int32) (v_n : Nat → Int32) (v_power : Nat → Int32) (v_limbs : Nat → Int64) (o_used : Int32) (o_d : Nat → Int32) (o_n : Nat → Int32) (o_power : Nat → Int32) (o_limbs : Nat → Int64), f_X2_row_L8 n l3 l4 l5 v_used v_d v_n v_power v_limbs = some (o_used, o_d, o_n, o_power, o_limbs) → ∀ (H : Heap) (locs : List Loc), va_K (dC, dI) vwCl [(c_d, .int), (c_n, .int), (c_power, .int), (c_limbs, .long)] s → va_P (dC, dI) vwCl (wd_X2_row a_this a_text a_d a_n a_power a_limbs c_d c_n c_power c_limbs v_thrown v_size v_used v_at v_d v_n v_power v_limbs) H → va_D A (wd_X2_row a_this a_text a_d a_n a_power a_limbs c_d c_n c_power c_limbs v_thrown v_size v_used v_at v_d v_n v_power v_limbs) → va_S A s.heap H locs → ∀ (ls : Array Slot), lv_has ls 8 [(0, .ref a_this), (3, .int l3), (4, .int l4), (5, .long l5)] → W p l e (headSpec (w_X2_row) ({ frames := 1, cells := 0, slots := 0, locals := 25 } : Room)).room s m args below meth c H locs 0 0 (MQ below (va_Qv (fun (_ : Unit) => True) (fun (_ : Unit) t => va_P (dC, dI) vwCl (wd_X2_row a_this a_text a_d a_n a_power a_limbs c_d c_n c_power c_limbs v_thrown v_size o_used v_at o_d o_n o_power o_limbs) t.heap ∧ va_K (dC, dI) vwCl [(c_d, .int), (c_n, .int), (c_power, .int), (c_limbs, .long)] t ∧ va_D A (wd_X2_row a_this a_text a_d a_n a_power a_limbs c_d c_n c_power c_limbs v_thrown v_size o_used v_at o_d o_n o_power o_limbs)) A) args s 0 0 A) (F0 m 8 ls []) := by
  intro n
  induction n with
  | zero =>
    intro l3 l4 l5 v_thrown v_size v_used v_at v_d v_n v_power v_limbs o_used o_d o_n o_power o_limbs h H locs hK hP hD hS ls hl
    exact absurd h (by simp [f_X2_row_L8])
  | succ n ih =>
    intro l3 l4 l5 v_thrown v_size v_used v_at v_d v_n v_power v_limbs o_used o_d o_n o_power o_limbs h H locs hK hP hD hS ls hl
    unfold f_X2_row_L8 at h
    refine lv_lload hx hb dX2_row_8 (lv_at hl 3 rfl) ?_
    refine lv_lconst (v := 0) hx hb dX2_row_10 (by decide) ?_
    refine W.lcmp hx hb dX2_row_11 ?_
    refine lv_if_le (tgt := 51) hx hb dX2_row_12 (by decide) (fun c9 => ?_) (fun c9 => ?_)
    · have h := (if_pos c9).symm.trans h
      refine lv_iconst (v := 0) hx hb dX2_row_51 (by decide) ?_
      refine lv_istore (lv' := [(5, .int 0), (0, .ref a_this), (3, .int l3), (4, .int l4)]) hx hb dX2_row_52 hl (by decide) rfl (fun ls hl => ?_)
      exact w_X2_row_54 l a_this a_text a_d a_n a_power a_limbs c_d c_n c_power c_limbs hx hb hr hml hown hws hlocks hA FU l3 l4 0 v_thrown v_size v_used v_at v_d v_n v_power v_limbs o_used o_d o_n o_power o_limbs h H locs hK hP hD hS ls (lv_sub hl [1, 2, 3, 0] rfl)
    · have h := (if_neg c9).symm.trans h
      refine lv_aload_n hx hb dX2_row_15 rfl (lv_at hl 0 rfl) ?_
      refine va_get (D := (dC, dI)) (ci := 2) (v := .ref a_limbs) (C := RX2) (T := TX2) (N := 9) hx hb hws inlX2 hown hK hP 0 rfl rfl 6 (by decide) (hws _ ww_38) (fun _ h9 => h9) rfl dX2_row_16 ?_
      refine lv_aload_n hx hb dX2_row_19 rfl (lv_at hl 0 rfl) ?_
      refine va_get (D := (dC, dI)) (ci := 2) (v := .int v_used) (C := RX2) (T := TX2) (N := 9) hx hb hws inlX2 hown hK hP 0 rfl rfl 7 (by decide) (hws _ ww_266) (fun _ h9 => h9) rfl dX2_row_20 ?_
      refine lv_lload hx hb dX2_row_23 (lv_at hl 3 rfl) ?_
      refine lv_ldc2 (v := 1000000000) hx hb hown (hws _ ww_267) dX2_row_25 ?_
      refine lv_lrem hx hb dX2_row_28 (by decide) ?_
      obtain ⟨hi, h⟩ := gd h
      refine va_last hx hb hK hP hD hS 4 3 rfl rfl hi dX2_row_29 (fun H locs hP hD hS => ?_)
      have hP : va_P (dC, dI) vwCl (wd_X2_row a_this a_text a_d a_n a_power a_limbs c_d c_n c_power c_limbs v_thrown v_size v_used v_at v_d v_n v_power (vp_updL v_limbs (Int32.toNatClampNeg v_used) (l5 - l5 / 1000000000 * 1000000000))) H := hP
      have hD : va_D A (wd_X2_row a_this a_text a_d a_n a_power a_limbs c_d c_n c_power c_limbs v_thrown v_size v_used v_at v_d v_n v_power (vp_updL v_limbs (Int32.toNatClampNeg v_used) (l5 - l5 / 1000000000 * 1000000000))) := hD
      refine lv_aload_n hx hb dX2_row_30 rfl (lv_at hl 0 rfl) ?_
      refine lv_dup hx hb dX2_row_31 rfl ?_
      refine va_get (D := (dC, dI)) (ci := 2) (v := .int v_used) (C := RX2) (T := TX2) (N := 9) hx hb hws inlX2 hown hK hP 0 rfl rfl 7 (by decide) (hws _ ww_266) (fun _ h9 => h9) rfl dX2_row_32 ?_
      refine lv_iconst (v := 1) hx hb dX2_row_35 (by decide) ?_
      refine lv_iadd hx hb dX2_row_36 ?_
      refine va_put (D := (dC, dI)) (ci := 2) (v := .int (v_used + 1)) (ty := .int) (C := RX2) (T := TX2) (N := 9) hx hb hws inlX2 tyX2 tyX2_ok nmX2 hown hK hP hD hS 0 rfl rfl 7 (by decide) (hws _ ww_266) (fun _ h9 => h9) rfl (by decide +kernel) rfl rfl (Nat.le_of_ble_eq_true rfl) dX2_row_37 (fun H locs hP hD hS => ?_)
      have hP : va_P (dC, dI) vwCl (wd_X2_row a_this a_text a_d a_n a_power a_limbs c_d c_n c_power c_limbs v_thrown v_size (v_used + 1) v_at v_d v_n v_power (vp_updL v_limbs (Int32.toNatClampNeg v_used) (l5 - l5 / 1000000000 * 1000000000))) H := hP
      have hD : va_D A (wd_X2_row a_this a_text a_d a_n a_power a_limbs c_d c_n c_power c_limbs v_thrown v_size (v_used + 1) v_at v_d v_n v_power (vp_updL v_limbs (Int32.toNatClampNeg v_used) (l5 - l5 / 1000000000 * 1000000000))) := hD
      refine lv_lload hx hb dX2_row_40 (lv_at hl 3 rfl) ?_
      refine lv_ldc2 (v := 1000000000) hx hb hown (hws _ ww_267) dX2_row_42 ?_
      refine lv_ldiv hx hb dX2_row_45 (by decide) ?_
      refine lv_lstore (lv' := [(5, .long (l5 / 1000000000)), (0, .ref a_this), (3, .int l3), (4, .int l4)]) hx hb dX2_row_46 hl (by decide) rfl (fun ls hl => ?_)
      refine lv_goto (tgt := 8) hx hb dX2_row_48 (by decide) ?_
      exact ih l3 l4 (l5 / 1000000000) v_thrown v_size (v_used + 1) v_at v_d v_n v_power (vp_updL v_limbs (Int32.toNatClampNeg v_used) (l5 - l5 / 1000000000 * 1000000000)) o_used o_d o_n o_power o_limbs h H locs hK hP hD hS ls (lv_sub hl [1, 2, 3, 0] rfl)
set_option maxHeartbeats 4000000 in
set_option maxRecDepth 100000 in
theorem c_X2_row (l : Launch) (dC : Nat → ClassId) (dI : Nat → Nat → Nat)  (a_this a_text a_d a_n a_power a_limbs : Nat) (c_d c_n c_power c_limbs : ClassId) (sz : Nat) (l1 : Int64) (l3 : Int32) (l4 : Int32) (v_thrown : Int32) (v_size : Int32) (v_used : Int32) (v_at : Int32) (v_d : Nat → Int32) (v_n : Nat → Int32) (v_power : Nat → Int32) (v_limbs : Nat → Int64) (o_used : Int32) (o_d : Nat → Int32) (o_n : Nat → Int32) (o_power : Nat → Int32) (o_limbs : Nat → Int64) (h : f_X2_row l1 l3 l4 v_used v_d v_n v_power v_limbs = some (o_used, o_d, o_n, o_power, o_limbs)) : Met l yX2_row w_X2_row ({ frames := 1, cells := 0, slots := 0, locals := 25 } : Room) (va_Pc [.ref a_this, .long l1, .int l3, .int l4] (fun U => U.heap.size = sz ∧ va_P (dC, dI) vwCl (wd_X2_row a_this a_text a_d a_n a_power a_limbs c_d c_n c_power c_limbs v_thrown v_size v_used v_at v_d v_n v_power v_limbs) U.heap ∧ va_K (dC, dI) vwCl [(c_d, .int), (c_n, .int), (c_power, .int), (c_limbs, .long)] U ∧ va_D (fun _ => True) (wd_X2_row a_this a_text a_d a_n a_power a_limbs c_d c_n c_power c_limbs v_thrown v_size v_used v_at v_d v_n v_power v_limbs))) (va_Qv (fun (_ : Unit) => True) (fun (_ : Unit) t => va_P (dC, dI) vwCl (wd_X2_row a_this a_text a_d a_n a_power a_limbs c_d c_n c_power c_limbs v_thrown v_size o_used v_at o_d o_n o_power o_limbs) t.heap ∧ va_K (dC, dI) vwCl [(c_d, .int), (c_n, .int), (c_power, .int), (c_limbs, .long)] t ∧ va_D (va_A (wd_X2_row a_this a_text a_d a_n a_power a_limbs c_d c_n c_power c_limbs v_thrown v_size v_used v_at v_d v_n v_power v_limbs) sz) (wd_X2_row a_this a_text a_d a_n a_power a_limbs c_d c_n c_power c_limbs v_thrown v_size o_used v_at o_d o_n o_power o_limbs)) (va_A (wd_X2_row a_this a_text a_d a_n a_power a_limbs c_d c_n c_power c_limbs v_thrown v_size v_used v_at v_d v_n v_power v_limbs) sz)) 0 0 (va_A (wd_X2_row a_this a_text a_d a_n a_power a_limbs c_d c_n c_power c_limbs v_thrown v_size v_used v_at v_d v_n v_power v_limbs) sz) := by
  refine Met.ofW (cc := cX2_row) (maxL := 8) (ret := none) (by decide) rfl ?_
  intro p e s m args below meth c s₁ B hml hv
  obtain ⟨rfl, hsz, hP, hK, hD0⟩ := hv
  have hx := B.exec
  have hb := B.bytes
  have hr := B.returns
  have hws : ∀ w ∈ wsL_law, w.before _ s = true := fun w hw => atoms_spec (ws := w_X2_row) B.pre w (List.mem_cons_of_mem _ hw)
  have hown : s.vm.findClass RX2 = some m.cls := findClass_of_methodNamed B.named
  have hlocks := B.notSynchronized
  subst hsz
  have hD := hD0.self (sz := s.heap.size)
  generalize hAe : va_A (wd_X2_row a_this a_text a_d a_n a_power a_limbs c_d c_n c_power c_limbs v_thrown v_size v_used v_at v_d v_n v_power v_limbs) s.heap.size = A at hD ⊢
  have hA : ∀ q : Nat, s.heap.size ≤ q → A q := fun q h => by rw [← hAe]; exact Or.inr h
  have hS : va_S A s.heap s.heap [] := va_S.rf
  have hl := lv_entry ([.ref a_this, .long l1, .int l3, .int l4]) (n := 8) (Nat.le_of_ble_eq_true rfl)
  rw [lg_entry_eq]
  generalize (lg_sl ([.ref a_this, .long l1, .int l3, .int l4]) ++ List.replicate (8 - (lg_sl ([.ref a_this, .long l1, .int l3, .int l4])).length) Slot.unset).toArray = ls at hl ⊢
  have hl : lv_has ls 8 [(0, .ref a_this), (1, .long l1), (3, .int l3), (4, .int l4)] := hl
  unfold f_X2_row at h
  refine lv_aload_n hx hb dX2_row_0 rfl (lv_at hl 0 rfl) ?_
  refine lv_iconst (v := 0) hx hb dX2_row_1 (by decide) ?_
  refine va_put (D := (dC, dI)) (ci := 2) (v := .int 0) (ty := .int) (C := RX2) (T := TX2) (N := 9) hx hb hws inlX2 tyX2 tyX2_ok nmX2 hown hK hP hD hS 0 rfl rfl 7 (by decide) (hws _ ww_266) (fun _ h9 => h9) rfl (by decide +kernel) rfl rfl (Nat.le_of_ble_eq_true rfl) dX2_row_2 (fun H locs hP hD hS => ?_)
  have hP : va_P (dC, dI) vwCl (wd_X2_row a_this a_text a_d a_n a_power a_limbs c_d c_n c_power c_limbs v_thrown v_size 0 v_at v_d v_n v_power v_limbs) H := hP
  have hD : va_D A (wd_X2_row a_this a_text a_d a_n a_power a_limbs c_d c_n c_power c_limbs v_thrown v_size 0 v_at v_d v_n v_power v_limbs) := hD
  refine lv_lload_n hx hb dX2_row_5 rfl (lv_at hl 1 rfl) ?_
  refine lv_lstore (lv' := [(5, .long l1), (0, .ref a_this), (1, .long l1), (3, .int l3), (4, .int l4)]) hx hb dX2_row_6 hl (by decide) rfl (fun ls hl => ?_)
  exact w_X2_row_8 l a_this a_text a_d a_n a_power a_limbs c_d c_n c_power c_limbs hx hb hr hml hown hws hlocks hA FU l3 l4 l1 v_thrown v_size 0 v_at v_d v_n v_power v_limbs o_used o_d o_n o_power o_limbs h H locs hK hP hD hS ls (lv_sub hl [1, 3, 4, 0] rfl)
