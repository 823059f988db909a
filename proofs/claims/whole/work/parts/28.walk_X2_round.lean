set_option maxHeartbeats 4000000 in
set_option maxRecDepth 100000 in
theorem w_X2_round_258 (l : Launch) {p : Program} {e : Env} {s : State} {m : MethodId} {args : Array Value} {below : List Frame} {meth : Method} {c : Code} {A : Nat → Prop} {dC : Nat → ClassId} {dI : Nat → Nat → Nat} (a_this a_text a_d a_n a_power a_limbs : Nat) (c_d c_n c_power : ClassId) (hx : p.tables.exec = Jvm.exec) (hb : c.code = cX2_round) (hr : meth.sig.returnType = none) (hml : c.maxLocals = 7) (hown : s.vm.findClass RX2 = some m.cls) (hws : ∀ w ∈ wsL_law, w.before args s = true) (hlocks : meth.locks = false) (hA : ∀ q : Nat, s.heap.size ≤ q → A q) : ∀ (n : Nat) (l6 : Int32) (v_thrown : Int32) (v_size : Int32) (v_used : Int32) (v_at : Int32) (v_d : Nat → Int32) (v_n : Nat → Int32) (v_power : Nat → Int32) (o_d : Nat → Int32) (o_n : Nat → Int32) (o_power : Nat → Int32), f_X2_round_L258 n l6 v_d v_n v_power = some (o_d, o_n, o_power) → ∀ (H : Heap) (locs : List Loc), va_K (dC, dI) vwCl [(c_d, .int), (c_n, .int), (c_power, .int)] s → va_P (dC, dI) vwCl (wd_X2_round a_this a_text a_d a_n a_power a_limbs c_d c_n c_power v_thrown v_size v_used v_at v_d v_n v_power) H → va_D A (wd_X2_round a_this a_text a_d a_n a_power a_limbs c_d c_n c_power v_thrown v_size v_used v_at v_d v_n v_power) → va_S A s.heap H locs → ∀ (ls : Array Slot), lv_has ls 7 [(0, .ref a_this), (6, .int l6)] → W p l e (headSpec (w_X2_round) ({ frames := 1, cells := 0, slots := 0, locals := 22 } : Room)).room s m args below meth c H locs 0 0 (MQ below (va_Qv (fun (_ : Unit) => True) (fun (_ : Unit) t => va_P (dC, dI) vwCl (wd_X2_round a_this a_text a_d a_n a_power a_limbs c_d c_n c_power v_thrown v_size v_used v_at o_d o_n o_power) t.heap ∧ va_K (dC, dI) vwCl [(c_d, .int), (c_n, .int), (c_power, .int)] t ∧ va_D A (wd_X2_round a_this a_text a_d a_n a_power a_limbs c_d c_n c_power v_thrown v_size v_used v_at o_d o_n o_power)) A) args s 0 0 A) (F0 m 258 ls []) := by
  intro n
  induction n with
  | zero =>
    intro l6 v_thrown v_size v_used v_at v_d v_n v_power o_d o_n o_power h H locs hK hP hD hS ls hl
    exact absurd h (by simp [f_X2_round_L258])
  | succ n ih =>
    intro l6 v_thrown v_size v_used v_at v_d v_n v_power o_d o_n o_power h H locs hK hP hD hS ls hl
    unfold f_X2_round_L258 at h
    refine lv_iload hx hb dX2_round_258 (lv_at hl 1 rfl) ?_
    refine lv_if_le (tgt := 293) hx hb dX2_round_260 (by decide) (fun c9 => ?_) (fun c9 => ?_)
    · have h := (if_pos c9).symm.trans h
      refine lv_aload_n hx hb dX2_round_293 rfl (lv_at hl 0 rfl) ?_
      refine va_get (D := (dC, dI)) (ci := 2) (v := .ref a_d) (C := RX2) (T := TX2) (N := 9) hx hb hws inlX2 hown hK hP 0 rfl rfl 3 (by decide) (hws _ ww_35) (fun _ h9 => h9) rfl dX2_round_294 ?_
      refine lv_sipush (v := 2800) hx hb dX2_round_297 (by decide) ?_
      refine lv_iconst (v := 1) hx hb dX2_round_300 (by decide) ?_
      have hi : vp_in 2800 7000 := by unfold vp_in; decide +kernel
      refine va_iast hx hb hK hP hD hS 1 0 rfl rfl hi dX2_round_301 (fun H locs hP hD hS => ?_)
      have hP : va_P (dC, dI) vwCl (wd_X2_round a_this a_text a_d a_n a_power a_limbs c_d c_n c_power v_thrown v_size v_used v_at (upd v_d (Int32.toNatClampNeg 2800) 1) v_n v_power) H := hP
      have hD : va_D A (wd_X2_round a_this a_text a_d a_n a_power a_limbs c_d c_n c_power v_thrown v_size v_used v_at (upd v_d (Int32.toNatClampNeg 2800) 1) v_n v_power) := hD
      refine lv_aload_n hx hb dX2_round_302 rfl (lv_at hl 0 rfl) ?_
      refine va_get (D := (dC, dI)) (ci := 2) (v := .ref a_n) (C := RX2) (T := TX2) (N := 9) hx hb hws inlX2 hown hK hP 0 rfl rfl 4 (by decide) (hws _ ww_36) (fun _ h9 => h9) rfl dX2_round_303 ?_
      refine lv_sipush (v := 2800) hx hb dX2_round_306 (by decide) ?_
      refine lv_dup2_11 hx hb dX2_round_309 rfl rfl ?_
      have hi : vp_in 2800 7000 := by unfold vp_in; decide +kernel
      refine va_iald hx hb hK hP 2 1 rfl rfl hi dX2_round_310 ?_
      refine lv_iconst (v := 1) hx hb dX2_round_311 (by decide) ?_
      refine lv_iadd hx hb dX2_round_312 ?_
      have hi : vp_in 2800 7000 := by unfold vp_in; decide +kernel
      refine va_iast hx hb hK hP hD hS 2 1 rfl rfl hi dX2_round_313 (fun H locs hP hD hS => ?_)
      have hP : va_P (dC, dI) vwCl (wd_X2_round a_this a_text a_d a_n a_power a_limbs c_d c_n c_power v_thrown v_size v_used v_at (upd v_d (Int32.toNatClampNeg 2800) 1) (upd v_n (Int32.toNatClampNeg 2800) ((v_n (Int32.toNatClampNeg 2800)) + 1)) v_power) H := hP
      have hD : va_D A (wd_X2_round a_this a_text a_d a_n a_power a_limbs c_d c_n c_power v_thrown v_size v_used v_at (upd v_d (Int32.toNatClampNeg 2800) 1) (upd v_n (Int32.toNatClampNeg 2800) ((v_n (Int32.toNatClampNeg 2800)) + 1)) v_power) := hD
      refine lv_aload_n hx hb dX2_round_314 rfl (lv_at hl 0 rfl) ?_
      refine va_get (D := (dC, dI)) (ci := 2) (v := .ref a_power) (C := RX2) (T := TX2) (N := 9) hx hb hws inlX2 hown hK hP 0 rfl rfl 5 (by decide) (hws _ ww_37) (fun _ h9 => h9) rfl dX2_round_315 ?_
      refine lv_sipush (v := 2800) hx hb dX2_round_318 (by decide) ?_
      refine lv_dup2_11 hx hb dX2_round_321 rfl rfl ?_
      have hi : vp_in 2800 7000 := by unfold vp_in; decide +kernel
      refine va_iald hx hb hK hP 3 2 rfl rfl hi dX2_round_322 ?_
      refine lv_iconst (v := 1) hx hb dX2_round_323 (by decide) ?_
      refine lv_iadd hx hb dX2_round_324 ?_
      have hi : vp_in 2800 7000 := by unfold vp_in; decide +kernel
      refine va_iast hx hb hK hP hD hS 3 2 rfl rfl hi dX2_round_325 (fun H locs hP hD hS => ?_)
      have hP : va_P (dC, dI) vwCl (wd_X2_round a_this a_text a_d a_n a_power a_limbs c_d c_n c_power v_thrown v_size v_used v_at (upd v_d (Int32.toNatClampNeg 2800) 1) (upd v_n (Int32.toNatClampNeg 2800) ((v_n (Int32.toNatClampNeg 2800)) + 1)) (upd v_power (Int32.toNatClampNeg 2800) ((v_power (Int32.toNatClampNeg 2800)) + 1))) H := hP
      have hD : va_D A (wd_X2_round a_this a_text a_d a_n a_power a_limbs c_d c_n c_power v_thrown v_size v_used v_at (upd v_d (Int32.toNatClampNeg 2800) 1) (upd v_n (Int32.toNatClampNeg 2800) ((v_n (Int32.toNatClampNeg 2800)) + 1)) (upd v_power (Int32.toNatClampNeg 2800) ((v_power (Int32.toNatClampNeg 2800)) + 1))) := hD
      obtain ⟨h09, h19, h29⟩ := rt3 h
      subst o_d
      subst o_n
      subst o_power
      exact W.vret hx hb hr (fun t ht hW => ⟨⟨(), rfl, trivial, by rw [ht]; exact hP, va_K.moved hW.alike hK, hD⟩, hS.F ht⟩) hS.2.2 dX2_round_326
    · have h := (if_neg c9).symm.trans h
      refine lv_aload_n hx hb dX2_round_263 rfl (lv_at hl 0 rfl) ?_
      refine va_get (D := (dC, dI)) (ci := 2) (v := .ref a_d) (C := RX2) (T := TX2) (N := 9) hx hb hws inlX2 hown hK hP 0 rfl rfl 3 (by decide) (hws _ ww_35) (fun _ h9 => h9) rfl dX2_round_264 ?_
      refine lv_sipush (v := 2800) hx hb dX2_round_267 (by decide) ?_
      refine lv_iload hx hb dX2_round_270 (lv_at hl 1 rfl) ?_
      refine lv_iadd hx hb dX2_round_272 ?_
      refine lv_aload_n hx hb dX2_round_273 rfl (lv_at hl 0 rfl) ?_
      refine va_get (D := (dC, dI)) (ci := 2) (v := .ref a_d) (C := RX2) (T := TX2) (N := 9) hx hb hws inlX2 hown hK hP 0 rfl rfl 3 (by decide) (hws _ ww_35) (fun _ h9 => h9) rfl dX2_round_274 ?_
      refine lv_sipush (v := 2800) hx hb dX2_round_277 (by decide) ?_
      refine lv_iload hx hb dX2_round_280 (lv_at hl 1 rfl) ?_
      refine lv_iadd hx hb dX2_round_282 ?_
      refine lv_iconst (v := 1) hx hb dX2_round_283 (by decide) ?_
      refine lv_isub hx hb dX2_round_284 ?_
      obtain ⟨hi, h⟩ := gd h
      refine va_iald hx hb hK hP 1 0 rfl rfl hi dX2_round_285 ?_
      obtain ⟨hi, h⟩ := gd h
      refine va_iast hx hb hK hP hD hS 1 0 rfl rfl hi dX2_round_286 (fun H locs hP hD hS => ?_)
      have hP : va_P (dC, dI) vwCl (wd_X2_round a_this a_text a_d a_n a_power a_limbs c_d c_n c_power v_thrown v_size v_used v_at (upd v_d (Int32.toNatClampNeg (2800 + l6)) (v_d (Int32.toNatClampNeg ((2800 + l6) - 1)))) v_n v_power) H := hP
      have hD : va_D A (wd_X2_round a_this a_text a_d a_n a_power a_limbs c_d c_n c_power v_thrown v_size v_used v_at (upd v_d (Int32.toNatClampNeg (2800 + l6)) (v_d (Int32.toNatClampNeg ((2800 + l6) - 1)))) v_n v_power) := hD
      refine lv_iinc (v := (l6 + (-1))) (lv' := [(6, .int (l6 + (-1))), (0, .ref a_this)]) hx hb dX2_round_287 hl (k := 1) rfl rfl (by decide) rfl (fun ls hl => ?_)
      refine lv_goto (tgt := 258) hx hb dX2_round_290 (by decide) ?_
      exact ih (l6 + (-1)) v_thrown v_size v_used v_at (upd v_d (Int32.toNatClampNeg (2800 + l6)) (v_d (Int32.toNatClampNeg ((2800 + l6) - 1)))) v_n v_power o_d o_n o_power h H locs hK hP hD hS ls (lv_sub hl [1, 0] rfl)
set_option maxHeartbeats 4000000 in
set_option maxRecDepth 100000 in
theorem w_X2_round_227 (l : Launch) {p : Program} {e : Env} {s : State} {m : MethodId} {args : Array Value} {below : List Frame} {meth : Method} {c : Code} {A : Nat → Prop} {dC : Nat → ClassId} {dI : Nat → Nat → Nat} (a_this a_text a_d a_n a_power a_limbs : Nat) (c_d c_n c_power : ClassId) (hx : p.tables.exec = Jvm.exec) (hb : c.code = cX2_round) (hr : meth.sig.returnType = none) (hml : c.maxLocals = 7) (hown : s.vm.findClass RX2 = some m.cls) (hws : ∀ w ∈ wsL_law, w.before args s = true) (hlocks : meth.locks = false) (hA : ∀ q : Nat, s.heap.size ≤ q → A q) : ∀ (l5 : Int32) (v_thrown : Int32) (v_size : Int32) (v_used : Int32) (v_at : Int32) (v_d : Nat → Int32) (v_n : Nat → Int32) (v_power : Nat → Int32) (o_d : Nat → Int32) (o_n : Nat → Int32) (o_power : Nat → Int32), f_X2_round_b227 l5 v_d v_n v_power = some (o_d, o_n, o_power) → ∀ (H : Heap) (locs : List Loc), va_K (dC, dI) vwCl [(c_d, .int), (c_n, .int), (c_power, .int)] s → va_P (dC, dI) vwCl (wd_X2_round a_this a_text a_d a_n a_power a_limbs c_d c_n c_power v_thrown v_size v_used v_at v_d v_n v_power) H → va_D A (wd_X2_round a_this a_text a_d a_n a_power a_limbs c_d c_n c_power v_thrown v_size v_used v_at v_d v_n v_power) → va_S A s.heap H locs → ∀ (ls : Array Slot), lv_has ls 7 [(0, .ref a_this), (5, .int l5)] → W p l e (headSpec (w_X2_round) ({ frames := 1, cells := 0, slots := 0, locals := 22 } : Room)).room s m args below meth c H locs 0 0 (MQ below (va_Qv (fun (_ : Unit) => True) (fun (_ : Unit) t => va_P (dC, dI) vwCl (wd_X2_round a_this a_text a_d a_n a_power a_limbs c_d c_n c_power v_thrown v_size v_used v_at o_d o_n o_power) t.heap ∧ va_K (dC, dI) vwCl [(c_d, .int), (c_n, .int), (c_power, .int)] t ∧ va_D A (wd_X2_round a_this a_text a_d a_n a_power a_limbs c_d c_n c_power v_thrown v_size v_used v_at o_d o_n o_power)) A) args s 0 0 A) (F0 m 227 ls []) := by
  intro l5 v_thrown v_size v_used v_at v_d v_n v_power o_d o_n o_power h H locs hK hP hD hS ls hl
  unfold f_X2_round_b227 at h
  refine lv_iload hx hb dX2_round_227 (lv_at hl 1 rfl) ?_
  refine lv_if_lt (tgt := 248) hx hb dX2_round_229 (by decide) (fun c9 => ?_) (fun c9 => ?_)
  · have h := (if_pos c9).symm.trans h
    refine lv_aload_n hx hb dX2_round_248 rfl (lv_at hl 0 rfl) ?_
    refine va_get (D := (dC, dI)) (ci := 2) (v := .ref a_n) (C := RX2) (T := TX2) (N := 9) hx hb hws inlX2 hown hK hP 0 rfl rfl 4 (by decide) (hws _ ww_36) (fun _ h9 => h9) rfl dX2_round_249 ?_
    refine lv_sipush (v := 2800) hx hb dX2_round_252 (by decide) ?_
    have hi : vp_in 2800 7000 := by unfold vp_in; decide +kernel
    refine va_iald hx hb hK hP 2 1 rfl rfl hi dX2_round_255 ?_
    refine lv_istore (lv' := [(6, .int (v_n (Int32.toNatClampNeg 2800))), (0, .ref a_this), (5, .int l5)]) hx hb dX2_round_256 hl (by decide) rfl (fun ls hl => ?_)
    exact w_X2_round_258 l a_this a_text a_d a_n a_power a_limbs c_d c_n c_power hx hb hr hml hown hws hlocks hA FU (v_n (Int32.toNatClampNeg 2800)) v_thrown v_size v_used v_at v_d v_n v_power o_d o_n o_power h H locs hK hP hD hS ls (lv_sub hl [1, 0] rfl)
  · have h := (if_neg c9).symm.trans h
    refine lv_aload_n hx hb dX2_round_232 rfl (lv_at hl 0 rfl) ?_
    refine va_get (D := (dC, dI)) (ci := 2) (v := .ref a_d) (C := RX2) (T := TX2) (N := 9) hx hb hws inlX2 hown hK hP 0 rfl rfl 3 (by decide) (hws _ ww_35) (fun _ h9 => h9) rfl dX2_round_233 ?_
    refine lv_sipush (v := 2800) hx hb dX2_round_236 (by decide) ?_
    refine lv_iload hx hb dX2_round_239 (lv_at hl 1 rfl) ?_
    refine lv_iadd hx hb dX2_round_241 ?_
    refine lv_dup2_11 hx hb dX2_round_242 rfl rfl ?_
    obtain ⟨hi, h⟩ := gd h
    refine va_iald hx hb hK hP 1 0 rfl rfl hi dX2_round_243 ?_
    refine lv_iconst (v := 1) hx hb dX2_round_244 (by decide) ?_
    refine lv_iadd hx hb dX2_round_245 ?_
    obtain ⟨hi, h⟩ := gd h
    refine va_iast hx hb hK hP hD hS 1 0 rfl rfl hi dX2_round_246 (fun H locs hP hD hS => ?_)
    have hP : va_P (dC, dI) vwCl (wd_X2_round a_this a_text a_d a_n a_power a_limbs c_d c_n c_power v_thrown v_size v_used v_at (upd v_d (Int32.toNatClampNeg (2800 + l5)) ((v_d (Int32.toNatClampNeg (2800 + l5))) + 1)) v_n v_power) H := hP
    have hD : va_D A (wd_X2_round a_this a_text a_d a_n a_power a_limbs c_d c_n c_power v_thrown v_size v_used v_at (upd v_d (Int32.toNatClampNeg (2800 + l5)) ((v_d (Int32.toNatClampNeg (2800 + l5))) + 1)) v_n v_power) := hD
    obtain ⟨h09, h19, h29⟩ := rt3 h
    subst o_d
    subst o_n
    subst o_power
    exact W.vret hx hb hr (fun t ht hW => ⟨⟨(), rfl, trivial, by rw [ht]; exact hP, va_K.moved hW.alike hK, hD⟩, hS.F ht⟩) hS.2.2 dX2_round_247
set_option maxHeartbeats 4000000 in
set_option maxRecDepth 100000 in
theorem w_X2_round_188 (l : Launch) {p : Program} {e : Env} {s : State} {m : MethodId} {args : Array Value} {below : List Frame} {meth : Method} {c : Code} {A : Nat → Prop} {dC : Nat → ClassId} {dI : Nat → Nat → Nat} (a_this a_text a_d a_n a_power a_limbs : Nat) (c_d c_n c_power : ClassId) (hx : p.tables.exec = Jvm.exec) (hb : c.code = cX2_round) (hr : meth.sig.returnType = none) (hml : c.maxLocals = 7) (hown : s.vm.findClass RX2 = some m.cls) (hws : ∀ w ∈ wsL_law, w.before args s = true) (hlocks : meth.locks = false) (hA : ∀ q : Nat, s.heap.size ≤ q → A q) : ∀ (n : Nat) (l5 : Int32) (v_thrown : Int32) (v_size : Int32) (v_used : Int32) (v_at : Int32) (v_d : Nat → Int32) (v_n : Nat → Int32) (v_power : Nat → Int32) (o_d : Nat → Int32) (o_n : Nat → Int32) (o_power : Nat → Int32), f_X2_round_L188 n l5 v_d v_n v_power = some (o_d, o_n, o_power) → ∀ (H : Heap) (locs : List Loc), va_K (dC, dI) vwCl [(c_d, .int), (c_n, .int), (c_power, .int)] s → va_P (dC, dI) vwCl (wd_X2_round a_this a_text a_d a_n a_power a_limbs c_d c_n c_power v_thrown v_size v_used v_at v_d v_n v_power) H → va_D A (wd_X2_round a_this a_text a_d a_n a_power a_limbs c_d c_n c_power v_thrown v_size v_used v_at v_d v_n v_power) → va_S A s.heap H locs → ∀ (ls : Array Slot), lv_has ls 7 [(0, .ref a_this), (5, .int l5)] → W p l e (headSpec (w_X2_round) ({ frames := 1, cells := 0, slots := 0, locals := 22 } : Room)).room s m args below meth c H locs 0 0 (MQ below (va_Qv (fun (_ : Unit) => True) (fun (_ : Unit) t => va_P (dC, dI) vwCl (wd_X2_round a_this a_text a_d a_n a_power a_limbs c_d c_n c_power v_thrown v_size v_used v_at o_d o_n o_power) t.heap ∧ va_K (dC, dI) vwCl [(c_d, .int), (c_n, .int), (c_power, .int)] t ∧ va_D A (wd_X2_round a_this a_text a_d a_n a_power a_limbs c_d c_n c_power v_thrown v_size v_used v_at o_d o_n o_power)) A) args s 0 0 A) (F0 m 188 ls []) := by
  intro n
  induction n with
  | zero =>
    intro l5 v_thrown v_size v_used v_at v_d v_n v_power o_d o_n o_power h H locs hK hP hD hS ls hl
    exact absurd h (by simp [f_X2_round_L188])
  | succ n ih =>
    intro l5 v_thrown v_size v_used v_at v_d v_n v_power o_d o_n o_power h H locs hK hP hD hS ls hl
    unfold f_X2_round_L188 at h
    refine lv_iload hx hb dX2_round_188 (lv_at hl 1 rfl) ?_
    refine lv_if_lt (tgt := 227) hx hb dX2_round_190 (by decide) (fun c9 => ?_) (fun c9 => ?_)
    · have h := (if_pos c9).symm.trans h
      exact w_X2_round_227 l a_this a_text a_d a_n a_power a_limbs c_d c_n c_power hx hb hr hml hown hws hlocks hA l5 v_thrown v_size v_used v_at v_d v_n v_power o_d o_n o_power h H locs hK hP hD hS ls (lv_sub hl [0, 1] rfl)
    · have h := (if_neg c9).symm.trans h
      refine lv_aload_n hx hb dX2_round_193 rfl (lv_at hl 0 rfl) ?_
      refine va_get (D := (dC, dI)) (ci := 2) (v := .ref a_d) (C := RX2) (T := TX2) (N := 9) hx hb hws inlX2 hown hK hP 0 rfl rfl 3 (by decide) (hws _ ww_35) (fun _ h9 => h9) rfl dX2_round_194 ?_
      refine lv_sipush (v := 2800) hx hb dX2_round_197 (by decide) ?_
      refine lv_iload hx hb dX2_round_200 (lv_at hl 1 rfl) ?_
      refine lv_iadd hx hb dX2_round_202 ?_
      obtain ⟨hi, h⟩ := gd h
      refine va_iald hx hb hK hP 1 0 rfl rfl hi dX2_round_203 ?_
      refine lv_bipush (v := 9) hx hb dX2_round_204 (by decide) ?_
      refine lv_icmp_ne (tgt := 227) hx hb dX2_round_206 (by decide) (fun c9 => ?_) (fun c9 => ?_)
      · have h := (if_neg c9).symm.trans h
        exact w_X2_round_227 l a_this a_text a_d a_n a_power a_limbs c_d c_n c_power hx hb hr hml hown hws hlocks hA l5 v_thrown v_size v_used v_at v_d v_n v_power o_d o_n o_power h H locs hK hP hD hS ls (lv_sub hl [0, 1] rfl)
      · have h := (if_pos c9).symm.trans h
        refine lv_aload_n hx hb dX2_round_209 rfl (lv_at hl 0 rfl) ?_
        refine va_get (D := (dC, dI)) (ci := 2) (v := .ref a_d) (C := RX2) (T := TX2) (N := 9) hx hb hws inlX2 hown hK hP 0 rfl rfl 3 (by decide) (hws _ ww_35) (fun _ h9 => h9) rfl dX2_round_210 ?_
        refine lv_sipush (v := 2800) hx hb dX2_round_213 (by decide) ?_
        refine lv_iload hx hb dX2_round_216 (lv_at hl 1 rfl) ?_
        refine lv_iadd hx hb dX2_round_218 ?_
        refine lv_iconst (v := 0) hx hb dX2_round_219 (by decide) ?_
        obtain ⟨hi, h⟩ := gd h
        refine va_iast hx hb hK hP hD hS 1 0 rfl rfl hi dX2_round_220 (fun H locs hP hD hS => ?_)
        have hP : va_P (dC, dI) vwCl (wd_X2_round a_this a_text a_d a_n a_power a_limbs c_d c_n c_power v_thrown v_size v_used v_at (upd v_d (Int32.toNatClampNeg (2800 + l5)) 0) v_n v_power) H := hP
        have hD : va_D A (wd_X2_round a_this a_text a_d a_n a_power a_limbs c_d c_n c_power v_thrown v_size v_used v_at (upd v_d (Int32.toNatClampNeg (2800 + l5)) 0) v_n v_power) := hD
        refine lv_iinc (v := (l5 + (-1))) (lv' := [(5, .int (l5 + (-1))), (0, .ref a_this)]) hx hb dX2_round_221 hl (k := 1) rfl rfl (by decide) rfl (fun ls hl => ?_)
        refine lv_goto (tgt := 188) hx hb dX2_round_224 (by decide) ?_
        exact ih (l5 + (-1)) v_thrown v_size v_used v_at (upd v_d (Int32.toNatClampNeg (2800 + l5)) 0) v_n v_power o_d o_n o_power h H locs hK hP hD hS ls (lv_sub hl [1, 0] rfl)
set_option maxHeartbeats 4000000 in
set_option maxRecDepth 100000 in
theorem w_X2_round_176 (l : Launch) {p : Program} {e : Env} {s : State} {m : MethodId} {args : Array Value} {below : List Frame} {meth : Method} {c : Code} {A : Nat → Prop} {dC : Nat → ClassId} {dI : Nat → Nat → Nat} (a_this a_text a_d a_n a_power a_limbs : Nat) (c_d c_n c_power : ClassId) (hx : p.tables.exec = Jvm.exec) (hb : c.code = cX2_round) (hr : meth.sig.returnType = none) (hml : c.maxLocals = 7) (hown : s.vm.findClass RX2 = some m.cls) (hws : ∀ w ∈ wsL_law, w.before args s = true) (hlocks : meth.locks = false) (hA : ∀ q : Nat, s.heap.size ≤ q → A q) : ∀  (v_thrown : Int32) (v_size : Int32) (v_used : Int32) (v_at : Int32) (v_d : Nat → Int32) (v_n : Nat → Int32) (v_power : Nat → Int32) (o_d : Nat → Int32) (o_n : Nat → Int32) (o_power : Nat → Int32), f_X2_round_b176 v_d v_n v_power = some (o_d, o_n, o_power) → ∀ (H : Heap) (locs : List Loc), va_K (dC, dI) vwCl [(c_d, .int), (c_n, .int), (c_power, .int)] s → va_P (dC, dI) vwCl (wd_X2_round a_this a_text a_d a_n a_power a_limbs c_d c_n c_power v_thrown v_size v_used v_at v_d v_n v_power) H → va_D A (wd_X2_round a_this a_text a_d a_n a_power a_limbs c_d c_n c_power v_thrown v_size v_used v_at v_d v_n v_power) → va_S A s.heap H locs → ∀ (ls : Array Slot), lv_has ls 7 [(0, .ref a_this)] → W p l e (headSpec (w_X2_round) ({ frames := 1, cells := 0, slots := 0, locals := 22 } : Room)).room s m args below meth c H locs 0 0 (MQ below (va_Qv (fun (_ : Unit) => True) (fun (_ : Unit) t => va_P (dC, dI) vwCl (wd_X2_round a_this a_text a_d a_n a_power a_limbs c_d c_n c_power v_thrown v_size v_used v_at o_d o_n o_power) t.heap ∧ va_K (dC, dI) vwCl [(c_d, .int), (c_n, .int), (c_power, .int)] t ∧ va_D A (wd_X2_round a_this a_text a_d a_n a_power a_limbs c_d c_n c_power v_thrown v_size v_used v_at o_d o_n o_power)) A) args s 0 0 A) (F0 m 176 ls []) := by
  intro v_thrown v_size v_used v_at v_d v_n v_power o_d o_n o_power h H locs hK hP hD hS ls hl
  unfold f_X2_round_b176 at h
  refine lv_aload_n hx hb dX2_round_176 rfl (lv_at hl 0 rfl) ?_
  refine va_get (D := (dC, dI)) (ci := 2) (v := .ref a_n) (C := RX2) (T := TX2) (N := 9) hx hb hws inlX2 hown hK hP 0 rfl rfl 4 (by decide) (hws _ ww_36) (fun _ h9 => h9) rfl dX2_round_177 ?_
  refine lv_sipush (v := 2800) hx hb dX2_round_180 (by decide) ?_
  have hi : vp_in 2800 7000 := by unfold vp_in; decide +kernel
  refine va_iald hx hb hK hP 2 1 rfl rfl hi dX2_round_183 ?_
  refine lv_iconst (v := 1) hx hb dX2_round_184 (by decide) ?_
  refine lv_isub hx hb dX2_round_185 ?_
  refine lv_istore (lv' := [(5, .int ((v_n (Int32.toNatClampNeg 2800)) - 1)), (0, .ref a_this)]) hx hb dX2_round_186 hl (by decide) rfl (fun ls hl => ?_)
  exact w_X2_round_188 l a_this a_text a_d a_n a_power a_limbs c_d c_n c_power hx hb hr hml hown hws hlocks hA FU ((v_n (Int32.toNatClampNeg 2800)) - 1) v_thrown v_size v_used v_at v_d v_n v_power o_d o_n o_power h H locs hK hP hD hS ls (lv_sub hl [1, 0] rfl)
set_option maxHeartbeats 4000000 in
set_option maxRecDepth 100000 in
theorem w_X2_round_154 (l : Launch) {p : Program} {e : Env} {s : State} {m : MethodId} {args : Array Value} {below : List Frame} {meth : Method} {c : Code} {A : Nat → Prop} {dC : Nat → ClassId} {dI : Nat → Nat → Nat} (a_this a_text a_d a_n a_power a_limbs : Nat) (c_d c_n c_power : ClassId) (hx : p.tables.exec = Jvm.exec) (hb : c.code = cX2_round) (hr : meth.sig.returnType = none) (hml : c.maxLocals = 7) (hown : s.vm.findClass RX2 = some m.cls) (hws : ∀ w ∈ wsL_law, w.before args s = true) (hlocks : meth.locks = false) (hA : ∀ q : Nat, s.heap.size ≤ q → A q) : ∀ (l2 : Int32) (l3 : Int32) (s0 : Int32) (v_thrown : Int32) (v_size : Int32) (v_used : Int32) (v_at : Int32) (v_d : Nat → Int32) (v_n : Nat → Int32) (v_power : Nat → Int32) (o_d : Nat → Int32) (o_n : Nat → Int32) (o_power : Nat → Int32), f_X2_round_b154 l2 l3 s0 v_d v_n v_power = some (o_d, o_n, o_power) → ∀ (H : Heap) (locs : List Loc), va_K (dC, dI) vwCl [(c_d, .int), (c_n, .int), (c_power, .int)] s → va_P (dC, dI) vwCl (wd_X2_round a_this a_text a_d a_n a_power a_limbs c_d c_n c_power v_thrown v_size v_used v_at v_d v_n v_power) H → va_D A (wd_X2_round a_this a_text a_d a_n a_power a_limbs c_d c_n c_power v_thrown v_size v_used v_at v_d v_n v_power) → va_S A s.heap H locs → ∀ (ls : Array Slot), lv_has ls 7 [(0, .ref a_this), (2, .int l2), (3, .int l3)] → W p l e (headSpec (w_X2_round) ({ frames := 1, cells := 0, slots := 0, locals := 22 } : Room)).room s m args below meth c H locs 0 0 (MQ below (va_Qv (fun (_ : Unit) => True) (fun (_ : Unit) t => va_P (dC, dI) vwCl (wd_X2_round a_this a_text a_d a_n a_power a_limbs c_d c_n c_power v_thrown v_size v_used v_at o_d o_n o_power) t.heap ∧ va_K (dC, dI) vwCl [(c_d, .int), (c_n, .int), (c_power, .int)] t ∧ va_D A (wd_X2_round a_this a_text a_d a_n a_power a_limbs c_d c_n c_power v_thrown v_size v_used v_at o_d o_n o_power)) A) args s 0 0 A) (F0 m 154 ls [.int s0]) := by
  intro l2 l3 s0 v_thrown v_size v_used v_at v_d v_n v_power o_d o_n o_power h H locs hK hP hD hS ls hl
  unfold f_X2_round_b154 at h
  refine lv_istore (lv' := [(4, .int s0), (0, .ref a_this), (2, .int l2), (3, .int l3)]) hx hb dX2_round_154 hl (by decide) rfl (fun ls hl => ?_)
  refine lv_iload_n hx hb dX2_round_156 rfl (lv_at hl 2 rfl) ?_
  refine lv_iconst (v := 5) hx hb dX2_round_157 (by decide) ?_
  refine lv_icmp_lt (tgt := 175) hx hb dX2_round_158 (by decide) (fun c9 => ?_) (fun c9 => ?_)
  · have h := (if_pos c9).symm.trans h
    obtain ⟨h09, h19, h29⟩ := rt3 h
    subst o_d
    subst o_n
    subst o_power
    exact W.vret hx hb hr (fun t ht hW => ⟨⟨(), rfl, trivial, by rw [ht]; exact hP, va_K.moved hW.alike hK, hD⟩, hS.F ht⟩) hS.2.2 dX2_round_175
  · have h := (if_neg c9).symm.trans h
    refine lv_iload_n hx hb dX2_round_161 rfl (lv_at hl 2 rfl) ?_
    refine lv_iconst (v := 5) hx hb dX2_round_162 (by decide) ?_
    refine lv_icmp_ne (tgt := 176) hx hb dX2_round_163 (by decide) (fun c9 => ?_) (fun c9 => ?_)
    · have h := (if_neg c9).symm.trans h
      exact w_X2_round_176 l a_this a_text a_d a_n a_power a_limbs c_d c_n c_power hx hb hr hml hown hws hlocks hA  v_thrown v_size v_used v_at v_d v_n v_power o_d o_n o_power h H locs hK hP hD hS ls (lv_sub hl [1] rfl)
    · have h := (if_pos c9).symm.trans h
      refine lv_iload_n hx hb dX2_round_166 rfl (lv_at hl 3 rfl) ?_
      refine lv_if_ne (tgt := 176) hx hb dX2_round_167 (by decide) (fun c9 => ?_) (fun c9 => ?_)
      · have h := (if_neg c9).symm.trans h
        exact w_X2_round_176 l a_this a_text a_d a_n a_power a_limbs c_d c_n c_power hx hb hr hml hown hws hlocks hA  v_thrown v_size v_used v_at v_d v_n v_power o_d o_n o_power h H locs hK hP hD hS ls (lv_sub hl [1] rfl)
      · have h := (if_pos c9).symm.trans h
        refine lv_iload hx hb dX2_round_170 (lv_at hl 0 rfl) ?_
        refine lv_if_ne (tgt := 176) hx hb dX2_round_172 (by decide) (fun c9 => ?_) (fun c9 => ?_)
        · have h := (if_neg c9).symm.trans h
          exact w_X2_round_176 l a_this a_text a_d a_n a_power a_limbs c_d c_n c_power hx hb hr hml hown hws hlocks hA  v_thrown v_size v_used v_at v_d v_n v_power o_d o_n o_power h H locs hK hP hD hS ls (lv_sub hl [1] rfl)
        · have h := (if_pos c9).symm.trans h
          obtain ⟨h09, h19, h29⟩ := rt3 h
          subst o_d
          subst o_n
          subst o_power
          exact W.vret hx hb hr (fun t ht hW => ⟨⟨(), rfl, trivial, by rw [ht]; exact hP, va_K.moved hW.alike hK, hD⟩, hS.F ht⟩) hS.2.2 dX2_round_175
set_option maxHeartbeats 4000000 in
set_option maxRecDepth 100000 in
theorem w_X2_round_153 (l : Launch) {p : Program} {e : Env} {s : State} {m : MethodId} {args : Array Value} {below : List Frame} {meth : Method} {c : Code} {A : Nat → Prop} {dC : Nat → ClassId} {dI : Nat → Nat → Nat} (a_this a_text a_d a_n a_power a_limbs : Nat) (c_d c_n c_power : ClassId) (hx : p.tables.exec = Jvm.exec) (hb : c.code = cX2_round) (hr : meth.sig.returnType = none) (hml : c.maxLocals = 7) (hown : s.vm.findClass RX2 = some m.cls) (hws : ∀ w ∈ wsL_law, w.before args s = true) (hlocks : meth.locks = false) (hA : ∀ q : Nat, s.heap.size ≤ q → A q) : ∀ (l2 : Int32) (l3 : Int32) (v_thrown : Int32) (v_size : Int32) (v_used : Int32) (v_at : Int32) (v_d : Nat → Int32) (v_n : Nat → Int32) (v_power : Nat → Int32) (o_d : Nat → Int32) (o_n : Nat → Int32) (o_power : Nat → Int32), f_X2_round_b153 l2 l3 v_d v_n v_power = some (o_d, o_n, o_power) → ∀ (H : Heap) (locs : List Loc), va_K (dC, dI) vwCl [(c_d, .int), (c_n, .int), (c_power, .int)] s → va_P (dC, dI) vwCl (wd_X2_round a_this a_text a_d a_n a_power a_limbs c_d c_n c_power v_thrown v_size v_used v_at v_d v_n v_power) H → va_D A (wd_X2_round a_this a_text a_d a_n a_power a_limbs c_d c_n c_power v_thrown v_size v_used v_at v_d v_n v_power) → va_S A s.heap H locs → ∀ (ls : Array Slot), lv_has ls 7 [(0, .ref a_this), (2, .int l2), (3, .int l3)] → W p l e (headSpec (w_X2_round) ({ frames := 1, cells := 0, slots := 0, locals := 22 } : Room)).room s m args below meth c H locs 0 0 (MQ below (va_Qv (fun (_ : Unit) => True) (fun (_ : Unit) t => va_P (dC, dI) vwCl (wd_X2_round a_this a_text a_d a_n a_power a_limbs c_d c_n c_power v_thrown v_size v_used v_at o_d o_n o_power) t.heap ∧ va_K (dC, dI) vwCl [(c_d, .int), (c_n, .int), (c_power, .int)] t ∧ va_D A (wd_X2_round a_this a_text a_d a_n a_power a_limbs c_d c_n c_power v_thrown v_size v_used v_at o_d o_n o_power)) A) args s 0 0 A) (F0 m 153 ls []) := by
  intro l2 l3 v_thrown v_size v_used v_at v_d v_n v_power o_d o_n o_power h H locs hK hP hD hS ls hl
  unfold f_X2_round_b153 at h
  refine lv_iconst (v := 0) hx hb dX2_round_153 (by decide) ?_
  exact w_X2_round_154 l a_this a_text a_d a_n a_power a_limbs c_d c_n c_power hx hb hr hml hown hws hlocks hA l2 l3 0 v_thrown v_size v_used v_at v_d v_n v_power o_d o_n o_power h H locs hK hP hD hS ls (lv_sub hl [0, 1, 2] rfl)
set_option maxHeartbeats 4000000 in
set_option maxRecDepth 100000 in
theorem w_X2_round_92 (l : Launch) {p : Program} {e : Env} {s : State} {m : MethodId} {args : Array Value} {below : List Frame} {meth : Method} {c : Code} {A : Nat → Prop} {dC : Nat → ClassId} {dI : Nat → Nat → Nat} (a_this a_text a_d a_n a_power a_limbs : Nat) (c_d c_n c_power : ClassId) (hx : p.tables.exec = Jvm.exec) (hb : c.code = cX2_round) (hr : meth.sig.returnType = none) (hml : c.maxLocals = 7) (hown : s.vm.findClass RX2 = some m.cls) (hws : ∀ w ∈ wsL_law, w.before args s = true) (hlocks : meth.locks = false) (hA : ∀ q : Nat, s.heap.size ≤ q → A q) : ∀ (n : Nat) (l1 : Int32) (l2 : Int32) (l3 : Int32) (l4 : Int32) (v_thrown : Int32) (v_size : Int32) (v_used : Int32) (v_at : Int32) (v_d : Nat → Int32) (v_n : Nat → Int32) (v_power : Nat → Int32) (o_d : Nat → Int32) (o_n : Nat → Int32) (o_power : Nat → Int32), f_X2_round_L92 n l1 l2 l3 l4 v_d v_n v_power = some (o_d, o_n, o_power) → ∀ (H : Heap) (locs : List Loc), va_K (dC, dI) vwCl [(c_d, .int), (c_n, .int), (c_power, .int)] s → va_P (dC, dI) vwCl (wd_X2_round a_this a_text a_d a_n a_power a_limbs c_d c_n c_power v_thrown v_size v_used v_at v_d v_n v_power) H → va_D A (wd_X2_round a_this a_text a_d a_n a_power a_limbs c_d c_n c_power v_thrown v_size v_used v_at v_d v_n v_power) → va_S A s.heap H locs → ∀ (ls : Array Slot), lv_has ls 7 [(0, .ref a_this), (1, .int l1), (2, .int l2), (3, .int l3), (4, .int l4)] → W p l e (headSpec (w_X2_round) ({ frames := 1, cells := 0, slots := 0, locals := 22 } : Room)).room s m args below meth c H locs 0 0 (MQ below (va_Qv (fun (_ : Unit) => True) (fun (_ : Unit) t => va_P (dC, dI) vwCl (wd_X2_round a_this a_text a_d a_n a_power a_limbs c_d c_n c_power v_thrown v_size v_used v_at o_d o_n o_power) t.heap ∧ va_K (dC, dI) vwCl [(c_d, .int), (c_n, .int), (c_power, .int)] t ∧ va_D A (wd_X2_round a_this a_text a_d a_n a_power a_limbs c_d c_n c_power v_thrown v_size v_used v_at o_d o_n o_power)) A) args s 0 0 A) (F0 m 92 ls []) := by
  intro n
  induction n with
  | zero =>
    intro l1 l2 l3 l4 v_thrown v_size v_used v_at v_d v_n v_power o_d o_n o_power h H locs hK hP hD hS ls hl
    exact absurd h (by simp [f_X2_round_L92])
  | succ n ih =>
    intro l1 l2 l3 l4 v_thrown v_size v_used v_at v_d v_n v_power o_d o_n o_power h H locs hK hP hD hS ls hl
    unfold f_X2_round_L92 at h
    refine lv_iload hx hb dX2_round_92 (lv_at hl 4 rfl) ?_
    refine lv_aload_n hx hb dX2_round_94 rfl (lv_at hl 0 rfl) ?_
    refine va_get (D := (dC, dI)) (ci := 2) (v := .ref a_n) (C := RX2) (T := TX2) (N := 9) hx hb hws inlX2 hown hK hP 0 rfl rfl 4 (by decide) (hws _ ww_36) (fun _ h9 => h9) rfl dX2_round_95 ?_
    refine lv_sipush (v := 1400) hx hb dX2_round_98 (by decide) ?_
    have hi : vp_in 1400 7000 := by unfold vp_in; decide +kernel
    refine va_iald hx hb hK hP 2 1 rfl rfl hi dX2_round_101 ?_
    refine lv_icmp_ge (tgt := 127) hx hb dX2_round_102 (by decide) (fun c9 => ?_) (fun c9 => ?_)
    · have h := (if_pos c9).symm.trans h
      refine lv_iload_n hx hb dX2_round_127 rfl (lv_at hl 1 rfl) ?_
      refine lv_if_le (tgt := 153) hx hb dX2_round_128 (by decide) (fun c9 => ?_) (fun c9 => ?_)
      · have h := (if_pos c9).symm.trans h
        exact w_X2_round_153 l a_this a_text a_d a_n a_power a_limbs c_d c_n c_power hx hb hr hml hown hws hlocks hA l2 l3 v_thrown v_size v_used v_at v_d v_n v_power o_d o_n o_power h H locs hK hP hD hS ls (lv_sub hl [0, 2, 3] rfl)
      · have h := (if_neg c9).symm.trans h
        refine lv_aload_n hx hb dX2_round_131 rfl (lv_at hl 0 rfl) ?_
        refine va_get (D := (dC, dI)) (ci := 2) (v := .ref a_d) (C := RX2) (T := TX2) (N := 9) hx hb hws inlX2 hown hK hP 0 rfl rfl 3 (by decide) (hws _ ww_35) (fun _ h9 => h9) rfl dX2_round_132 ?_
        refine lv_sipush (v := 2800) hx hb dX2_round_135 (by decide) ?_
        refine lv_iload_n hx hb dX2_round_138 rfl (lv_at hl 1 rfl) ?_
        refine lv_iadd hx hb dX2_round_139 ?_
        refine lv_iconst (v := 1) hx hb dX2_round_140 (by decide) ?_
        refine lv_isub hx hb dX2_round_141 ?_
        obtain ⟨hi, h⟩ := gd h
        refine va_iald hx hb hK hP 1 0 rfl rfl hi dX2_round_142 ?_
        refine lv_iconst (v := 2) hx hb dX2_round_143 (by decide) ?_
        refine lv_irem hx hb dX2_round_144 (by decide) ?_
        refine lv_iconst (v := 1) hx hb dX2_round_145 (by decide) ?_
        refine lv_icmp_ne (tgt := 153) hx hb dX2_round_146 (by decide) (fun c9 => ?_) (fun c9 => ?_)
        · have h := (if_neg c9).symm.trans h
          exact w_X2_round_153 l a_this a_text a_d a_n a_power a_limbs c_d c_n c_power hx hb hr hml hown hws hlocks hA l2 l3 v_thrown v_size v_used v_at v_d v_n v_power o_d o_n o_power h H locs hK hP hD hS ls (lv_sub hl [0, 2, 3] rfl)
        · have h := (if_pos c9).symm.trans h
          refine lv_iconst (v := 1) hx hb dX2_round_149 (by decide) ?_
          refine lv_goto (tgt := 154) hx hb dX2_round_150 (by decide) ?_
          exact w_X2_round_154 l a_this a_text a_d a_n a_power a_limbs c_d c_n c_power hx hb hr hml hown hws hlocks hA l2 l3 1 v_thrown v_size v_used v_at v_d v_n v_power o_d o_n o_power h H locs hK hP hD hS ls (lv_sub hl [0, 2, 3] rfl)
    · have h := (if_neg c9).symm.trans h
      refine lv_aload_n hx hb dX2_round_105 rfl (lv_at hl 0 rfl) ?_
      refine va_get (D := (dC, dI)) (ci := 2) (v := .ref a_d) (C := RX2) (T := TX2) (N := 9) hx hb hws inlX2 hown hK hP 0 rfl rfl 3 (by decide) (hws _ ww_35) (fun _ h9 => h9) rfl dX2_round_106 ?_
      refine lv_sipush (v := 1400) hx hb dX2_round_109 (by decide) ?_
      refine lv_iload hx hb dX2_round_112 (lv_at hl 4 rfl) ?_
      refine lv_iadd hx hb dX2_round_114 ?_
      obtain ⟨hi, h⟩ := gd h
      refine va_iald hx hb hK hP 1 0 rfl rfl hi dX2_round_115 ?_
      refine lv_if_eq (tgt := 121) hx hb dX2_round_116 (by decide) (fun c9 => ?_) (fun c9 => ?_)
      · have h := (if_pos c9).symm.trans h
        refine lv_iinc (v := (l4 + 1)) (lv' := [(4, .int (l4 + 1)), (0, .ref a_this), (1, .int l1), (2, .int l2), (3, .int l3)]) hx hb dX2_round_121 hl (k := 4) rfl rfl (by decide) rfl (fun ls hl => ?_)
        refine lv_goto (tgt := 92) hx hb dX2_round_124 (by decide) ?_
        exact ih l1 l2 l3 (l4 + 1) v_thrown v_size v_used v_at v_d v_n v_power o_d o_n o_power h H locs hK hP hD hS ls (lv_sub hl [1, 2, 3, 4, 0] rfl)
      · have h := (if_neg c9).symm.trans h
        refine lv_iconst (v := 1) hx hb dX2_round_119 (by decide) ?_
        refine lv_istore_n (lv' := [(3, .int 1), (0, .ref a_this), (1, .int l1), (2, .int l2), (4, .int l4)]) hx hb dX2_round_120 rfl hl (by decide) rfl (fun ls hl => ?_)
        refine lv_iinc (v := (l4 + 1)) (lv' := [(4, .int (l4 + 1)), (3, .int 1), (0, .ref a_this), (1, .int l1), (2, .int l2)]) hx hb dX2_round_121 hl (k := 4) rfl rfl (by decide) rfl (fun ls hl => ?_)
        refine lv_goto (tgt := 92) hx hb dX2_round_124 (by decide) ?_
        exact ih l1 l2 1 (l4 + 1) v_thrown v_size v_used v_at v_d v_n v_power o_d o_n o_power h H locs hK hP hD hS ls (lv_sub hl [2, 3, 4, 1, 0] rfl)
set_option maxHeartbeats 4000000 in
set_option maxRecDepth 100000 in
theorem w_X2_round_35 (l : Launch) {p : Program} {e : Env} {s : State} {m : MethodId} {args : Array Value} {below : List Frame} {meth : Method} {c : Code} {A : Nat → Prop} {dC : Nat → ClassId} {dI : Nat → Nat → Nat} (a_this a_text a_d a_n a_power a_limbs : Nat) (c_d c_n c_power : ClassId) (hx : p.tables.exec = Jvm.exec) (hb : c.code = cX2_round) (hr : meth.sig.returnType = none) (hml : c.maxLocals = 7) (hown : s.vm.findClass RX2 = some m.cls) (hws : ∀ w ∈ wsL_law, w.before args s = true) (hlocks : meth.locks = false) (hA : ∀ q : Nat, s.heap.size ≤ q → A q) : ∀ (n : Nat) (l1 : Int32) (l2 : Int32) (v_thrown : Int32) (v_size : Int32) (v_used : Int32) (v_at : Int32) (v_d : Nat → Int32) (v_n : Nat → Int32) (v_power : Nat → Int32) (o_d : Nat → Int32) (o_n : Nat → Int32) (o_power : Nat → Int32), f_X2_round_L35 n l1 l2 v_d v_n v_power = some (o_d, o_n, o_power) → ∀ (H : Heap) (locs : List Loc), va_K (dC, dI) vwCl [(c_d, .int), (c_n, .int), (c_power, .int)] s → va_P (dC, dI) vwCl (wd_X2_round a_this a_text a_d a_n a_power a_limbs c_d c_n c_power v_thrown v_size v_used v_at v_d v_n v_power) H → va_D A (wd_X2_round a_this a_text a_d a_n a_power a_limbs c_d c_n c_power v_thrown v_size v_used v_at v_d v_n v_power) → va_S A s.heap H locs → ∀ (ls : Array Slot), lv_has ls 7 [(0, .ref a_this), (1, .int l1), (2, .int l2)] → W p l e (headSpec (w_X2_round) ({ frames := 1, cells := 0, slots := 0, locals := 22 } : Room)).room s m args below meth c H locs 0 0 (MQ below (va_Qv (fun (_ : Unit) => True) (fun (_ : Unit) t => va_P (dC, dI) vwCl (wd_X2_round a_this a_text a_d a_n a_power a_limbs c_d c_n c_power v_thrown v_size v_used v_at o_d o_n o_power) t.heap ∧ va_K (dC, dI) vwCl [(c_d, .int), (c_n, .int), (c_power, .int)] t ∧ va_D A (wd_X2_round a_this a_text a_d a_n a_power a_limbs c_d c_n c_power v_thrown v_size v_used v_at o_d o_n o_power)) A) args s 0 0 A) (F0 m 35 ls []) := by
  intro n
  induction n with
  | zero =>
    intro l1 l2 v_thrown v_size v_used v_at v_d v_n v_power o_d o_n o_power h H locs hK hP hD hS ls hl
    exact absurd h (by simp [f_X2_round_L35])
  | succ n ih =>
    intro l1 l2 v_thrown v_size v_used v_at v_d v_n v_power o_d o_n o_power h H locs hK hP hD hS ls hl
    unfold f_X2_round_L35 at h
    refine lv_iload_n hx hb dX2_round_35 rfl (lv_at hl 2 rfl) ?_
    refine lv_aload_n hx hb dX2_round_36 rfl (lv_at hl 0 rfl) ?_
    refine va_get (D := (dC, dI)) (ci := 2) (v := .ref a_n) (C := RX2) (T := TX2) (N := 9) hx hb hws inlX2 hown hK hP 0 rfl rfl 4 (by decide) (hws _ ww_36) (fun _ h9 => h9) rfl dX2_round_37 ?_
    refine lv_sipush (v := 2800) hx hb dX2_round_40 (by decide) ?_
    have hi : vp_in 2800 7000 := by unfold vp_in; decide +kernel
    refine va_iald hx hb hK hP 2 1 rfl rfl hi dX2_round_43 ?_
    refine lv_icmp_ge (tgt := 71) hx hb dX2_round_44 (by decide) (fun c9 => ?_) (fun c9 => ?_)
    · have h := (if_pos c9).symm.trans h
      refine lv_iload_n hx hb dX2_round_71 rfl (lv_at hl 1 rfl) ?_
      refine lv_if_ge (tgt := 76) hx hb dX2_round_72 (by decide) (fun c9 => ?_) (fun c9 => ?_)
      · have h := (if_pos c9).symm.trans h
        refine lv_aload_n hx hb dX2_round_76 rfl (lv_at hl 0 rfl) ?_
        refine lv_sipush (v := 1400) hx hb dX2_round_77 (by decide) ?_
        refine lv_iload_n hx hb dX2_round_80 rfl (lv_at hl 1 rfl) ?_
        obtain ⟨r81, hc, h⟩ := bd h
        have hPc := hP.sub (ws' := (wd_X2_digit a_this a_text a_d a_n a_power a_limbs c_d c_n v_thrown v_size v_used v_at v_d v_n)) [0, 1, 2] rfl
        have hDc := hD.sub (ws' := (wd_X2_digit a_this a_text a_d a_n a_power a_limbs c_d c_n v_thrown v_size v_used v_at v_d v_n)) [0, 1, 2] (by decide) rfl
        have hKc := hK.sub (tys' := [(c_d, .int), (c_n, .int)]) [0, 1] rfl
        have hFc := va_free (wc := (wd_X2_digit a_this a_text a_d a_n a_power a_limbs c_d c_n v_thrown v_size v_used v_at v_d v_n)) hD hS hA [0, 1, 2] rfl
        refine va_calli (va_runV (As := [.int 1400, .int l1]) (rest := []) ⟨hx, hb, hml, hown, hws⟩ (c_X2_digit l dC dI  a_this a_text a_d a_n a_power a_limbs c_d c_n (Array.size H) 1400 l1 v_thrown v_size v_used v_at v_d v_n r81 hc) (cwV 2 hws (gV ww_281 ww_282 ww_283 ww_5 ww_284) rfl rfl rfl (by decide +kernel) ⟨Nat.le_of_ble_eq_true rfl, Nat.le_of_ble_eq_true rfl⟩) ⟨(fun a U g mk q => by obtain ⟨q0, q1, qP, qK, qD⟩ := q; exact ⟨q0, q1, qP, va_K.moved (u := U) (U := U.calling g mk a) (Vm.Alike.refl U.vm) qK, qD⟩), va_recv hKc hPc (ci := 2) (q0 := 0) rfl rfl, (fun U hU hW => ⟨rfl, by rw [hU], by rw [hU]; exact hPc, va_K.moved hW.alike hKc, hDc.weaken (fun _ _ _ _ => trivial)⟩)⟩ rfl rfl hl.1 rfl (lv_room (Nat.le_of_ble_eq_true rfl)) dX2_round_81 ⟨Nat.zero_le _, Nat.zero_le _⟩) hS (fun q _ h => hFc q h) hFc (fun r9 u9 t H1 locs ht hvm hw hB hz1 hk1 hS => ?_)
        obtain ⟨hP1, hK1, hD1⟩ := hB
        rw [ht] at hP1
        subst r9
        obtain ⟨hP, hD⟩ := va_join (wr := [(a_power, .inl (c_power, 7000, .inl v_power))]) (w1 := (wd_X2_digit a_this a_text a_d a_n a_power a_limbs c_d c_n v_thrown v_size v_used v_at v_d v_n)) hP hD [0, 1, 2] [3] rfl rfl (by decide) (by decide) hk1 hFc hP1 hD1
        generalize H1 = H at hP hS ⊢
        have hP : va_P (dC, dI) vwCl (wd_X2_round a_this a_text a_d a_n a_power a_limbs c_d c_n c_power v_thrown v_size v_used v_at v_d v_n v_power) H := hP.sub [1, 2, 3, 0] rfl
        have hD : va_D A (wd_X2_round a_this a_text a_d a_n a_power a_limbs c_d c_n c_power v_thrown v_size v_used v_at v_d v_n v_power) := hD.sub [1, 2, 3, 0] (by decide) rfl
        clear hP1 hK1 hD1 hPc hDc hKc hFc hk1 hz1 ht hvm
        refine lv_istore_n (lv' := [(2, .int r81), (0, .ref a_this), (1, .int l1)]) hx hb dX2_round_84 rfl hl (by decide) rfl (fun ls hl => ?_)
        refine lv_iconst (v := 0) hx hb dX2_round_85 (by decide) ?_
        refine lv_istore_n (lv' := [(3, .int 0), (2, .int r81), (0, .ref a_this), (1, .int l1)]) hx hb dX2_round_86 rfl hl (by decide) rfl (fun ls hl => ?_)
        refine lv_iload_n hx hb dX2_round_87 rfl (lv_at hl 3 rfl) ?_
        refine lv_iconst (v := 1) hx hb dX2_round_88 (by decide) ?_
        refine lv_iadd hx hb dX2_round_89 ?_
        refine lv_istore (lv' := [(4, .int (l1 + 1)), (3, .int 0), (2, .int r81), (0, .ref a_this), (1, .int l1)]) hx hb dX2_round_90 hl (by decide) rfl (fun ls hl => ?_)
        exact w_X2_round_92 l a_this a_text a_d a_n a_power a_limbs c_d c_n c_power hx hb hr hml hown hws hlocks hA FU l1 r81 0 (l1 + 1) v_thrown v_size v_used v_at v_d v_n v_power o_d o_n o_power h H locs hK hP hD hS ls (lv_sub hl [3, 4, 2, 1, 0] rfl)
      · have h := (if_neg c9).symm.trans h
        obtain ⟨h09, h19, h29⟩ := rt3 h
        subst o_d
        subst o_n
        subst o_power
        exact W.vret hx hb hr (fun t ht hW => ⟨⟨(), rfl, trivial, by rw [ht]; exact hP, va_K.moved hW.alike hK, hD⟩, hS.F ht⟩) hS.2.2 dX2_round_75
    · have h := (if_neg c9).symm.trans h
      refine lv_aload_n hx hb dX2_round_47 rfl (lv_at hl 0 rfl) ?_
      refine va_get (D := (dC, dI)) (ci := 2) (v := .ref a_d) (C := RX2) (T := TX2) (N := 9) hx hb hws inlX2 hown hK hP 0 rfl rfl 3 (by decide) (hws _ ww_35) (fun _ h9 => h9) rfl dX2_round_48 ?_
      refine lv_sipush (v := 2800) hx hb dX2_round_51 (by decide) ?_
      refine lv_iload_n hx hb dX2_round_54 rfl (lv_at hl 2 rfl) ?_
      refine lv_iadd hx hb dX2_round_55 ?_
      refine lv_aload_n hx hb dX2_round_56 rfl (lv_at hl 0 rfl) ?_
      refine lv_sipush (v := 1400) hx hb dX2_round_57 (by decide) ?_
      refine lv_iload_n hx hb dX2_round_60 rfl (lv_at hl 2 rfl) ?_
      obtain ⟨r61, hc, h⟩ := bd h
      have hPc := hP.sub (ws' := (wd_X2_digit a_this a_text a_d a_n a_power a_limbs c_d c_n v_thrown v_size v_used v_at v_d v_n)) [0, 1, 2] rfl
      have hDc := hD.sub (ws' := (wd_X2_digit a_this a_text a_d a_n a_power a_limbs c_d c_n v_thrown v_size v_used v_at v_d v_n)) [0, 1, 2] (by decide) rfl
      have hKc := hK.sub (tys' := [(c_d, .int), (c_n, .int)]) [0, 1] rfl
      have hFc := va_free (wc := (wd_X2_digit a_this a_text a_d a_n a_power a_limbs c_d c_n v_thrown v_size v_used v_at v_d v_n)) hD hS hA [0, 1, 2] rfl
      refine va_calli (va_runV (As := [.int 1400, .int l2]) (rest := [.int (2800 + l2), .ref a_d]) ⟨hx, hb, hml, hown, hws⟩ (c_X2_digit l dC dI  a_this a_text a_d a_n a_power a_limbs c_d c_n (Array.size H) 1400 l2 v_thrown v_size v_used v_at v_d v_n r61 hc) (cwV 2 hws (gV ww_281 ww_282 ww_283 ww_5 ww_284) rfl rfl rfl (by decide +kernel) ⟨Nat.le_of_ble_eq_true rfl, Nat.le_of_ble_eq_true rfl⟩) ⟨(fun a U g mk q => by obtain ⟨q0, q1, qP, qK, qD⟩ := q; exact ⟨q0, q1, qP, va_K.moved (u := U) (U := U.calling g mk a) (Vm.Alike.refl U.vm) qK, qD⟩), va_recv hKc hPc (ci := 2) (q0 := 0) rfl rfl, (fun U hU hW => ⟨rfl, by rw [hU], by rw [hU]; exact hPc, va_K.moved hW.alike hKc, hDc.weaken (fun _ _ _ _ => trivial)⟩)⟩ rfl rfl hl.1 rfl (lv_room (Nat.le_of_ble_eq_true rfl)) dX2_round_61 ⟨Nat.zero_le _, Nat.zero_le _⟩) hS (fun q _ h => hFc q h) hFc (fun r9 u9 t H1 locs ht hvm hw hB hz1 hk1 hS => ?_)
      obtain ⟨hP1, hK1, hD1⟩ := hB
      rw [ht] at hP1
      subst r9
      obtain ⟨hP, hD⟩ := va_join (wr := [(a_power, .inl (c_power, 7000, .inl v_power))]) (w1 := (wd_X2_digit a_this a_text a_d a_n a_power a_limbs c_d c_n v_thrown v_size v_used v_at v_d v_n)) hP hD [0, 1, 2] [3] rfl rfl (by decide) (by decide) hk1 hFc hP1 hD1
      generalize H1 = H at hP hS ⊢
      have hP : va_P (dC, dI) vwCl (wd_X2_round a_this a_text a_d a_n a_power a_limbs c_d c_n c_power v_thrown v_size v_used v_at v_d v_n v_power) H := hP.sub [1, 2, 3, 0] rfl
      have hD : va_D A (wd_X2_round a_this a_text a_d a_n a_power a_limbs c_d c_n c_power v_thrown v_size v_used v_at v_d v_n v_power) := hD.sub [1, 2, 3, 0] (by decide) rfl
      clear hP1 hK1 hD1 hPc hDc hKc hFc hk1 hz1 ht hvm
      obtain ⟨hi, h⟩ := gd h
      refine va_iast hx hb hK hP hD hS 1 0 rfl rfl hi dX2_round_64 (fun H locs hP hD hS => ?_)
      have hP : va_P (dC, dI) vwCl (wd_X2_round a_this a_text a_d a_n a_power a_limbs c_d c_n c_power v_thrown v_size v_used v_at (upd v_d (Int32.toNatClampNeg (2800 + l2)) r61) v_n v_power) H := hP
      have hD : va_D A (wd_X2_round a_this a_text a_d a_n a_power a_limbs c_d c_n c_power v_thrown v_size v_used v_at (upd v_d (Int32.toNatClampNeg (2800 + l2)) r61) v_n v_power) := hD
      refine lv_iinc (v := (l2 + 1)) (lv' := [(2, .int (l2 + 1)), (0, .ref a_this), (1, .int l1)]) hx hb dX2_round_65 hl (k := 2) rfl rfl (by decide) rfl (fun ls hl => ?_)
      refine lv_goto (tgt := 35) hx hb dX2_round_68 (by decide) ?_
      exact ih l1 (l2 + 1) v_thrown v_size v_used v_at (upd v_d (Int32.toNatClampNeg (2800 + l2)) r61) v_n v_power o_d o_n o_power h H locs hK hP hD hS ls (lv_sub hl [1, 2, 0] rfl)
set_option maxHeartbeats 4000000 in
set_option maxRecDepth 100000 in
theorem c_X2_round (l : Launch) (dC : Nat → ClassId) (dI : Nat → Nat → Nat)  (a_this a_text a_d a_n a_power a_limbs : Nat) (c_d c_n c_power : ClassId) (sz : Nat) (l1 : Int32) (v_thrown : Int32) (v_size : Int32) (v_used : Int32) (v_at : Int32) (v_d : Nat → Int32) (v_n : Nat → Int32) (v_power : Nat → Int32) (o_d : Nat → Int32) (o_n : Nat → Int32) (o_power : Nat → Int32) (h : f_X2_round l1 v_d v_n v_power = some (o_d, o_n, o_power)) : Met l yX2_round w_X2_round ({ frames := 1, cells := 0, slots := 0, locals := 22 } : Room) (va_Pc [.ref a_this, .int l1] (fun U => U.heap.size = sz ∧ va_P (dC, dI) vwCl (wd_X2_round a_this a_text a_d a_n a_power a_limbs c_d c_n c_power v_thrown v_size v_used v_at v_d v_n v_power) U.heap ∧ va_K (dC, dI) vwCl [(c_d, .int), (c_n, .int), (c_power, .int)] U ∧ va_D (fun _ => True) (wd_X2_round a_this a_text a_d a_n a_power a_limbs c_d c_n c_power v_thrown v_size v_used v_at v_d v_n v_power))) (va_Qv (fun (_ : Unit) => True) (fun (_ : Unit) t => va_P (dC, dI) vwCl (wd_X2_round a_this a_text a_d a_n a_power a_limbs c_d c_n c_power v_thrown v_size v_used v_at o_d o_n o_power) t.heap ∧ va_K (dC, dI) vwCl [(c_d, .int), (c_n, .int), (c_power, .int)] t ∧ va_D (va_A (wd_X2_round a_this a_text a_d a_n a_power a_limbs c_d c_n c_power v_thrown v_size v_used v_at v_d v_n v_power) sz) (wd_X2_round a_this a_text a_d a_n a_power a_limbs c_d c_n c_power v_thrown v_size v_used v_at o_d o_n o_power)) (va_A (wd_X2_round a_this a_text a_d a_n a_power a_limbs c_d c_n c_power v_thrown v_size v_used v_at v_d v_n v_power) sz)) 0 0 (va_A (wd_X2_round a_this a_text a_d a_n a_power a_limbs c_d c_n c_power v_thrown v_size v_used v_at v_d v_n v_power) sz) := by
  refine Met.ofW (cc := cX2_round) (maxL := 7) (ret := none) (by decide) rfl ?_
  intro p e s m args below meth c s₁ B hml hv
  obtain ⟨rfl, hsz, hP, hK, hD0⟩ := hv
  have hx := B.exec
  have hb := B.bytes
  have hr := B.returns
  have hws : ∀ w ∈ wsL_law, w.before _ s = true := fun w hw => atoms_spec (ws := w_X2_round) B.pre w (List.mem_cons_of_mem _ hw)
  have hown : s.vm.findClass RX2 = some m.cls := findClass_of_methodNamed B.named
  have hlocks := B.notSynchronized
  subst hsz
  have hD := hD0.self (sz := s.heap.size)
  generalize hAe : va_A (wd_X2_round a_this a_text a_d a_n a_power a_limbs c_d c_n c_power v_thrown v_size v_used v_at v_d v_n v_power) s.heap.size = A at hD ⊢
  have hA : ∀ q : Nat, s.heap.size ≤ q → A q := fun q h => by rw [← hAe]; exact Or.inr h
  have hS : va_S A s.heap s.heap [] := va_S.rf
  have hl := lv_entry ([.ref a_this, .int l1]) (n := 7) (Nat.le_of_ble_eq_true rfl)
  rw [lg_entry_eq]
  generalize (lg_sl ([.ref a_this, .int l1]) ++ List.replicate (7 - (lg_sl ([.ref a_this, .int l1])).length) Slot.unset).toArray = ls at hl ⊢
  have hl : lv_has ls 7 [(0, .ref a_this), (1, .int l1)] := hl
  unfold f_X2_round at h
  refine lv_aload_n hx hb dX2_round_0 rfl (lv_at hl 0 rfl) ?_
  refine va_get (D := (dC, dI)) (ci := 2) (v := .ref a_power) (C := RX2) (T := TX2) (N := 9) hx hb hws inlX2 hown hK hP 0 rfl rfl 5 (by decide) (hws _ ww_37) (fun _ h9 => h9) rfl dX2_round_1 ?_
  refine lv_sipush (v := 2800) hx hb dX2_round_4 (by decide) ?_
  refine lv_aload_n hx hb dX2_round_7 rfl (lv_at hl 0 rfl) ?_
  refine va_get (D := (dC, dI)) (ci := 2) (v := .ref a_power) (C := RX2) (T := TX2) (N := 9) hx hb hws inlX2 hown hK hP 0 rfl rfl 5 (by decide) (hws _ ww_37) (fun _ h9 => h9) rfl dX2_round_8 ?_
  refine lv_sipush (v := 1400) hx hb dX2_round_11 (by decide) ?_
  have hi : vp_in 1400 7000 := by unfold vp_in; decide +kernel
  refine va_iald hx hb hK hP 3 2 rfl rfl hi dX2_round_14 ?_
  have hi : vp_in 2800 7000 := by unfold vp_in; decide +kernel
  refine va_iast hx hb hK hP hD hS 3 2 rfl rfl hi dX2_round_15 (fun H locs hP hD hS => ?_)
  have hP : va_P (dC, dI) vwCl (wd_X2_round a_this a_text a_d a_n a_power a_limbs c_d c_n c_power v_thrown v_size v_used v_at v_d v_n (upd v_power (Int32.toNatClampNeg 2800) (v_power (Int32.toNatClampNeg 1400)))) H := hP
  have hD : va_D A (wd_X2_round a_this a_text a_d a_n a_power a_limbs c_d c_n c_power v_thrown v_size v_used v_at v_d v_n (upd v_power (Int32.toNatClampNeg 2800) (v_power (Int32.toNatClampNeg 1400)))) := hD
  refine lv_aload_n hx hb dX2_round_16 rfl (lv_at hl 0 rfl) ?_
  refine va_get (D := (dC, dI)) (ci := 2) (v := .ref a_n) (C := RX2) (T := TX2) (N := 9) hx hb hws inlX2 hown hK hP 0 rfl rfl 4 (by decide) (hws _ ww_36) (fun _ h9 => h9) rfl dX2_round_17 ?_
  refine lv_sipush (v := 2800) hx hb dX2_round_20 (by decide) ?_
  refine lv_iload_n hx hb dX2_round_23 rfl (lv_at hl 1 rfl) ?_
  refine lv_if_ge (tgt := 31) hx hb dX2_round_24 (by decide) (fun c9 => ?_) (fun c9 => ?_)
  · have h := (if_pos c9).symm.trans h
    refine lv_iload_n hx hb dX2_round_31 rfl (lv_at hl 1 rfl) ?_
    have hi : vp_in 2800 7000 := by unfold vp_in; decide +kernel
    refine va_iast hx hb hK hP hD hS 2 1 rfl rfl hi dX2_round_32 (fun H locs hP hD hS => ?_)
    have hP : va_P (dC, dI) vwCl (wd_X2_round a_this a_text a_d a_n a_power a_limbs c_d c_n c_power v_thrown v_size v_used v_at v_d (upd v_n (Int32.toNatClampNeg 2800) l1) (upd v_power (Int32.toNatClampNeg 2800) (v_power (Int32.toNatClampNeg 1400)))) H := hP
    have hD : va_D A (wd_X2_round a_this a_text a_d a_n a_power a_limbs c_d c_n c_power v_thrown v_size v_used v_at v_d (upd v_n (Int32.toNatClampNeg 2800) l1) (upd v_power (Int32.toNatClampNeg 2800) (v_power (Int32.toNatClampNeg 1400)))) := hD
    refine lv_iconst (v := 0) hx hb dX2_round_33 (by decide) ?_
    refine lv_istore_n (lv' := [(2, .int 0), (0, .ref a_this), (1, .int l1)]) hx hb dX2_round_34 rfl hl (by decide) rfl (fun ls hl => ?_)
    exact w_X2_round_35 l a_this a_text a_d a_n a_power a_limbs c_d c_n c_power hx hb hr hml hown hws hlocks hA FU l1 0 v_thrown v_size v_used v_at v_d (upd v_n (Int32.toNatClampNeg 2800) l1) (upd v_power (Int32.toNatClampNeg 2800) (v_power (Int32.toNatClampNeg 1400))) o_d o_n o_power h H locs hK hP hD hS ls (lv_sub hl [1, 2, 0] rfl)
  · have h := (if_neg c9).symm.trans h
    refine lv_iconst (v := 0) hx hb dX2_round_27 (by decide) ?_
    refine lv_goto (tgt := 32) hx hb dX2_round_28 (by decide) ?_
    have hi : vp_in 2800 7000 := by unfold vp_in; decide +kernel
    refine va_iast hx hb hK hP hD hS 2 1 rfl rfl hi dX2_round_32 (fun H locs hP hD hS => ?_)
    have hP : va_P (dC, dI) vwCl (wd_X2_round a_this a_text a_d a_n a_power a_limbs c_d c_n c_power v_thrown v_size v_used v_at v_d (upd v_n (Int32.toNatClampNeg 2800) 0) (upd v_power (Int32.toNatClampNeg 2800) (v_power (Int32.toNatClampNeg 1400)))) H := hP
    have hD : va_D A (wd_X2_round a_this a_text a_d a_n a_power a_limbs c_d c_n c_power v_thrown v_size v_used v_at v_d (upd v_n (Int32.toNatClampNeg 2800) 0) (upd v_power (Int32.toNatClampNeg 2800) (v_power (Int32.toNatClampNeg 1400)))) := hD
    refine lv_iconst (v := 0) hx hb dX2_round_33 (by decide) ?_
    refine lv_istore_n (lv' := [(2, .int 0), (0, .ref a_this), (1, .int l1)]) hx hb dX2_round_34 rfl hl (by decide) rfl (fun ls hl => ?_)
    exact w_X2_round_35 l a_this a_text a_d a_n a_power a_limbs c_d c_n c_power hx hb hr hml hown hws hlocks hA FU l1 0 v_thrown v_size v_used v_at v_d (upd v_n (Int32.toNatClampNeg 2800) 0) (upd v_power (Int32.toNatClampNeg 2800) (v_power (Int32.toNatClampNeg 1400))) o_d o_n o_power h H locs hK hP hD hS ls (lv_sub hl [1, 2, 0] rfl)
