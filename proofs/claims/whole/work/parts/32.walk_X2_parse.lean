set_option maxHeartbeats 4000000 in
set_option maxRecDepth 100000 in
theorem w_X2_parse_261 (l : Launch) {p : Program} {e : Env} {s : State} {m : MethodId} {args : Array Value} {below : List Frame} {meth : Method} {c : Code} {A : Nat → Prop} {dC : Nat → ClassId} {dI : Nat → Nat → Nat} (a_this a_text a_d a_n a_power a_limbs : Nat) (c_text c_d c_n c_power : ClassId) (hx : p.tables.exec = Jvm.exec) (hb : c.code = cX2_parse) (hr : meth.sig.returnType = (some .boolean)) (hml : c.maxLocals = 4) (hown : s.vm.findClass RX2 = some m.cls) (hws : ∀ w ∈ wsL_law, w.before args s = true) (hlocks : meth.locks = false) (hA : ∀ q : Nat, s.heap.size ≤ q → A q) : ∀  (v_thrown : Int32) (v_size : Int32) (v_used : Int32) (v_at : Int32) (v_text : Nat → Int32) (v_d : Nat → Int32) (v_n : Nat → Int32) (v_power : Nat → Int32) (o_r : Int32) (o_at : Int32) (o_d : Nat → Int32) (o_n : Nat → Int32) (o_power : Nat → Int32), f_X2_parse_b261 v_size v_at v_text v_d v_n v_power = some (o_r, o_at, o_d, o_n, o_power) → ∀ (H : Heap) (locs : List Loc), va_K (dC, dI) vwCl [(c_text, .int), (c_d, .int), (c_n, .int), (c_power, .int)] s → va_P (dC, dI) vwCl (wd_X2_parse a_this a_text a_d a_n a_power a_limbs c_text c_d c_n c_power v_thrown v_size v_used v_at v_text v_d v_n v_power) H → va_D A (wd_X2_parse a_this a_text a_d a_n a_power a_limbs c_text c_d c_n c_power v_thrown v_size v_used v_at v_text v_d v_n v_power) → va_S A s.heap H locs → ∀ (ls : Array Slot), lv_has ls 4 [(0, .ref a_this)] → W p l e (headSpec (w_X2_parse) ({ frames := 1, cells := 0, slots := 0, locals := 23 } : Room)).room s m args below meth c H locs 0 0 (MQ below (va_Qi (fun r9 (_ : Unit) => r9 = o_r) (fun (_ : Unit) t => va_P (dC, dI) vwCl (wd_X2_parse a_this a_text a_d a_n a_power a_limbs c_text c_d c_n c_power v_thrown v_size v_used o_at v_text o_d o_n o_power) t.heap ∧ va_K (dC, dI) vwCl [(c_text, .int), (c_d, .int), (c_n, .int), (c_power, .int)] t ∧ va_D A (wd_X2_parse a_this a_text a_d a_n a_power a_limbs c_text c_d c_n c_power v_thrown v_size v_used o_at v_text o_d o_n o_power)) A) args s 0 0 A) (F0 m 261 ls []) := by
  intro v_thrown v_size v_used v_at v_text v_d v_n v_power o_r o_at o_d o_n o_power h H locs hK hP hD hS ls hl
  unfold f_X2_parse_b261 at h
  refine lv_aload_n hx hb dX2_parse_261 rfl (lv_at hl 0 rfl) ?_
  refine lv_iconst (v := 0) hx hb dX2_parse_262 (by decide) ?_
  obtain ⟨⟨v_d_263, v_n_263, v_power_263⟩, hc, h⟩ := bd h
  dsimp only at h
  have hPc := hP.sub (ws' := (wd_X2_trim a_this a_text a_d a_n a_power a_limbs c_d c_n c_power v_thrown v_size v_used v_at v_d v_n v_power)) [0, 2, 3, 4] rfl
  have hDc := hD.sub (ws' := (wd_X2_trim a_this a_text a_d a_n a_power a_limbs c_d c_n c_power v_thrown v_size v_used v_at v_d v_n v_power)) [0, 2, 3, 4] (by decide) rfl
  have hKc := hK.sub (tys' := [(c_d, .int), (c_n, .int), (c_power, .int)]) [1, 2, 3] rfl
  have hFc := va_free (wc := (wd_X2_trim a_this a_text a_d a_n a_power a_limbs c_d c_n c_power v_thrown v_size v_used v_at v_d v_n v_power)) hD hS hA [0, 2, 3, 4] rfl
  refine va_callv (va_runV (As := [.int 0]) (rest := []) ⟨hx, hb, hml, hown, hws⟩ (c_X2_trim l dC dI  a_this a_text a_d a_n a_power a_limbs c_d c_n c_power (Array.size H) 0 v_thrown v_size v_used v_at v_d v_n v_power v_d_263 v_n_263 v_power_263 hc) (cwV 1 hws (gV ww_239 ww_240 ww_241 ww_5 ww_242) rfl rfl rfl (by decide +kernel) ⟨Nat.le_of_ble_eq_true rfl, Nat.le_of_ble_eq_true rfl⟩) ⟨(fun a U g mk q => by obtain ⟨q0, q1, qP, qK, qD⟩ := q; exact ⟨q0, q1, qP, va_K.moved (u := U) (U := U.calling g mk a) (Vm.Alike.refl U.vm) qK, qD⟩), va_recv hKc hPc (ci := 2) (q0 := 0) rfl rfl, (fun U hU hW => ⟨rfl, by rw [hU], by rw [hU]; exact hPc, va_K.moved hW.alike hKc, hDc.weaken (fun _ _ _ _ => trivial)⟩)⟩ rfl rfl hl.1 rfl (lv_room (Nat.le_of_ble_eq_true rfl)) dX2_parse_263 ⟨Nat.zero_le _, Nat.zero_le _⟩) hS (fun q _ h => hFc q h) hFc (fun u9 t H1 locs ht hvm hw hB hz1 hk1 hS => ?_)
  obtain ⟨hP1, hK1, hD1⟩ := hB
  rw [ht] at hP1
  obtain ⟨hP, hD⟩ := va_join (wr := [(a_text, .inl (c_text, 400, .inl v_text))]) (w1 := (wd_X2_trim a_this a_text a_d a_n a_power a_limbs c_d c_n c_power v_thrown v_size v_used v_at v_d_263 v_n_263 v_power_263)) hP hD [0, 2, 3, 4] [1] rfl rfl (by decide) (by decide) hk1 hFc hP1 hD1
  generalize H1 = H at hP hS ⊢
  have hP : va_P (dC, dI) vwCl (wd_X2_parse a_this a_text a_d a_n a_power a_limbs c_text c_d c_n c_power v_thrown v_size v_used v_at v_text v_d_263 v_n_263 v_power_263) H := hP.sub [1, 0, 2, 3, 4] rfl
  have hD : va_D A (wd_X2_parse a_this a_text a_d a_n a_power a_limbs c_text c_d c_n c_power v_thrown v_size v_used v_at v_text v_d_263 v_n_263 v_power_263) := hD.sub [1, 0, 2, 3, 4] (by decide) rfl
  clear hP1 hK1 hD1 hPc hDc hKc hFc hk1 hz1 ht hvm
  refine lv_aload_n hx hb dX2_parse_266 rfl (lv_at hl 0 rfl) ?_
  refine va_get (D := (dC, dI)) (ci := 2) (v := .int v_at) (C := RX2) (T := TX2) (N := 9) hx hb hws inlX2 hown hK hP 0 rfl rfl 8 (by decide) (hws _ ww_221) (fun _ h9 => h9) rfl dX2_parse_267 ?_
  refine lv_aload_n hx hb dX2_parse_270 rfl (lv_at hl 0 rfl) ?_
  refine va_get (D := (dC, dI)) (ci := 2) (v := .int v_size) (C := RX2) (T := TX2) (N := 9) hx hb hws inlX2 hown hK hP 0 rfl rfl 2 (by decide) (hws _ ww_49) (fun _ h9 => h9) rfl dX2_parse_271 ?_
  refine lv_icmp_ne (tgt := 281) hx hb dX2_parse_274 (by decide) (fun c9 => ?_) (fun c9 => ?_)
  · have h := (if_neg c9).symm.trans h
    refine lv_iconst (v := 0) hx hb dX2_parse_281 (by decide) ?_
    obtain ⟨h09, h19, h29, h39, h49⟩ := rt5 h
    subst o_r
    subst o_at
    subst o_d
    subst o_n
    subst o_power
    exact W.zret hx hb hr rfl (fun t ht hW => ⟨⟨_, (), rfl, rfl, by rw [ht]; exact hP, va_K.moved hW.alike hK, hD⟩, hS.F ht⟩) hS.2.2 dX2_parse_282
  · have h := (if_pos c9).symm.trans h
    refine lv_iconst (v := 1) hx hb dX2_parse_277 (by decide) ?_
    refine lv_goto (tgt := 282) hx hb dX2_parse_278 (by decide) ?_
    obtain ⟨h09, h19, h29, h39, h49⟩ := rt5 h
    subst o_r
    subst o_at
    subst o_d
    subst o_n
    subst o_power
    exact W.zret hx hb hr rfl (fun t ht hW => ⟨⟨_, (), rfl, rfl, by rw [ht]; exact hP, va_K.moved hW.alike hK, hD⟩, hS.F ht⟩) hS.2.2 dX2_parse_282
set_option maxHeartbeats 4000000 in
set_option maxRecDepth 100000 in
theorem w_X2_parse_259 (l : Launch) {p : Program} {e : Env} {s : State} {m : MethodId} {args : Array Value} {below : List Frame} {meth : Method} {c : Code} {A : Nat → Prop} {dC : Nat → ClassId} {dI : Nat → Nat → Nat} (a_this a_text a_d a_n a_power a_limbs : Nat) (c_text c_d c_n c_power : ClassId) (hx : p.tables.exec = Jvm.exec) (hb : c.code = cX2_parse) (hr : meth.sig.returnType = (some .boolean)) (hml : c.maxLocals = 4) (hown : s.vm.findClass RX2 = some m.cls) (hws : ∀ w ∈ wsL_law, w.before args s = true) (hlocks : meth.locks = false) (hA : ∀ q : Nat, s.heap.size ≤ q → A q) : ∀ (s1 : Int32) (s2 : Int32) (s3 : Int32) (v_thrown : Int32) (v_size : Int32) (v_used : Int32) (v_at : Int32) (v_text : Nat → Int32) (v_d : Nat → Int32) (v_n : Nat → Int32) (v_power : Nat → Int32) (o_r : Int32) (o_at : Int32) (o_d : Nat → Int32) (o_n : Nat → Int32) (o_power : Nat → Int32), f_X2_parse_b259 s1 s2 s3 v_size v_at v_text v_d v_n v_power = some (o_r, o_at, o_d, o_n, o_power) → ∀ (H : Heap) (locs : List Loc), va_K (dC, dI) vwCl [(c_text, .int), (c_d, .int), (c_n, .int), (c_power, .int)] s → va_P (dC, dI) vwCl (wd_X2_parse a_this a_text a_d a_n a_power a_limbs c_text c_d c_n c_power v_thrown v_size v_used v_at v_text v_d v_n v_power) H → va_D A (wd_X2_parse a_this a_text a_d a_n a_power a_limbs c_text c_d c_n c_power v_thrown v_size v_used v_at v_text v_d v_n v_power) → va_S A s.heap H locs → ∀ (ls : Array Slot), lv_has ls 4 [(0, .ref a_this)] → W p l e (headSpec (w_X2_parse) ({ frames := 1, cells := 0, slots := 0, locals := 23 } : Room)).room s m args below meth c H locs 0 0 (MQ below (va_Qi (fun r9 (_ : Unit) => r9 = o_r) (fun (_ : Unit) t => va_P (dC, dI) vwCl (wd_X2_parse a_this a_text a_d a_n a_power a_limbs c_text c_d c_n c_power v_thrown v_size v_used o_at v_text o_d o_n o_power) t.heap ∧ va_K (dC, dI) vwCl [(c_text, .int), (c_d, .int), (c_n, .int), (c_power, .int)] t ∧ va_D A (wd_X2_parse a_this a_text a_d a_n a_power a_limbs c_text c_d c_n c_power v_thrown v_size v_used o_at v_text o_d o_n o_power)) A) args s 0 0 A) (F0 m 259 ls [.int s3, .int s2, .int s1, .ref a_power]) := by
  intro s1 s2 s3 v_thrown v_size v_used v_at v_text v_d v_n v_power o_r o_at o_d o_n o_power h H locs hK hP hD hS ls hl
  unfold f_X2_parse_b259 at h
  refine lv_iadd hx hb dX2_parse_259 ?_
  obtain ⟨hi, h⟩ := gd h
  refine va_iast hx hb hK hP hD hS 4 3 rfl rfl hi dX2_parse_260 (fun H locs hP hD hS => ?_)
  have hP : va_P (dC, dI) vwCl (wd_X2_parse a_this a_text a_d a_n a_power a_limbs c_text c_d c_n c_power v_thrown v_size v_used v_at v_text v_d v_n (upd v_power (Int32.toNatClampNeg s1) (s2 + s3))) H := hP
  have hD : va_D A (wd_X2_parse a_this a_text a_d a_n a_power a_limbs c_text c_d c_n c_power v_thrown v_size v_used v_at v_text v_d v_n (upd v_power (Int32.toNatClampNeg s1) (s2 + s3))) := hD
  exact w_X2_parse_261 l a_this a_text a_d a_n a_power a_limbs c_text c_d c_n c_power hx hb hr hml hown hws hlocks hA  v_thrown v_size v_used v_at v_text v_d v_n (upd v_power (Int32.toNatClampNeg s1) (s2 + s3)) o_r o_at o_d o_n o_power h H locs hK hP hD hS ls (lv_sub hl [0] rfl)
set_option maxHeartbeats 4000000 in
set_option maxRecDepth 100000 in
theorem w_X2_parse_232 (l : Launch) {p : Program} {e : Env} {s : State} {m : MethodId} {args : Array Value} {below : List Frame} {meth : Method} {c : Code} {A : Nat → Prop} {dC : Nat → ClassId} {dI : Nat → Nat → Nat} (a_this a_text a_d a_n a_power a_limbs : Nat) (c_text c_d c_n c_power : ClassId) (hx : p.tables.exec = Jvm.exec) (hb : c.code = cX2_parse) (hr : meth.sig.returnType = (some .boolean)) (hml : c.maxLocals = 4) (hown : s.vm.findClass RX2 = some m.cls) (hws : ∀ w ∈ wsL_law, w.before args s = true) (hlocks : meth.locks = false) (hA : ∀ q : Nat, s.heap.size ≤ q → A q) : ∀ (l1 : Int32) (l2 : Int32) (l3 : Int32) (v_thrown : Int32) (v_size : Int32) (v_used : Int32) (v_at : Int32) (v_text : Nat → Int32) (v_d : Nat → Int32) (v_n : Nat → Int32) (v_power : Nat → Int32) (o_r : Int32) (o_at : Int32) (o_d : Nat → Int32) (o_n : Nat → Int32) (o_power : Nat → Int32), f_X2_parse_b232 l1 l2 l3 v_size v_at v_text v_d v_n v_power = some (o_r, o_at, o_d, o_n, o_power) → ∀ (H : Heap) (locs : List Loc), va_K (dC, dI) vwCl [(c_text, .int), (c_d, .int), (c_n, .int), (c_power, .int)] s → va_P (dC, dI) vwCl (wd_X2_parse a_this a_text a_d a_n a_power a_limbs c_text c_d c_n c_power v_thrown v_size v_used v_at v_text v_d v_n v_power) H → va_D A (wd_X2_parse a_this a_text a_d a_n a_power a_limbs c_text c_d c_n c_power v_thrown v_size v_used v_at v_text v_d v_n v_power) → va_S A s.heap H locs → ∀ (ls : Array Slot), lv_has ls 4 [(0, .ref a_this), (1, .int l1), (2, .int l2), (3, .int l3)] → W p l e (headSpec (w_X2_parse) ({ frames := 1, cells := 0, slots := 0, locals := 23 } : Room)).room s m args below meth c H locs 0 0 (MQ below (va_Qi (fun r9 (_ : Unit) => r9 = o_r) (fun (_ : Unit) t => va_P (dC, dI) vwCl (wd_X2_parse a_this a_text a_d a_n a_power a_limbs c_text c_d c_n c_power v_thrown v_size v_used o_at v_text o_d o_n o_power) t.heap ∧ va_K (dC, dI) vwCl [(c_text, .int), (c_d, .int), (c_n, .int), (c_power, .int)] t ∧ va_D A (wd_X2_parse a_this a_text a_d a_n a_power a_limbs c_text c_d c_n c_power v_thrown v_size v_used o_at v_text o_d o_n o_power)) A) args s 0 0 A) (F0 m 232 ls []) := by
  intro l1 l2 l3 v_thrown v_size v_used v_at v_text v_d v_n v_power o_r o_at o_d o_n o_power h H locs hK hP hD hS ls hl
  unfold f_X2_parse_b232 at h
  refine lv_aload_n hx hb dX2_parse_232 rfl (lv_at hl 0 rfl) ?_
  refine va_get (D := (dC, dI)) (ci := 2) (v := .int v_at) (C := RX2) (T := TX2) (N := 9) hx hb hws inlX2 hown hK hP 0 rfl rfl 8 (by decide) (hws _ ww_221) (fun _ h9 => h9) rfl dX2_parse_233 ?_
  refine lv_iload_n hx hb dX2_parse_236 rfl (lv_at hl 2 rfl) ?_
  refine lv_icmp_ne (tgt := 242) hx hb dX2_parse_237 (by decide) (fun c9 => ?_) (fun c9 => ?_)
  · have h := (if_neg c9).symm.trans h
    refine lv_aload_n hx hb dX2_parse_242 rfl (lv_at hl 0 rfl) ?_
    refine va_get (D := (dC, dI)) (ci := 2) (v := .ref a_power) (C := RX2) (T := TX2) (N := 9) hx hb hws inlX2 hown hK hP 0 rfl rfl 5 (by decide) (hws _ ww_37) (fun _ h9 => h9) rfl dX2_parse_243 ?_
    refine lv_iconst (v := 0) hx hb dX2_parse_246 (by decide) ?_
    refine lv_dup2_11 hx hb dX2_parse_247 rfl rfl ?_
    have hi : vp_in 0 7000 := by unfold vp_in; decide +kernel
    refine va_iald hx hb hK hP 4 3 rfl rfl hi dX2_parse_248 ?_
    refine lv_iload_n hx hb dX2_parse_249 rfl (lv_at hl 1 rfl) ?_
    refine lv_if_eq (tgt := 258) hx hb dX2_parse_250 (by decide) (fun c9 => ?_) (fun c9 => ?_)
    · have h := (if_pos c9).symm.trans h
      refine lv_iload_n hx hb dX2_parse_258 rfl (lv_at hl 3 rfl) ?_
      exact w_X2_parse_259 l a_this a_text a_d a_n a_power a_limbs c_text c_d c_n c_power hx hb hr hml hown hws hlocks hA 0 (v_power (Int32.toNatClampNeg 0)) l3 v_thrown v_size v_used v_at v_text v_d v_n v_power o_r o_at o_d o_n o_power h H locs hK hP hD hS ls (lv_sub hl [0] rfl)
    · have h := (if_neg c9).symm.trans h
      refine lv_iload_n hx hb dX2_parse_253 rfl (lv_at hl 3 rfl) ?_
      refine lv_ineg hx hb dX2_parse_254 ?_
      refine lv_goto (tgt := 259) hx hb dX2_parse_255 (by decide) ?_
      exact w_X2_parse_259 l a_this a_text a_d a_n a_power a_limbs c_text c_d c_n c_power hx hb hr hml hown hws hlocks hA 0 (v_power (Int32.toNatClampNeg 0)) (-l3) v_thrown v_size v_used v_at v_text v_d v_n v_power o_r o_at o_d o_n o_power h H locs hK hP hD hS ls (lv_sub hl [0] rfl)
  · have h := (if_pos c9).symm.trans h
    refine lv_iconst (v := 0) hx hb dX2_parse_240 (by decide) ?_
    obtain ⟨h09, h19, h29, h39, h49⟩ := rt5 h
    subst o_r
    subst o_at
    subst o_d
    subst o_n
    subst o_power
    exact W.zret hx hb hr rfl (fun t ht hW => ⟨⟨_, (), rfl, rfl, by rw [ht]; exact hP, va_K.moved hW.alike hK, hD⟩, hS.F ht⟩) hS.2.2 dX2_parse_241
set_option maxHeartbeats 4000000 in
set_option maxRecDepth 100000 in
theorem w_X2_parse_184 (l : Launch) {p : Program} {e : Env} {s : State} {m : MethodId} {args : Array Value} {below : List Frame} {meth : Method} {c : Code} {A : Nat → Prop} {dC : Nat → ClassId} {dI : Nat → Nat → Nat} (a_this a_text a_d a_n a_power a_limbs : Nat) (c_text c_d c_n c_power : ClassId) (hx : p.tables.exec = Jvm.exec) (hb : c.code = cX2_parse) (hr : meth.sig.returnType = (some .boolean)) (hml : c.maxLocals = 4) (hown : s.vm.findClass RX2 = some m.cls) (hws : ∀ w ∈ wsL_law, w.before args s = true) (hlocks : meth.locks = false) (hA : ∀ q : Nat, s.heap.size ≤ q → A q) : ∀ (n : Nat) (l1 : Int32) (l2 : Int32) (l3 : Int32) (v_thrown : Int32) (v_size : Int32) (v_used : Int32) (v_at : Int32) (v_text : Nat → Int32) (v_d : Nat → Int32) (v_n : Nat → Int32) (v_power : Nat → Int32) (o_r : Int32) (o_at : Int32) (o_d : Nat → Int32) (o_n : Nat → Int32) (o_power : Nat → Int32), f_X2_parse_L184 n l1 l2 l3 v_size v_at v_text v_d v_n v_power = some (o_r, o_at, o_d, o_n, o_power) → ∀ (H : Heap) (locs : List Loc), va_K (dC, dI) vwCl [(c_text, .int), (c_d, .int), (c_n, .int), (c_power, .int)] s → va_P (dC, dI) vwCl (wd_X2_parse a_this a_text a_d a_n a_power a_limbs c_text c_d c_n c_power v_thrown v_size v_used v_at v_text v_d v_n v_power) H → va_D A (wd_X2_parse a_this a_text a_d a_n a_power a_limbs c_text c_d c_n c_power v_thrown v_size v_used v_at v_text v_d v_n v_power) → va_S A s.heap H locs → ∀ (ls : Array Slot), lv_has ls 4 [(0, .ref a_this), (1, .int l1), (2, .int l2), (3, .int l3)] → W p l e (headSpec (w_X2_parse) ({ frames := 1, cells := 0, slots := 0, locals := 23 } : Room)).room s m args below meth c H locs 0 0 (MQ below (va_Qi (fun r9 (_ : Unit) => r9 = o_r) (fun (_ : Unit) t => va_P (dC, dI) vwCl (wd_X2_parse a_this a_text a_d a_n a_power a_limbs c_text c_d c_n c_power v_thrown v_size v_used o_at v_text o_d o_n o_power) t.heap ∧ va_K (dC, dI) vwCl [(c_text, .int), (c_d, .int), (c_n, .int), (c_power, .int)] t ∧ va_D A (wd_X2_parse a_this a_text a_d a_n a_power a_limbs c_text c_d c_n c_power v_thrown v_size v_used o_at v_text o_d o_n o_power)) A) args s 0 0 A) (F0 m 184 ls []) := by
  intro n
  induction n with
  | zero =>
    intro l1 l2 l3 v_thrown v_size v_used v_at v_text v_d v_n v_power o_r o_at o_d o_n o_power h H locs hK hP hD hS ls hl
    exact absurd h (by simp [f_X2_parse_L184])
  | succ n ih =>
    intro l1 l2 l3 v_thrown v_size v_used v_at v_text v_d v_n v_power o_r o_at o_d o_n o_power h H locs hK hP hD hS ls hl
    unfold f_X2_parse_L184 at h
    refine lv_aload_n hx hb dX2_parse_184 rfl (lv_at hl 0 rfl) ?_
    obtain ⟨r185, hc, h⟩ := bd h
    have hPc := hP.sub (ws' := (wd_X2_isDigit a_this a_text a_d a_n a_power a_limbs c_text v_thrown v_size v_used v_at v_text)) [0, 1] rfl
    have hDc := hD.sub (ws' := (wd_X2_isDigit a_this a_text a_d a_n a_power a_limbs c_text v_thrown v_size v_used v_at v_text)) [0, 1] (by decide) rfl
    have hKc := hK.sub (tys' := [(c_text, .int)]) [0] rfl
    have hFc := va_free (wc := (wd_X2_isDigit a_this a_text a_d a_n a_power a_limbs c_text v_thrown v_size v_used v_at v_text)) hD hS hA [0, 1] rfl
    refine va_calli (va_runV (As := []) (rest := []) ⟨hx, hb, hml, hown, hws⟩ (c_X2_isDigit l dC dI  a_this a_text a_d a_n a_power a_limbs c_text (Array.size H)  v_thrown v_size v_used v_at v_text r185 hc) (cwV 0 hws (gV ww_231 ww_232 ww_233 ww_5 ww_234) rfl rfl rfl (by decide +kernel) ⟨Nat.le_of_ble_eq_true rfl, Nat.le_of_ble_eq_true rfl⟩) ⟨(fun a U g mk q => by obtain ⟨q0, q1, qP, qK, qD⟩ := q; exact ⟨q0, q1, qP, va_K.moved (u := U) (U := U.calling g mk a) (Vm.Alike.refl U.vm) qK, qD⟩), va_recv hKc hPc (ci := 2) (q0 := 0) rfl rfl, (fun U hU hW => ⟨rfl, by rw [hU], by rw [hU]; exact hPc, va_K.moved hW.alike hKc, hDc.weaken (fun _ _ _ _ => trivial)⟩)⟩ rfl rfl hl.1 rfl (lv_room (Nat.le_of_ble_eq_true rfl)) dX2_parse_185 ⟨Nat.zero_le _, Nat.zero_le _⟩) hS (fun q _ h => hFc q h) hFc (fun r9 u9 t H1 locs ht hvm hw hB hz1 hk1 hS => ?_)
    obtain ⟨hP1, hK1, hD1⟩ := hB
    rw [ht] at hP1
    subst r9
    obtain ⟨hP, hD⟩ := va_join (wr := [(a_d, .inl (c_d, 7000, .inl v_d)), (a_n, .inl (c_n, 7000, .inl v_n)), (a_power, .inl (c_power, 7000, .inl v_power))]) (w1 := (wd_X2_isDigit a_this a_text a_d a_n a_power a_limbs c_text v_thrown v_size v_used v_at v_text)) hP hD [0, 1] [2, 3, 4] rfl rfl (by decide) (by decide) hk1 hFc hP1 hD1
    generalize H1 = H at hP hS ⊢
    have hP : va_P (dC, dI) vwCl (wd_X2_parse a_this a_text a_d a_n a_power a_limbs c_text c_d c_n c_power v_thrown v_size v_used v_at v_text v_d v_n v_power) H := hP.sub [3, 4, 0, 1, 2] rfl
    have hD : va_D A (wd_X2_parse a_this a_text a_d a_n a_power a_limbs c_text c_d c_n c_power v_thrown v_size v_used v_at v_text v_d v_n v_power) := hD.sub [3, 4, 0, 1, 2] (by decide) rfl
    clear hP1 hK1 hD1 hPc hDc hKc hFc hk1 hz1 ht hvm
    refine lv_if_eq (tgt := 232) hx hb dX2_parse_188 (by decide) (fun c9 => ?_) (fun c9 => ?_)
    · have h := (if_pos c9).symm.trans h
      exact w_X2_parse_232 l a_this a_text a_d a_n a_power a_limbs c_text c_d c_n c_power hx hb hr hml hown hws hlocks hA l1 l2 l3 v_thrown v_size v_used v_at v_text v_d v_n v_power o_r o_at o_d o_n o_power h H locs hK hP hD hS ls (lv_sub hl [0, 1, 2, 3] rfl)
    · have h := (if_neg c9).symm.trans h
      refine lv_aload_n hx hb dX2_parse_191 rfl (lv_at hl 0 rfl) ?_
      refine va_get (D := (dC, dI)) (ci := 2) (v := .int v_at) (C := RX2) (T := TX2) (N := 9) hx hb hws inlX2 hown hK hP 0 rfl rfl 8 (by decide) (hws _ ww_221) (fun _ h9 => h9) rfl dX2_parse_192 ?_
      refine lv_iload_n hx hb dX2_parse_195 rfl (lv_at hl 2 rfl) ?_
      refine lv_isub hx hb dX2_parse_196 ?_
      refine lv_iconst (v := 4) hx hb dX2_parse_197 (by decide) ?_
      refine lv_icmp_ge (tgt := 232) hx hb dX2_parse_198 (by decide) (fun c9 => ?_) (fun c9 => ?_)
      · have h := (if_pos c9).symm.trans h
        exact w_X2_parse_232 l a_this a_text a_d a_n a_power a_limbs c_text c_d c_n c_power hx hb hr hml hown hws hlocks hA l1 l2 l3 v_thrown v_size v_used v_at v_text v_d v_n v_power o_r o_at o_d o_n o_power h H locs hK hP hD hS ls (lv_sub hl [0, 1, 2, 3] rfl)
      · have h := (if_neg c9).symm.trans h
        refine lv_bipush (v := 10) hx hb dX2_parse_201 (by decide) ?_
        refine lv_iload_n hx hb dX2_parse_203 rfl (lv_at hl 3 rfl) ?_
        refine lv_imul hx hb dX2_parse_204 ?_
        refine lv_aload_n hx hb dX2_parse_205 rfl (lv_at hl 0 rfl) ?_
        refine va_get (D := (dC, dI)) (ci := 2) (v := .ref a_text) (C := RX2) (T := TX2) (N := 9) hx hb hws inlX2 hown hK hP 0 rfl rfl 1 (by decide) (hws _ ww_34) (fun _ h9 => h9) rfl dX2_parse_206 ?_
        refine lv_aload_n hx hb dX2_parse_209 rfl (lv_at hl 0 rfl) ?_
        refine va_get (D := (dC, dI)) (ci := 2) (v := .int v_at) (C := RX2) (T := TX2) (N := 9) hx hb hws inlX2 hown hK hP 0 rfl rfl 8 (by decide) (hws _ ww_221) (fun _ h9 => h9) rfl dX2_parse_210 ?_
        obtain ⟨hi, h⟩ := gd h
        refine va_iald hx hb hK hP 1 0 rfl rfl hi dX2_parse_213 ?_
        refine lv_iadd hx hb dX2_parse_214 ?_
        refine lv_bipush (v := 48) hx hb dX2_parse_215 (by decide) ?_
        refine lv_isub hx hb dX2_parse_217 ?_
        refine lv_istore_n (lv' := [(3, .int (((10 * l3) + (v_text (Int32.toNatClampNeg v_at))) - 48)), (0, .ref a_this), (1, .int l1), (2, .int l2)]) hx hb dX2_parse_218 rfl hl (by decide) rfl (fun ls hl => ?_)
        refine lv_aload_n hx hb dX2_parse_219 rfl (lv_at hl 1 rfl) ?_
        refine lv_dup hx hb dX2_parse_220 rfl ?_
        refine va_get (D := (dC, dI)) (ci := 2) (v := .int v_at) (C := RX2) (T := TX2) (N := 9) hx hb hws inlX2 hown hK hP 0 rfl rfl 8 (by decide) (hws _ ww_221) (fun _ h9 => h9) rfl dX2_parse_221 ?_
        refine lv_iconst (v := 1) hx hb dX2_parse_224 (by decide) ?_
        refine lv_iadd hx hb dX2_parse_225 ?_
        refine va_put (D := (dC, dI)) (ci := 2) (v := .int (v_at + 1)) (ty := .int) (C := RX2) (T := TX2) (N := 9) hx hb hws inlX2 tyX2 tyX2_ok nmX2 hown hK hP hD hS 0 rfl rfl 8 (by decide) (hws _ ww_221) (fun _ h9 => h9) rfl (by decide +kernel) rfl rfl (Nat.le_of_ble_eq_true rfl) dX2_parse_226 (fun H locs hP hD hS => ?_)
        have hP : va_P (dC, dI) vwCl (wd_X2_parse a_this a_text a_d a_n a_power a_limbs c_text c_d c_n c_power v_thrown v_size v_used (v_at + 1) v_text v_d v_n v_power) H := hP
        have hD : va_D A (wd_X2_parse a_this a_text a_d a_n a_power a_limbs c_text c_d c_n c_power v_thrown v_size v_used (v_at + 1) v_text v_d v_n v_power) := hD
        refine lv_goto (tgt := 184) hx hb dX2_parse_229 (by decide) ?_
        exact ih l1 l2 (((10 * l3) + (v_text (Int32.toNatClampNeg v_at))) - 48) v_thrown v_size v_used (v_at + 1) v_text v_d v_n v_power o_r o_at o_d o_n o_power h H locs hK hP hD hS ls (lv_sub hl [1, 2, 3, 0] rfl)
set_option maxHeartbeats 4000000 in
set_option maxRecDepth 100000 in
theorem w_X2_parse_137 (l : Launch) {p : Program} {e : Env} {s : State} {m : MethodId} {args : Array Value} {below : List Frame} {meth : Method} {c : Code} {A : Nat → Prop} {dC : Nat → ClassId} {dI : Nat → Nat → Nat} (a_this a_text a_d a_n a_power a_limbs : Nat) (c_text c_d c_n c_power : ClassId) (hx : p.tables.exec = Jvm.exec) (hb : c.code = cX2_parse) (hr : meth.sig.returnType = (some .boolean)) (hml : c.maxLocals = 4) (hown : s.vm.findClass RX2 = some m.cls) (hws : ∀ w ∈ wsL_law, w.before args s = true) (hlocks : meth.locks = false) (hA : ∀ q : Nat, s.heap.size ≤ q → A q) : ∀  (v_thrown : Int32) (v_size : Int32) (v_used : Int32) (v_at : Int32) (v_text : Nat → Int32) (v_d : Nat → Int32) (v_n : Nat → Int32) (v_power : Nat → Int32) (o_r : Int32) (o_at : Int32) (o_d : Nat → Int32) (o_n : Nat → Int32) (o_power : Nat → Int32), f_X2_parse_b137 v_size v_at v_text v_d v_n v_power = some (o_r, o_at, o_d, o_n, o_power) → ∀ (H : Heap) (locs : List Loc), va_K (dC, dI) vwCl [(c_text, .int), (c_d, .int), (c_n, .int), (c_power, .int)] s → va_P (dC, dI) vwCl (wd_X2_parse a_this a_text a_d a_n a_power a_limbs c_text c_d c_n c_power v_thrown v_size v_used v_at v_text v_d v_n v_power) H → va_D A (wd_X2_parse a_this a_text a_d a_n a_power a_limbs c_text c_d c_n c_power v_thrown v_size v_used v_at v_text v_d v_n v_power) → va_S A s.heap H locs → ∀ (ls : Array Slot), lv_has ls 4 [(0, .ref a_this)] → W p l e (headSpec (w_X2_parse) ({ frames := 1, cells := 0, slots := 0, locals := 23 } : Room)).room s m args below meth c H locs 0 0 (MQ below (va_Qi (fun r9 (_ : Unit) => r9 = o_r) (fun (_ : Unit) t => va_P (dC, dI) vwCl (wd_X2_parse a_this a_text a_d a_n a_power a_limbs c_text c_d c_n c_power v_thrown v_size v_used o_at v_text o_d o_n o_power) t.heap ∧ va_K (dC, dI) vwCl [(c_text, .int), (c_d, .int), (c_n, .int), (c_power, .int)] t ∧ va_D A (wd_X2_parse a_this a_text a_d a_n a_power a_limbs c_text c_d c_n c_power v_thrown v_size v_used o_at v_text o_d o_n o_power)) A) args s 0 0 A) (F0 m 137 ls []) := by
  intro v_thrown v_size v_used v_at v_text v_d v_n v_power o_r o_at o_d o_n o_power h H locs hK hP hD hS ls hl
  unfold f_X2_parse_b137 at h
  refine lv_aload_n hx hb dX2_parse_137 rfl (lv_at hl 0 rfl) ?_
  refine lv_bipush (v := 101) hx hb dX2_parse_138 (by decide) ?_
  obtain ⟨r140, hc, h⟩ := bd h
  have hPc := hP.sub (ws' := (wd_X2_is a_this a_text a_d a_n a_power a_limbs c_text v_thrown v_size v_used v_at v_text)) [0, 1] rfl
  have hDc := hD.sub (ws' := (wd_X2_is a_this a_text a_d a_n a_power a_limbs c_text v_thrown v_size v_used v_at v_text)) [0, 1] (by decide) rfl
  have hKc := hK.sub (tys' := [(c_text, .int)]) [0] rfl
  have hFc := va_free (wc := (wd_X2_is a_this a_text a_d a_n a_power a_limbs c_text v_thrown v_size v_used v_at v_text)) hD hS hA [0, 1] rfl
  refine va_calli (va_runV (As := [.int 101]) (rest := []) ⟨hx, hb, hml, hown, hws⟩ (c_X2_is l dC dI  a_this a_text a_d a_n a_power a_limbs c_text (Array.size H) 101 v_thrown v_size v_used v_at v_text r140 hc) (cwV 1 hws (gV ww_223 ww_224 ww_225 ww_5 ww_226) rfl rfl rfl (by decide +kernel) ⟨Nat.le_of_ble_eq_true rfl, Nat.le_of_ble_eq_true rfl⟩) ⟨(fun a U g mk q => by obtain ⟨q0, q1, qP, qK, qD⟩ := q; exact ⟨q0, q1, qP, va_K.moved (u := U) (U := U.calling g mk a) (Vm.Alike.refl U.vm) qK, qD⟩), va_recv hKc hPc (ci := 2) (q0 := 0) rfl rfl, (fun U hU hW => ⟨rfl, by rw [hU], by rw [hU]; exact hPc, va_K.moved hW.alike hKc, hDc.weaken (fun _ _ _ _ => trivial)⟩)⟩ rfl rfl hl.1 rfl (lv_room (Nat.le_of_ble_eq_true rfl)) dX2_parse_140 ⟨Nat.zero_le _, Nat.zero_le _⟩) hS (fun q _ h => hFc q h) hFc (fun r9 u9 t H1 locs ht hvm hw hB hz1 hk1 hS => ?_)
  obtain ⟨hP1, hK1, hD1⟩ := hB
  rw [ht] at hP1
  subst r9
  obtain ⟨hP, hD⟩ := va_join (wr := [(a_d, .inl (c_d, 7000, .inl v_d)), (a_n, .inl (c_n, 7000, .inl v_n)), (a_power, .inl (c_power, 7000, .inl v_power))]) (w1 := (wd_X2_is a_this a_text a_d a_n a_power a_limbs c_text v_thrown v_size v_used v_at v_text)) hP hD [0, 1] [2, 3, 4] rfl rfl (by decide) (by decide) hk1 hFc hP1 hD1
  generalize H1 = H at hP hS ⊢
  have hP : va_P (dC, dI) vwCl (wd_X2_parse a_this a_text a_d a_n a_power a_limbs c_text c_d c_n c_power v_thrown v_size v_used v_at v_text v_d v_n v_power) H := hP.sub [3, 4, 0, 1, 2] rfl
  have hD : va_D A (wd_X2_parse a_this a_text a_d a_n a_power a_limbs c_text c_d c_n c_power v_thrown v_size v_used v_at v_text v_d v_n v_power) := hD.sub [3, 4, 0, 1, 2] (by decide) rfl
  clear hP1 hK1 hD1 hPc hDc hKc hFc hk1 hz1 ht hvm
  refine lv_if_eq (tgt := 261) hx hb dX2_parse_143 (by decide) (fun c9 => ?_) (fun c9 => ?_)
  · have h := (if_pos c9).symm.trans h
    exact w_X2_parse_261 l a_this a_text a_d a_n a_power a_limbs c_text c_d c_n c_power hx hb hr hml hown hws hlocks hA  v_thrown v_size v_used v_at v_text v_d v_n v_power o_r o_at o_d o_n o_power h H locs hK hP hD hS ls (lv_sub hl [0] rfl)
  · have h := (if_neg c9).symm.trans h
    refine lv_aload_n hx hb dX2_parse_146 rfl (lv_at hl 0 rfl) ?_
    refine lv_dup hx hb dX2_parse_147 rfl ?_
    refine va_get (D := (dC, dI)) (ci := 2) (v := .int v_at) (C := RX2) (T := TX2) (N := 9) hx hb hws inlX2 hown hK hP 0 rfl rfl 8 (by decide) (hws _ ww_221) (fun _ h9 => h9) rfl dX2_parse_148 ?_
    refine lv_iconst (v := 1) hx hb dX2_parse_151 (by decide) ?_
    refine lv_iadd hx hb dX2_parse_152 ?_
    refine va_put (D := (dC, dI)) (ci := 2) (v := .int (v_at + 1)) (ty := .int) (C := RX2) (T := TX2) (N := 9) hx hb hws inlX2 tyX2 tyX2_ok nmX2 hown hK hP hD hS 0 rfl rfl 8 (by decide) (hws _ ww_221) (fun _ h9 => h9) rfl (by decide +kernel) rfl rfl (Nat.le_of_ble_eq_true rfl) dX2_parse_153 (fun H locs hP hD hS => ?_)
    have hP : va_P (dC, dI) vwCl (wd_X2_parse a_this a_text a_d a_n a_power a_limbs c_text c_d c_n c_power v_thrown v_size v_used (v_at + 1) v_text v_d v_n v_power) H := hP
    have hD : va_D A (wd_X2_parse a_this a_text a_d a_n a_power a_limbs c_text c_d c_n c_power v_thrown v_size v_used (v_at + 1) v_text v_d v_n v_power) := hD
    refine lv_aload_n hx hb dX2_parse_156 rfl (lv_at hl 0 rfl) ?_
    refine lv_bipush (v := 45) hx hb dX2_parse_157 (by decide) ?_
    obtain ⟨r159, hc, h⟩ := bd h
    have hPc := hP.sub (ws' := (wd_X2_is a_this a_text a_d a_n a_power a_limbs c_text v_thrown v_size v_used (v_at + 1) v_text)) [0, 1] rfl
    have hDc := hD.sub (ws' := (wd_X2_is a_this a_text a_d a_n a_power a_limbs c_text v_thrown v_size v_used (v_at + 1) v_text)) [0, 1] (by decide) rfl
    have hKc := hK.sub (tys' := [(c_text, .int)]) [0] rfl
    have hFc := va_free (wc := (wd_X2_is a_this a_text a_d a_n a_power a_limbs c_text v_thrown v_size v_used (v_at + 1) v_text)) hD hS hA [0, 1] rfl
    refine va_calli (va_runV (As := [.int 45]) (rest := []) ⟨hx, hb, hml, hown, hws⟩ (c_X2_is l dC dI  a_this a_text a_d a_n a_power a_limbs c_text (Array.size H) 45 v_thrown v_size v_used (v_at + 1) v_text r159 hc) (cwV 1 hws (gV ww_223 ww_224 ww_225 ww_5 ww_226) rfl rfl rfl (by decide +kernel) ⟨Nat.le_of_ble_eq_true rfl, Nat.le_of_ble_eq_true rfl⟩) ⟨(fun a U g mk q => by obtain ⟨q0, q1, qP, qK, qD⟩ := q; exact ⟨q0, q1, qP, va_K.moved (u := U) (U := U.calling g mk a) (Vm.Alike.refl U.vm) qK, qD⟩), va_recv hKc hPc (ci := 2) (q0 := 0) rfl rfl, (fun U hU hW => ⟨rfl, by rw [hU], by rw [hU]; exact hPc, va_K.moved hW.alike hKc, hDc.weaken (fun _ _ _ _ => trivial)⟩)⟩ rfl rfl hl.1 rfl (lv_room (Nat.le_of_ble_eq_true rfl)) dX2_parse_159 ⟨Nat.zero_le _, Nat.zero_le _⟩) hS (fun q _ h => hFc q h) hFc (fun r9 u9 t H1 locs ht hvm hw hB hz1 hk1 hS => ?_)
    obtain ⟨hP1, hK1, hD1⟩ := hB
    rw [ht] at hP1
    subst r9
    obtain ⟨hP, hD⟩ := va_join (wr := [(a_d, .inl (c_d, 7000, .inl v_d)), (a_n, .inl (c_n, 7000, .inl v_n)), (a_power, .inl (c_power, 7000, .inl v_power))]) (w1 := (wd_X2_is a_this a_text a_d a_n a_power a_limbs c_text v_thrown v_size v_used (v_at + 1) v_text)) hP hD [0, 1] [2, 3, 4] rfl rfl (by decide) (by decide) hk1 hFc hP1 hD1
    generalize H1 = H at hP hS ⊢
    have hP : va_P (dC, dI) vwCl (wd_X2_parse a_this a_text a_d a_n a_power a_limbs c_text c_d c_n c_power v_thrown v_size v_used (v_at + 1) v_text v_d v_n v_power) H := hP.sub [3, 4, 0, 1, 2] rfl
    have hD : va_D A (wd_X2_parse a_this a_text a_d a_n a_power a_limbs c_text c_d c_n c_power v_thrown v_size v_used (v_at + 1) v_text v_d v_n v_power) := hD.sub [3, 4, 0, 1, 2] (by decide) rfl
    clear hP1 hK1 hD1 hPc hDc hKc hFc hk1 hz1 ht hvm
    refine lv_istore_n (lv' := [(1, .int r159), (0, .ref a_this)]) hx hb dX2_parse_162 rfl hl (by decide) rfl (fun ls hl => ?_)
    refine lv_iload_n hx hb dX2_parse_163 rfl (lv_at hl 0 rfl) ?_
    refine lv_if_eq (tgt := 177) hx hb dX2_parse_164 (by decide) (fun c9 => ?_) (fun c9 => ?_)
    · have h := (if_pos c9).symm.trans h
      refine lv_aload_n hx hb dX2_parse_177 rfl (lv_at hl 1 rfl) ?_
      refine va_get (D := (dC, dI)) (ci := 2) (v := .int (v_at + 1)) (C := RX2) (T := TX2) (N := 9) hx hb hws inlX2 hown hK hP 0 rfl rfl 8 (by decide) (hws _ ww_221) (fun _ h9 => h9) rfl dX2_parse_178 ?_
      refine lv_istore_n (lv' := [(2, .int (v_at + 1)), (1, .int r159), (0, .ref a_this)]) hx hb dX2_parse_181 rfl hl (by decide) rfl (fun ls hl => ?_)
      refine lv_iconst (v := 0) hx hb dX2_parse_182 (by decide) ?_
      refine lv_istore_n (lv' := [(3, .int 0), (2, .int (v_at + 1)), (1, .int r159), (0, .ref a_this)]) hx hb dX2_parse_183 rfl hl (by decide) rfl (fun ls hl => ?_)
      exact w_X2_parse_184 l a_this a_text a_d a_n a_power a_limbs c_text c_d c_n c_power hx hb hr hml hown hws hlocks hA FU r159 (v_at + 1) 0 v_thrown v_size v_used (v_at + 1) v_text v_d v_n v_power o_r o_at o_d o_n o_power h H locs hK hP hD hS ls (lv_sub hl [3, 2, 1, 0] rfl)
    · have h := (if_neg c9).symm.trans h
      refine lv_aload_n hx hb dX2_parse_167 rfl (lv_at hl 1 rfl) ?_
      refine lv_dup hx hb dX2_parse_168 rfl ?_
      refine va_get (D := (dC, dI)) (ci := 2) (v := .int (v_at + 1)) (C := RX2) (T := TX2) (N := 9) hx hb hws inlX2 hown hK hP 0 rfl rfl 8 (by decide) (hws _ ww_221) (fun _ h9 => h9) rfl dX2_parse_169 ?_
      refine lv_iconst (v := 1) hx hb dX2_parse_172 (by decide) ?_
      refine lv_iadd hx hb dX2_parse_173 ?_
      refine va_put (D := (dC, dI)) (ci := 2) (v := .int ((v_at + 1) + 1)) (ty := .int) (C := RX2) (T := TX2) (N := 9) hx hb hws inlX2 tyX2 tyX2_ok nmX2 hown hK hP hD hS 0 rfl rfl 8 (by decide) (hws _ ww_221) (fun _ h9 => h9) rfl (by decide +kernel) rfl rfl (Nat.le_of_ble_eq_true rfl) dX2_parse_174 (fun H locs hP hD hS => ?_)
      have hP : va_P (dC, dI) vwCl (wd_X2_parse a_this a_text a_d a_n a_power a_limbs c_text c_d c_n c_power v_thrown v_size v_used ((v_at + 1) + 1) v_text v_d v_n v_power) H := hP
      have hD : va_D A (wd_X2_parse a_this a_text a_d a_n a_power a_limbs c_text c_d c_n c_power v_thrown v_size v_used ((v_at + 1) + 1) v_text v_d v_n v_power) := hD
      refine lv_aload_n hx hb dX2_parse_177 rfl (lv_at hl 1 rfl) ?_
      refine va_get (D := (dC, dI)) (ci := 2) (v := .int ((v_at + 1) + 1)) (C := RX2) (T := TX2) (N := 9) hx hb hws inlX2 hown hK hP 0 rfl rfl 8 (by decide) (hws _ ww_221) (fun _ h9 => h9) rfl dX2_parse_178 ?_
      refine lv_istore_n (lv' := [(2, .int ((v_at + 1) + 1)), (1, .int r159), (0, .ref a_this)]) hx hb dX2_parse_181 rfl hl (by decide) rfl (fun ls hl => ?_)
      refine lv_iconst (v := 0) hx hb dX2_parse_182 (by decide) ?_
      refine lv_istore_n (lv' := [(3, .int 0), (2, .int ((v_at + 1) + 1)), (1, .int r159), (0, .ref a_this)]) hx hb dX2_parse_183 rfl hl (by decide) rfl (fun ls hl => ?_)
      exact w_X2_parse_184 l a_this a_text a_d a_n a_power a_limbs c_text c_d c_n c_power hx hb hr hml hown hws hlocks hA FU r159 ((v_at + 1) + 1) 0 v_thrown v_size v_used ((v_at + 1) + 1) v_text v_d v_n v_power o_r o_at o_d o_n o_power h H locs hK hP hD hS ls (lv_sub hl [3, 2, 1, 0] rfl)
set_option maxHeartbeats 4000000 in
set_option maxRecDepth 100000 in
theorem w_X2_parse_100 (l : Launch) {p : Program} {e : Env} {s : State} {m : MethodId} {args : Array Value} {below : List Frame} {meth : Method} {c : Code} {A : Nat → Prop} {dC : Nat → ClassId} {dI : Nat → Nat → Nat} (a_this a_text a_d a_n a_power a_limbs : Nat) (c_text c_d c_n c_power : ClassId) (hx : p.tables.exec = Jvm.exec) (hb : c.code = cX2_parse) (hr : meth.sig.returnType = (some .boolean)) (hml : c.maxLocals = 4) (hown : s.vm.findClass RX2 = some m.cls) (hws : ∀ w ∈ wsL_law, w.before args s = true) (hlocks : meth.locks = false) (hA : ∀ q : Nat, s.heap.size ≤ q → A q) : ∀ (n : Nat)  (v_thrown : Int32) (v_size : Int32) (v_used : Int32) (v_at : Int32) (v_text : Nat → Int32) (v_d : Nat → Int32) (v_n : Nat → Int32) (v_power : Nat → Int32) (o_r : Int32) (o_at : Int32) (o_d : Nat → Int32) (o_n : Nat → Int32) (o_power : Nat → Int32), f_X2_parse_L100 n v_size v_at v_text v_d v_n v_power = some (o_r, o_at, o_d, o_n, o_power) → ∀ (H : Heap) (locs : List Loc), va_K (dC, dI) vwCl [(c_text, .int), (c_d, .int), (c_n, .int), (c_power, .int)] s → va_P (dC, dI) vwCl (wd_X2_parse a_this a_text a_d a_n a_power a_limbs c_text c_d c_n c_power v_thrown v_size v_used v_at v_text v_d v_n v_power) H → va_D A (wd_X2_parse a_this a_text a_d a_n a_power a_limbs c_text c_d c_n c_power v_thrown v_size v_used v_at v_text v_d v_n v_power) → va_S A s.heap H locs → ∀ (ls : Array Slot), lv_has ls 4 [(0, .ref a_this)] → W p l e (headSpec (w_X2_parse) ({ frames := 1, cells := 0, slots := 0, locals := 23 } : Room)).room s m args below meth c H locs 0 0 (MQ below (va_Qi (fun r9 (_ : Unit) => r9 = o_r) (fun (_ : Unit) t => va_P (dC, dI) vwCl (wd_X2_parse a_this a_text a_d a_n a_power a_limbs c_text c_d c_n c_power v_thrown v_size v_used o_at v_text o_d o_n o_power) t.heap ∧ va_K (dC, dI) vwCl [(c_text, .int), (c_d, .int), (c_n, .int), (c_power, .int)] t ∧ va_D A (wd_X2_parse a_this a_text a_d a_n a_power a_limbs c_text c_d c_n c_power v_thrown v_size v_used o_at v_text o_d o_n o_power)) A) args s 0 0 A) (F0 m 100 ls []) := by
  intro n
  induction n with
  | zero =>
    intro v_thrown v_size v_used v_at v_text v_d v_n v_power o_r o_at o_d o_n o_power h H locs hK hP hD hS ls hl
    exact absurd h (by simp [f_X2_parse_L100])
  | succ n ih =>
    intro v_thrown v_size v_used v_at v_text v_d v_n v_power o_r o_at o_d o_n o_power h H locs hK hP hD hS ls hl
    unfold f_X2_parse_L100 at h
    refine lv_aload_n hx hb dX2_parse_100 rfl (lv_at hl 0 rfl) ?_
    obtain ⟨r101, hc, h⟩ := bd h
    have hPc := hP.sub (ws' := (wd_X2_isDigit a_this a_text a_d a_n a_power a_limbs c_text v_thrown v_size v_used v_at v_text)) [0, 1] rfl
    have hDc := hD.sub (ws' := (wd_X2_isDigit a_this a_text a_d a_n a_power a_limbs c_text v_thrown v_size v_used v_at v_text)) [0, 1] (by decide) rfl
    have hKc := hK.sub (tys' := [(c_text, .int)]) [0] rfl
    have hFc := va_free (wc := (wd_X2_isDigit a_this a_text a_d a_n a_power a_limbs c_text v_thrown v_size v_used v_at v_text)) hD hS hA [0, 1] rfl
    refine va_calli (va_runV (As := []) (rest := []) ⟨hx, hb, hml, hown, hws⟩ (c_X2_isDigit l dC dI  a_this a_text a_d a_n a_power a_limbs c_text (Array.size H)  v_thrown v_size v_used v_at v_text r101 hc) (cwV 0 hws (gV ww_231 ww_232 ww_233 ww_5 ww_234) rfl rfl rfl (by decide +kernel) ⟨Nat.le_of_ble_eq_true rfl, Nat.le_of_ble_eq_true rfl⟩) ⟨(fun a U g mk q => by obtain ⟨q0, q1, qP, qK, qD⟩ := q; exact ⟨q0, q1, qP, va_K.moved (u := U) (U := U.calling g mk a) (Vm.Alike.refl U.vm) qK, qD⟩), va_recv hKc hPc (ci := 2) (q0 := 0) rfl rfl, (fun U hU hW => ⟨rfl, by rw [hU], by rw [hU]; exact hPc, va_K.moved hW.alike hKc, hDc.weaken (fun _ _ _ _ => trivial)⟩)⟩ rfl rfl hl.1 rfl (lv_room (Nat.le_of_ble_eq_true rfl)) dX2_parse_101 ⟨Nat.zero_le _, Nat.zero_le _⟩) hS (fun q _ h => hFc q h) hFc (fun r9 u9 t H1 locs ht hvm hw hB hz1 hk1 hS => ?_)
    obtain ⟨hP1, hK1, hD1⟩ := hB
    rw [ht] at hP1
    subst r9
    obtain ⟨hP, hD⟩ := va_join (wr := [(a_d, .inl (c_d, 7000, .inl v_d)), (a_n, .inl (c_n, 7000, .inl v_n)), (a_power, .inl (c_power, 7000, .inl v_power))]) (w1 := (wd_X2_isDigit a_this a_text a_d a_n a_power a_limbs c_text v_thrown v_size v_used v_at v_text)) hP hD [0, 1] [2, 3, 4] rfl rfl (by decide) (by decide) hk1 hFc hP1 hD1
    generalize H1 = H at hP hS ⊢
    have hP : va_P (dC, dI) vwCl (wd_X2_parse a_this a_text a_d a_n a_power a_limbs c_text c_d c_n c_power v_thrown v_size v_used v_at v_text v_d v_n v_power) H := hP.sub [3, 4, 0, 1, 2] rfl
    have hD : va_D A (wd_X2_parse a_this a_text a_d a_n a_power a_limbs c_text c_d c_n c_power v_thrown v_size v_used v_at v_text v_d v_n v_power) := hD.sub [3, 4, 0, 1, 2] (by decide) rfl
    clear hP1 hK1 hD1 hPc hDc hKc hFc hk1 hz1 ht hvm
    refine lv_if_eq (tgt := 137) hx hb dX2_parse_104 (by decide) (fun c9 => ?_) (fun c9 => ?_)
    · have h := (if_pos c9).symm.trans h
      exact w_X2_parse_137 l a_this a_text a_d a_n a_power a_limbs c_text c_d c_n c_power hx hb hr hml hown hws hlocks hA  v_thrown v_size v_used v_at v_text v_d v_n v_power o_r o_at o_d o_n o_power h H locs hK hP hD hS ls (lv_sub hl [0] rfl)
    · have h := (if_neg c9).symm.trans h
      refine lv_aload_n hx hb dX2_parse_107 rfl (lv_at hl 0 rfl) ?_
      refine lv_iconst (v := 0) hx hb dX2_parse_108 (by decide) ?_
      refine lv_aload_n hx hb dX2_parse_109 rfl (lv_at hl 0 rfl) ?_
      refine va_get (D := (dC, dI)) (ci := 2) (v := .ref a_text) (C := RX2) (T := TX2) (N := 9) hx hb hws inlX2 hown hK hP 0 rfl rfl 1 (by decide) (hws _ ww_34) (fun _ h9 => h9) rfl dX2_parse_110 ?_
      refine lv_aload_n hx hb dX2_parse_113 rfl (lv_at hl 0 rfl) ?_
      refine va_get (D := (dC, dI)) (ci := 2) (v := .int v_at) (C := RX2) (T := TX2) (N := 9) hx hb hws inlX2 hown hK hP 0 rfl rfl 8 (by decide) (hws _ ww_221) (fun _ h9 => h9) rfl dX2_parse_114 ?_
      obtain ⟨hi, h⟩ := gd h
      refine va_iald hx hb hK hP 1 0 rfl rfl hi dX2_parse_117 ?_
      refine lv_bipush (v := 48) hx hb dX2_parse_118 (by decide) ?_
      refine lv_isub hx hb dX2_parse_120 ?_
      obtain ⟨⟨v_d_121, v_n_121⟩, hc, h⟩ := bd h
      dsimp only at h
      have hPc := hP.sub (ws' := (wd_X2_more a_this a_text a_d a_n a_power a_limbs c_d c_n v_thrown v_size v_used v_at v_d v_n)) [0, 2, 3] rfl
      have hDc := hD.sub (ws' := (wd_X2_more a_this a_text a_d a_n a_power a_limbs c_d c_n v_thrown v_size v_used v_at v_d v_n)) [0, 2, 3] (by decide) rfl
      have hKc := hK.sub (tys' := [(c_d, .int), (c_n, .int)]) [1, 2] rfl
      have hFc := va_free (wc := (wd_X2_more a_this a_text a_d a_n a_power a_limbs c_d c_n v_thrown v_size v_used v_at v_d v_n)) hD hS hA [0, 2, 3] rfl
      refine va_callv (va_runV (As := [.int 0, .int ((v_text (Int32.toNatClampNeg v_at)) - 48)]) (rest := []) ⟨hx, hb, hml, hown, hws⟩ (c_X2_more l dC dI  a_this a_text a_d a_n a_power a_limbs c_d c_n (Array.size H) 0 ((v_text (Int32.toNatClampNeg v_at)) - 48) v_thrown v_size v_used v_at v_d v_n v_d_121 v_n_121 hc) (cwV 2 hws (gV ww_235 ww_236 ww_237 ww_5 ww_238) rfl rfl rfl (by decide +kernel) ⟨Nat.le_of_ble_eq_true rfl, Nat.le_of_ble_eq_true rfl⟩) ⟨(fun a U g mk q => by obtain ⟨q0, q1, qP, qK, qD⟩ := q; exact ⟨q0, q1, qP, va_K.moved (u := U) (U := U.calling g mk a) (Vm.Alike.refl U.vm) qK, qD⟩), va_recv hKc hPc (ci := 2) (q0 := 0) rfl rfl, (fun U hU hW => ⟨rfl, by rw [hU], by rw [hU]; exact hPc, va_K.moved hW.alike hKc, hDc.weaken (fun _ _ _ _ => trivial)⟩)⟩ rfl rfl hl.1 rfl (lv_room (Nat.le_of_ble_eq_true rfl)) dX2_parse_121 ⟨Nat.zero_le _, Nat.zero_le _⟩) hS (fun q _ h => hFc q h) hFc (fun u9 t H1 locs ht hvm hw hB hz1 hk1 hS => ?_)
      obtain ⟨hP1, hK1, hD1⟩ := hB
      rw [ht] at hP1
      obtain ⟨hP, hD⟩ := va_join (wr := [(a_text, .inl (c_text, 400, .inl v_text)), (a_power, .inl (c_power, 7000, .inl v_power))]) (w1 := (wd_X2_more a_this a_text a_d a_n a_power a_limbs c_d c_n v_thrown v_size v_used v_at v_d_121 v_n_121)) hP hD [0, 2, 3] [1, 4] rfl rfl (by decide) (by decide) hk1 hFc hP1 hD1
      generalize H1 = H at hP hS ⊢
      have hP : va_P (dC, dI) vwCl (wd_X2_parse a_this a_text a_d a_n a_power a_limbs c_text c_d c_n c_power v_thrown v_size v_used v_at v_text v_d_121 v_n_121 v_power) H := hP.sub [2, 0, 3, 4, 1] rfl
      have hD : va_D A (wd_X2_parse a_this a_text a_d a_n a_power a_limbs c_text c_d c_n c_power v_thrown v_size v_used v_at v_text v_d_121 v_n_121 v_power) := hD.sub [2, 0, 3, 4, 1] (by decide) rfl
      clear hP1 hK1 hD1 hPc hDc hKc hFc hk1 hz1 ht hvm
      refine lv_aload_n hx hb dX2_parse_124 rfl (lv_at hl 0 rfl) ?_
      refine lv_dup hx hb dX2_parse_125 rfl ?_
      refine va_get (D := (dC, dI)) (ci := 2) (v := .int v_at) (C := RX2) (T := TX2) (N := 9) hx hb hws inlX2 hown hK hP 0 rfl rfl 8 (by decide) (hws _ ww_221) (fun _ h9 => h9) rfl dX2_parse_126 ?_
      refine lv_iconst (v := 1) hx hb dX2_parse_129 (by decide) ?_
      refine lv_iadd hx hb dX2_parse_130 ?_
      refine va_put (D := (dC, dI)) (ci := 2) (v := .int (v_at + 1)) (ty := .int) (C := RX2) (T := TX2) (N := 9) hx hb hws inlX2 tyX2 tyX2_ok nmX2 hown hK hP hD hS 0 rfl rfl 8 (by decide) (hws _ ww_221) (fun _ h9 => h9) rfl (by decide +kernel) rfl rfl (Nat.le_of_ble_eq_true rfl) dX2_parse_131 (fun H locs hP hD hS => ?_)
      have hP : va_P (dC, dI) vwCl (wd_X2_parse a_this a_text a_d a_n a_power a_limbs c_text c_d c_n c_power v_thrown v_size v_used (v_at + 1) v_text v_d_121 v_n_121 v_power) H := hP
      have hD : va_D A (wd_X2_parse a_this a_text a_d a_n a_power a_limbs c_text c_d c_n c_power v_thrown v_size v_used (v_at + 1) v_text v_d_121 v_n_121 v_power) := hD
      refine lv_goto (tgt := 100) hx hb dX2_parse_134 (by decide) ?_
      exact ih  v_thrown v_size v_used (v_at + 1) v_text v_d_121 v_n_121 v_power o_r o_at o_d o_n o_power h H locs hK hP hD hS ls (lv_sub hl [0] rfl)
set_option maxHeartbeats 4000000 in
set_option maxRecDepth 100000 in
theorem w_X2_parse_23 (l : Launch) {p : Program} {e : Env} {s : State} {m : MethodId} {args : Array Value} {below : List Frame} {meth : Method} {c : Code} {A : Nat → Prop} {dC : Nat → ClassId} {dI : Nat → Nat → Nat} (a_this a_text a_d a_n a_power a_limbs : Nat) (c_text c_d c_n c_power : ClassId) (hx : p.tables.exec = Jvm.exec) (hb : c.code = cX2_parse) (hr : meth.sig.returnType = (some .boolean)) (hml : c.maxLocals = 4) (hown : s.vm.findClass RX2 = some m.cls) (hws : ∀ w ∈ wsL_law, w.before args s = true) (hlocks : meth.locks = false) (hA : ∀ q : Nat, s.heap.size ≤ q → A q) : ∀ (n : Nat)  (v_thrown : Int32) (v_size : Int32) (v_used : Int32) (v_at : Int32) (v_text : Nat → Int32) (v_d : Nat → Int32) (v_n : Nat → Int32) (v_power : Nat → Int32) (o_r : Int32) (o_at : Int32) (o_d : Nat → Int32) (o_n : Nat → Int32) (o_power : Nat → Int32), f_X2_parse_L23 n v_size v_at v_text v_d v_n v_power = some (o_r, o_at, o_d, o_n, o_power) → ∀ (H : Heap) (locs : List Loc), va_K (dC, dI) vwCl [(c_text, .int), (c_d, .int), (c_n, .int), (c_power, .int)] s → va_P (dC, dI) vwCl (wd_X2_parse a_this a_text a_d a_n a_power a_limbs c_text c_d c_n c_power v_thrown v_size v_used v_at v_text v_d v_n v_power) H → va_D A (wd_X2_parse a_this a_text a_d a_n a_power a_limbs c_text c_d c_n c_power v_thrown v_size v_used v_at v_text v_d v_n v_power) → va_S A s.heap H locs → ∀ (ls : Array Slot), lv_has ls 4 [(0, .ref a_this)] → W p l e (headSpec (w_X2_parse) ({ frames := 1, cells := 0, slots := 0, locals := 23 } : Room)).room s m args below meth c H locs 0 0 (MQ below (va_Qi (fun r9 (_ : Unit) => r9 = o_r) (fun (_ : Unit) t => va_P (dC, dI) vwCl (wd_X2_parse a_this a_text a_d a_n a_power a_limbs c_text c_d c_n c_power v_thrown v_size v_used o_at v_text o_d o_n o_power) t.heap ∧ va_K (dC, dI) vwCl [(c_text, .int), (c_d, .int), (c_n, .int), (c_power, .int)] t ∧ va_D A (wd_X2_parse a_this a_text a_d a_n a_power a_limbs c_text c_d c_n c_power v_thrown v_size v_used o_at v_text o_d o_n o_power)) A) args s 0 0 A) (F0 m 23 ls []) := by
  intro n
  induction n with
  | zero =>
    intro v_thrown v_size v_used v_at v_text v_d v_n v_power o_r o_at o_d o_n o_power h H locs hK hP hD hS ls hl
    exact absurd h (by simp [f_X2_parse_L23])
  | succ n ih =>
    intro v_thrown v_size v_used v_at v_text v_d v_n v_power o_r o_at o_d o_n o_power h H locs hK hP hD hS ls hl
    unfold f_X2_parse_L23 at h
    refine lv_aload_n hx hb dX2_parse_23 rfl (lv_at hl 0 rfl) ?_
    obtain ⟨r24, hc, h⟩ := bd h
    have hPc := hP.sub (ws' := (wd_X2_isDigit a_this a_text a_d a_n a_power a_limbs c_text v_thrown v_size v_used v_at v_text)) [0, 1] rfl
    have hDc := hD.sub (ws' := (wd_X2_isDigit a_this a_text a_d a_n a_power a_limbs c_text v_thrown v_size v_used v_at v_text)) [0, 1] (by decide) rfl
    have hKc := hK.sub (tys' := [(c_text, .int)]) [0] rfl
    have hFc := va_free (wc := (wd_X2_isDigit a_this a_text a_d a_n a_power a_limbs c_text v_thrown v_size v_used v_at v_text)) hD hS hA [0, 1] rfl
    refine va_calli (va_runV (As := []) (rest := []) ⟨hx, hb, hml, hown, hws⟩ (c_X2_isDigit l dC dI  a_this a_text a_d a_n a_power a_limbs c_text (Array.size H)  v_thrown v_size v_used v_at v_text r24 hc) (cwV 0 hws (gV ww_231 ww_232 ww_233 ww_5 ww_234) rfl rfl rfl (by decide +kernel) ⟨Nat.le_of_ble_eq_true rfl, Nat.le_of_ble_eq_true rfl⟩) ⟨(fun a U g mk q => by obtain ⟨q0, q1, qP, qK, qD⟩ := q; exact ⟨q0, q1, qP, va_K.moved (u := U) (U := U.calling g mk a) (Vm.Alike.refl U.vm) qK, qD⟩), va_recv hKc hPc (ci := 2) (q0 := 0) rfl rfl, (fun U hU hW => ⟨rfl, by rw [hU], by rw [hU]; exact hPc, va_K.moved hW.alike hKc, hDc.weaken (fun _ _ _ _ => trivial)⟩)⟩ rfl rfl hl.1 rfl (lv_room (Nat.le_of_ble_eq_true rfl)) dX2_parse_24 ⟨Nat.zero_le _, Nat.zero_le _⟩) hS (fun q _ h => hFc q h) hFc (fun r9 u9 t H1 locs ht hvm hw hB hz1 hk1 hS => ?_)
    obtain ⟨hP1, hK1, hD1⟩ := hB
    rw [ht] at hP1
    subst r9
    obtain ⟨hP, hD⟩ := va_join (wr := [(a_d, .inl (c_d, 7000, .inl v_d)), (a_n, .inl (c_n, 7000, .inl v_n)), (a_power, .inl (c_power, 7000, .inl v_power))]) (w1 := (wd_X2_isDigit a_this a_text a_d a_n a_power a_limbs c_text v_thrown v_size v_used v_at v_text)) hP hD [0, 1] [2, 3, 4] rfl rfl (by decide) (by decide) hk1 hFc hP1 hD1
    generalize H1 = H at hP hS ⊢
    have hP : va_P (dC, dI) vwCl (wd_X2_parse a_this a_text a_d a_n a_power a_limbs c_text c_d c_n c_power v_thrown v_size v_used v_at v_text v_d v_n v_power) H := hP.sub [3, 4, 0, 1, 2] rfl
    have hD : va_D A (wd_X2_parse a_this a_text a_d a_n a_power a_limbs c_text c_d c_n c_power v_thrown v_size v_used v_at v_text v_d v_n v_power) := hD.sub [3, 4, 0, 1, 2] (by decide) rfl
    clear hP1 hK1 hD1 hPc hDc hKc hFc hk1 hz1 ht hvm
    refine lv_if_eq (tgt := 60) hx hb dX2_parse_27 (by decide) (fun c9 => ?_) (fun c9 => ?_)
    · have h := (if_pos c9).symm.trans h
      refine lv_aload_n hx hb dX2_parse_60 rfl (lv_at hl 0 rfl) ?_
      refine va_get (D := (dC, dI)) (ci := 2) (v := .ref a_power) (C := RX2) (T := TX2) (N := 9) hx hb hws inlX2 hown hK hP 0 rfl rfl 5 (by decide) (hws _ ww_37) (fun _ h9 => h9) rfl dX2_parse_61 ?_
      refine lv_iconst (v := 0) hx hb dX2_parse_64 (by decide) ?_
      refine lv_aload_n hx hb dX2_parse_65 rfl (lv_at hl 0 rfl) ?_
      refine va_get (D := (dC, dI)) (ci := 2) (v := .ref a_n) (C := RX2) (T := TX2) (N := 9) hx hb hws inlX2 hown hK hP 0 rfl rfl 4 (by decide) (hws _ ww_36) (fun _ h9 => h9) rfl dX2_parse_66 ?_
      refine lv_iconst (v := 0) hx hb dX2_parse_69 (by decide) ?_
      have hi : vp_in 0 7000 := by unfold vp_in; decide +kernel
      refine va_iald hx hb hK hP 3 2 rfl rfl hi dX2_parse_70 ?_
      have hi : vp_in 0 7000 := by unfold vp_in; decide +kernel
      refine va_iast hx hb hK hP hD hS 4 3 rfl rfl hi dX2_parse_71 (fun H locs hP hD hS => ?_)
      have hP : va_P (dC, dI) vwCl (wd_X2_parse a_this a_text a_d a_n a_power a_limbs c_text c_d c_n c_power v_thrown v_size v_used v_at v_text v_d v_n (upd v_power (Int32.toNatClampNeg 0) (v_n (Int32.toNatClampNeg 0)))) H := hP
      have hD : va_D A (wd_X2_parse a_this a_text a_d a_n a_power a_limbs c_text c_d c_n c_power v_thrown v_size v_used v_at v_text v_d v_n (upd v_power (Int32.toNatClampNeg 0) (v_n (Int32.toNatClampNeg 0)))) := hD
      refine lv_aload_n hx hb dX2_parse_72 rfl (lv_at hl 0 rfl) ?_
      refine lv_bipush (v := 46) hx hb dX2_parse_73 (by decide) ?_
      obtain ⟨r75, hc, h⟩ := bd h
      have hPc := hP.sub (ws' := (wd_X2_is a_this a_text a_d a_n a_power a_limbs c_text v_thrown v_size v_used v_at v_text)) [0, 1] rfl
      have hDc := hD.sub (ws' := (wd_X2_is a_this a_text a_d a_n a_power a_limbs c_text v_thrown v_size v_used v_at v_text)) [0, 1] (by decide) rfl
      have hKc := hK.sub (tys' := [(c_text, .int)]) [0] rfl
      have hFc := va_free (wc := (wd_X2_is a_this a_text a_d a_n a_power a_limbs c_text v_thrown v_size v_used v_at v_text)) hD hS hA [0, 1] rfl
      refine va_calli (va_runV (As := [.int 46]) (rest := []) ⟨hx, hb, hml, hown, hws⟩ (c_X2_is l dC dI  a_this a_text a_d a_n a_power a_limbs c_text (Array.size H) 46 v_thrown v_size v_used v_at v_text r75 hc) (cwV 1 hws (gV ww_223 ww_224 ww_225 ww_5 ww_226) rfl rfl rfl (by decide +kernel) ⟨Nat.le_of_ble_eq_true rfl, Nat.le_of_ble_eq_true rfl⟩) ⟨(fun a U g mk q => by obtain ⟨q0, q1, qP, qK, qD⟩ := q; exact ⟨q0, q1, qP, va_K.moved (u := U) (U := U.calling g mk a) (Vm.Alike.refl U.vm) qK, qD⟩), va_recv hKc hPc (ci := 2) (q0 := 0) rfl rfl, (fun U hU hW => ⟨rfl, by rw [hU], by rw [hU]; exact hPc, va_K.moved hW.alike hKc, hDc.weaken (fun _ _ _ _ => trivial)⟩)⟩ rfl rfl hl.1 rfl (lv_room (Nat.le_of_ble_eq_true rfl)) dX2_parse_75 ⟨Nat.zero_le _, Nat.zero_le _⟩) hS (fun q _ h => hFc q h) hFc (fun r9 u9 t H1 locs ht hvm hw hB hz1 hk1 hS => ?_)
      obtain ⟨hP1, hK1, hD1⟩ := hB
      rw [ht] at hP1
      subst r9
      obtain ⟨hP, hD⟩ := va_join (wr := [(a_d, .inl (c_d, 7000, .inl v_d)), (a_n, .inl (c_n, 7000, .inl v_n)), (a_power, .inl (c_power, 7000, .inl (upd v_power (Int32.toNatClampNeg 0) (v_n (Int32.toNatClampNeg 0)))))]) (w1 := (wd_X2_is a_this a_text a_d a_n a_power a_limbs c_text v_thrown v_size v_used v_at v_text)) hP hD [0, 1] [2, 3, 4] rfl rfl (by decide) (by decide) hk1 hFc hP1 hD1
      generalize H1 = H at hP hS ⊢
      have hP : va_P (dC, dI) vwCl (wd_X2_parse a_this a_text a_d a_n a_power a_limbs c_text c_d c_n c_power v_thrown v_size v_used v_at v_text v_d v_n (upd v_power (Int32.toNatClampNeg 0) (v_n (Int32.toNatClampNeg 0)))) H := hP.sub [3, 4, 0, 1, 2] rfl
      have hD : va_D A (wd_X2_parse a_this a_text a_d a_n a_power a_limbs c_text c_d c_n c_power v_thrown v_size v_used v_at v_text v_d v_n (upd v_power (Int32.toNatClampNeg 0) (v_n (Int32.toNatClampNeg 0)))) := hD.sub [3, 4, 0, 1, 2] (by decide) rfl
      clear hP1 hK1 hD1 hPc hDc hKc hFc hk1 hz1 ht hvm
      refine lv_if_eq (tgt := 137) hx hb dX2_parse_78 (by decide) (fun c9 => ?_) (fun c9 => ?_)
      · have h := (if_pos c9).symm.trans h
        exact w_X2_parse_137 l a_this a_text a_d a_n a_power a_limbs c_text c_d c_n c_power hx hb hr hml hown hws hlocks hA  v_thrown v_size v_used v_at v_text v_d v_n (upd v_power (Int32.toNatClampNeg 0) (v_n (Int32.toNatClampNeg 0))) o_r o_at o_d o_n o_power h H locs hK hP hD hS ls (lv_sub hl [0] rfl)
      · have h := (if_neg c9).symm.trans h
        refine lv_aload_n hx hb dX2_parse_81 rfl (lv_at hl 0 rfl) ?_
        refine lv_dup hx hb dX2_parse_82 rfl ?_
        refine va_get (D := (dC, dI)) (ci := 2) (v := .int v_at) (C := RX2) (T := TX2) (N := 9) hx hb hws inlX2 hown hK hP 0 rfl rfl 8 (by decide) (hws _ ww_221) (fun _ h9 => h9) rfl dX2_parse_83 ?_
        refine lv_iconst (v := 1) hx hb dX2_parse_86 (by decide) ?_
        refine lv_iadd hx hb dX2_parse_87 ?_
        refine va_put (D := (dC, dI)) (ci := 2) (v := .int (v_at + 1)) (ty := .int) (C := RX2) (T := TX2) (N := 9) hx hb hws inlX2 tyX2 tyX2_ok nmX2 hown hK hP hD hS 0 rfl rfl 8 (by decide) (hws _ ww_221) (fun _ h9 => h9) rfl (by decide +kernel) rfl rfl (Nat.le_of_ble_eq_true rfl) dX2_parse_88 (fun H locs hP hD hS => ?_)
        have hP : va_P (dC, dI) vwCl (wd_X2_parse a_this a_text a_d a_n a_power a_limbs c_text c_d c_n c_power v_thrown v_size v_used (v_at + 1) v_text v_d v_n (upd v_power (Int32.toNatClampNeg 0) (v_n (Int32.toNatClampNeg 0)))) H := hP
        have hD : va_D A (wd_X2_parse a_this a_text a_d a_n a_power a_limbs c_text c_d c_n c_power v_thrown v_size v_used (v_at + 1) v_text v_d v_n (upd v_power (Int32.toNatClampNeg 0) (v_n (Int32.toNatClampNeg 0)))) := hD
        refine lv_aload_n hx hb dX2_parse_91 rfl (lv_at hl 0 rfl) ?_
        obtain ⟨r92, hc, h⟩ := bd h
        have hPc := hP.sub (ws' := (wd_X2_isDigit a_this a_text a_d a_n a_power a_limbs c_text v_thrown v_size v_used (v_at + 1) v_text)) [0, 1] rfl
        have hDc := hD.sub (ws' := (wd_X2_isDigit a_this a_text a_d a_n a_power a_limbs c_text v_thrown v_size v_used (v_at + 1) v_text)) [0, 1] (by decide) rfl
        have hKc := hK.sub (tys' := [(c_text, .int)]) [0] rfl
        have hFc := va_free (wc := (wd_X2_isDigit a_this a_text a_d a_n a_power a_limbs c_text v_thrown v_size v_used (v_at + 1) v_text)) hD hS hA [0, 1] rfl
        refine va_calli (va_runV (As := []) (rest := []) ⟨hx, hb, hml, hown, hws⟩ (c_X2_isDigit l dC dI  a_this a_text a_d a_n a_power a_limbs c_text (Array.size H)  v_thrown v_size v_used (v_at + 1) v_text r92 hc) (cwV 0 hws (gV ww_231 ww_232 ww_233 ww_5 ww_234) rfl rfl rfl (by decide +kernel) ⟨Nat.le_of_ble_eq_true rfl, Nat.le_of_ble_eq_true rfl⟩) ⟨(fun a U g mk q => by obtain ⟨q0, q1, qP, qK, qD⟩ := q; exact ⟨q0, q1, qP, va_K.moved (u := U) (U := U.calling g mk a) (Vm.Alike.refl U.vm) qK, qD⟩), va_recv hKc hPc (ci := 2) (q0 := 0) rfl rfl, (fun U hU hW => ⟨rfl, by rw [hU], by rw [hU]; exact hPc, va_K.moved hW.alike hKc, hDc.weaken (fun _ _ _ _ => trivial)⟩)⟩ rfl rfl hl.1 rfl (lv_room (Nat.le_of_ble_eq_true rfl)) dX2_parse_92 ⟨Nat.zero_le _, Nat.zero_le _⟩) hS (fun q _ h => hFc q h) hFc (fun r9 u9 t H1 locs ht hvm hw hB hz1 hk1 hS => ?_)
        obtain ⟨hP1, hK1, hD1⟩ := hB
        rw [ht] at hP1
        subst r9
        obtain ⟨hP, hD⟩ := va_join (wr := [(a_d, .inl (c_d, 7000, .inl v_d)), (a_n, .inl (c_n, 7000, .inl v_n)), (a_power, .inl (c_power, 7000, .inl (upd v_power (Int32.toNatClampNeg 0) (v_n (Int32.toNatClampNeg 0)))))]) (w1 := (wd_X2_isDigit a_this a_text a_d a_n a_power a_limbs c_text v_thrown v_size v_used (v_at + 1) v_text)) hP hD [0, 1] [2, 3, 4] rfl rfl (by decide) (by decide) hk1 hFc hP1 hD1
        generalize H1 = H at hP hS ⊢
        have hP : va_P (dC, dI) vwCl (wd_X2_parse a_this a_text a_d a_n a_power a_limbs c_text c_d c_n c_power v_thrown v_size v_used (v_at + 1) v_text v_d v_n (upd v_power (Int32.toNatClampNeg 0) (v_n (Int32.toNatClampNeg 0)))) H := hP.sub [3, 4, 0, 1, 2] rfl
        have hD : va_D A (wd_X2_parse a_this a_text a_d a_n a_power a_limbs c_text c_d c_n c_power v_thrown v_size v_used (v_at + 1) v_text v_d v_n (upd v_power (Int32.toNatClampNeg 0) (v_n (Int32.toNatClampNeg 0)))) := hD.sub [3, 4, 0, 1, 2] (by decide) rfl
        clear hP1 hK1 hD1 hPc hDc hKc hFc hk1 hz1 ht hvm
        refine lv_if_ne (tgt := 100) hx hb dX2_parse_95 (by decide) (fun c9 => ?_) (fun c9 => ?_)
        · have h := (if_neg c9).symm.trans h
          exact w_X2_parse_100 l a_this a_text a_d a_n a_power a_limbs c_text c_d c_n c_power hx hb hr hml hown hws hlocks hA FU  v_thrown v_size v_used (v_at + 1) v_text v_d v_n (upd v_power (Int32.toNatClampNeg 0) (v_n (Int32.toNatClampNeg 0))) o_r o_at o_d o_n o_power h H locs hK hP hD hS ls (lv_sub hl [0] rfl)
        · have h := (if_pos c9).symm.trans h
          refine lv_iconst (v := 0) hx hb dX2_parse_98 (by decide) ?_
          obtain ⟨h09, h19, h29, h39, h49⟩ := rt5 h
          subst o_r
          subst o_at
          subst o_d
          subst o_n
          subst o_power
          exact W.zret hx hb hr rfl (fun t ht hW => ⟨⟨_, (), rfl, rfl, by rw [ht]; exact hP, va_K.moved hW.alike hK, hD⟩, hS.F ht⟩) hS.2.2 dX2_parse_99
    · have h := (if_neg c9).symm.trans h
      refine lv_aload_n hx hb dX2_parse_30 rfl (lv_at hl 0 rfl) ?_
      refine lv_iconst (v := 0) hx hb dX2_parse_31 (by decide) ?_
      refine lv_aload_n hx hb dX2_parse_32 rfl (lv_at hl 0 rfl) ?_
      refine va_get (D := (dC, dI)) (ci := 2) (v := .ref a_text) (C := RX2) (T := TX2) (N := 9) hx hb hws inlX2 hown hK hP 0 rfl rfl 1 (by decide) (hws _ ww_34) (fun _ h9 => h9) rfl dX2_parse_33 ?_
      refine lv_aload_n hx hb dX2_parse_36 rfl (lv_at hl 0 rfl) ?_
      refine va_get (D := (dC, dI)) (ci := 2) (v := .int v_at) (C := RX2) (T := TX2) (N := 9) hx hb hws inlX2 hown hK hP 0 rfl rfl 8 (by decide) (hws _ ww_221) (fun _ h9 => h9) rfl dX2_parse_37 ?_
      obtain ⟨hi, h⟩ := gd h
      refine va_iald hx hb hK hP 1 0 rfl rfl hi dX2_parse_40 ?_
      refine lv_bipush (v := 48) hx hb dX2_parse_41 (by decide) ?_
      refine lv_isub hx hb dX2_parse_43 ?_
      obtain ⟨⟨v_d_44, v_n_44⟩, hc, h⟩ := bd h
      dsimp only at h
      have hPc := hP.sub (ws' := (wd_X2_more a_this a_text a_d a_n a_power a_limbs c_d c_n v_thrown v_size v_used v_at v_d v_n)) [0, 2, 3] rfl
      have hDc := hD.sub (ws' := (wd_X2_more a_this a_text a_d a_n a_power a_limbs c_d c_n v_thrown v_size v_used v_at v_d v_n)) [0, 2, 3] (by decide) rfl
      have hKc := hK.sub (tys' := [(c_d, .int), (c_n, .int)]) [1, 2] rfl
      have hFc := va_free (wc := (wd_X2_more a_this a_text a_d a_n a_power a_limbs c_d c_n v_thrown v_size v_used v_at v_d v_n)) hD hS hA [0, 2, 3] rfl
      refine va_callv (va_runV (As := [.int 0, .int ((v_text (Int32.toNatClampNeg v_at)) - 48)]) (rest := []) ⟨hx, hb, hml, hown, hws⟩ (c_X2_more l dC dI  a_this a_text a_d a_n a_power a_limbs c_d c_n (Array.size H) 0 ((v_text (Int32.toNatClampNeg v_at)) - 48) v_thrown v_size v_used v_at v_d v_n v_d_44 v_n_44 hc) (cwV 2 hws (gV ww_235 ww_236 ww_237 ww_5 ww_238) rfl rfl rfl (by decide +kernel) ⟨Nat.le_of_ble_eq_true rfl, Nat.le_of_ble_eq_true rfl⟩) ⟨(fun a U g mk q => by obtain ⟨q0, q1, qP, qK, qD⟩ := q; exact ⟨q0, q1, qP, va_K.moved (u := U) (U := U.calling g mk a) (Vm.Alike.refl U.vm) qK, qD⟩), va_recv hKc hPc (ci := 2) (q0 := 0) rfl rfl, (fun U hU hW => ⟨rfl, by rw [hU], by rw [hU]; exact hPc, va_K.moved hW.alike hKc, hDc.weaken (fun _ _ _ _ => trivial)⟩)⟩ rfl rfl hl.1 rfl (lv_room (Nat.le_of_ble_eq_true rfl)) dX2_parse_44 ⟨Nat.zero_le _, Nat.zero_le _⟩) hS (fun q _ h => hFc q h) hFc (fun u9 t H1 locs ht hvm hw hB hz1 hk1 hS => ?_)
      obtain ⟨hP1, hK1, hD1⟩ := hB
      rw [ht] at hP1
      obtain ⟨hP, hD⟩ := va_join (wr := [(a_text, .inl (c_text, 400, .inl v_text)), (a_power, .inl (c_power, 7000, .inl v_power))]) (w1 := (wd_X2_more a_this a_text a_d a_n a_power a_limbs c_d c_n v_thrown v_size v_used v_at v_d_44 v_n_44)) hP hD [0, 2, 3] [1, 4] rfl rfl (by decide) (by decide) hk1 hFc hP1 hD1
      generalize H1 = H at hP hS ⊢
      have hP : va_P (dC, dI) vwCl (wd_X2_parse a_this a_text a_d a_n a_power a_limbs c_text c_d c_n c_power v_thrown v_size v_used v_at v_text v_d_44 v_n_44 v_power) H := hP.sub [2, 0, 3, 4, 1] rfl
      have hD : va_D A (wd_X2_parse a_this a_text a_d a_n a_power a_limbs c_text c_d c_n c_power v_thrown v_size v_used v_at v_text v_d_44 v_n_44 v_power) := hD.sub [2, 0, 3, 4, 1] (by decide) rfl
      clear hP1 hK1 hD1 hPc hDc hKc hFc hk1 hz1 ht hvm
      refine lv_aload_n hx hb dX2_parse_47 rfl (lv_at hl 0 rfl) ?_
      refine lv_dup hx hb dX2_parse_48 rfl ?_
      refine va_get (D := (dC, dI)) (ci := 2) (v := .int v_at) (C := RX2) (T := TX2) (N := 9) hx hb hws inlX2 hown hK hP 0 rfl rfl 8 (by decide) (hws _ ww_221) (fun _ h9 => h9) rfl dX2_parse_49 ?_
      refine lv_iconst (v := 1) hx hb dX2_parse_52 (by decide) ?_
      refine lv_iadd hx hb dX2_parse_53 ?_
      refine va_put (D := (dC, dI)) (ci := 2) (v := .int (v_at + 1)) (ty := .int) (C := RX2) (T := TX2) (N := 9) hx hb hws inlX2 tyX2 tyX2_ok nmX2 hown hK hP hD hS 0 rfl rfl 8 (by decide) (hws _ ww_221) (fun _ h9 => h9) rfl (by decide +kernel) rfl rfl (Nat.le_of_ble_eq_true rfl) dX2_parse_54 (fun H locs hP hD hS => ?_)
      have hP : va_P (dC, dI) vwCl (wd_X2_parse a_this a_text a_d a_n a_power a_limbs c_text c_d c_n c_power v_thrown v_size v_used (v_at + 1) v_text v_d_44 v_n_44 v_power) H := hP
      have hD : va_D A (wd_X2_parse a_this a_text a_d a_n a_power a_limbs c_text c_d c_n c_power v_thrown v_size v_used (v_at + 1) v_text v_d_44 v_n_44 v_power) := hD
      refine lv_goto (tgt := 23) hx hb dX2_parse_57 (by decide) ?_
      exact ih  v_thrown v_size v_used (v_at + 1) v_text v_d_44 v_n_44 v_power o_r o_at o_d o_n o_power h H locs hK hP hD hS ls (lv_sub hl [0] rfl)
set_option maxHeartbeats 4000000 in
set_option maxRecDepth 100000 in
theorem c_X2_parse (l : Launch) (dC : Nat → ClassId) (dI : Nat → Nat → Nat)  (a_this a_text a_d a_n a_power a_limbs : Nat) (c_text c_d c_n c_power : ClassId) (sz : Nat)  (v_thrown : Int32) (v_size : Int32) (v_used : Int32) (v_at : Int32) (v_text : Nat → Int32) (v_d : Nat → Int32) (v_n : Nat → Int32) (v_power : Nat → Int32) (o_r : Int32) (o_at : Int32) (o_d : Nat → Int32) (o_n : Nat → Int32) (o_power : Nat → Int32) (h : f_X2_parse v_size v_at v_text v_d v_n v_power = some (o_r, o_at, o_d, o_n, o_power)) : Met l yX2_parse w_X2_parse ({ frames := 1, cells := 0, slots := 0, locals := 23 } : Room) (va_Pc [.ref a_this] (fun U => U.heap.size = sz ∧ va_P (dC, dI) vwCl (wd_X2_parse a_this a_text a_d a_n a_power a_limbs c_text c_d c_n c_power v_thrown v_size v_used v_at v_text v_d v_n v_power) U.heap ∧ va_K (dC, dI) vwCl [(c_text, .int), (c_d, .int), (c_n, .int), (c_power, .int)] U ∧ va_D (fun _ => True) (wd_X2_parse a_this a_text a_d a_n a_power a_limbs c_text c_d c_n c_power v_thrown v_size v_used v_at v_text v_d v_n v_power))) (va_Qi (fun r9 (_ : Unit) => r9 = o_r) (fun (_ : Unit) t => va_P (dC, dI) vwCl (wd_X2_parse a_this a_text a_d a_n a_power a_limbs c_text c_d c_n c_power v_thrown v_size v_used o_at v_text o_d o_n o_power) t.heap ∧ va_K (dC, dI) vwCl [(c_text, .int), (c_d, .int), (c_n, .int), (c_power, .int)] t ∧ va_D (va_A (wd_X2_parse a_this a_text a_d a_n a_power a_limbs c_text c_d c_n c_power v_thrown v_size v_used v_at v_text v_d v_n v_power) sz) (wd_X2_parse a_this a_text a_d a_n a_power a_limbs c_text c_d c_n c_power v_thrown v_size v_used o_at v_text o_d o_n o_power)) (va_A (wd_X2_parse a_this a_text a_d a_n a_power a_limbs c_text c_d c_n c_power v_thrown v_size v_used v_at v_text v_d v_n v_power) sz)) 0 0 (va_A (wd_X2_parse a_this a_text a_d a_n a_power a_limbs c_text c_d c_n c_power v_thrown v_size v_used v_at v_text v_d v_n v_power) sz) := by
  refine Met.ofW (cc := cX2_parse) (maxL := 4) (ret := (some .boolean)) (by decide) rfl ?_
  intro p e s m args below meth c s₁ B hml hv
  obtain ⟨rfl, hsz, hP, hK, hD0⟩ := hv
  have hx := B.exec
  have hb := B.bytes
  have hr := B.returns
  have hws : ∀ w ∈ wsL_law, w.before _ s = true := fun w hw => atoms_spec (ws := w_X2_parse) B.pre w (List.mem_cons_of_mem _ hw)
  have hown : s.vm.findClass RX2 = some m.cls := findClass_of_methodNamed B.named
  have hlocks := B.notSynchronized
  subst hsz
  have hD := hD0.self (sz := s.heap.size)
  generalize hAe : va_A (wd_X2_parse a_this a_text a_d a_n a_power a_limbs c_text c_d c_n c_power v_thrown v_size v_used v_at v_text v_d v_n v_power) s.heap.size = A at hD ⊢
  have hA : ∀ q : Nat, s.heap.size ≤ q → A q := fun q h => by rw [← hAe]; exact Or.inr h
  have hS : va_S A s.heap s.heap [] := va_S.rf
  have hl := lv_entry ([.ref a_this]) (n := 4) (Nat.le_of_ble_eq_true rfl)
  rw [lg_entry_eq]
  generalize (lg_sl ([.ref a_this]) ++ List.replicate (4 - (lg_sl ([.ref a_this])).length) Slot.unset).toArray = ls at hl ⊢
  have hl : lv_has ls 4 [(0, .ref a_this)] := hl
  unfold f_X2_parse at h
  refine lv_aload_n hx hb dX2_parse_0 rfl (lv_at hl 0 rfl) ?_
  refine va_get (D := (dC, dI)) (ci := 2) (v := .ref a_n) (C := RX2) (T := TX2) (N := 9) hx hb hws inlX2 hown hK hP 0 rfl rfl 4 (by decide) (hws _ ww_36) (fun _ h9 => h9) rfl dX2_parse_1 ?_
  refine lv_iconst (v := 0) hx hb dX2_parse_4 (by decide) ?_
  refine lv_iconst (v := 0) hx hb dX2_parse_5 (by decide) ?_
  have hi : vp_in 0 7000 := by unfold vp_in; decide +kernel
  refine va_iast hx hb hK hP hD hS 3 2 rfl rfl hi dX2_parse_6 (fun H locs hP hD hS => ?_)
  have hP : va_P (dC, dI) vwCl (wd_X2_parse a_this a_text a_d a_n a_power a_limbs c_text c_d c_n c_power v_thrown v_size v_used v_at v_text v_d (upd v_n (Int32.toNatClampNeg 0) 0) v_power) H := hP
  have hD : va_D A (wd_X2_parse a_this a_text a_d a_n a_power a_limbs c_text c_d c_n c_power v_thrown v_size v_used v_at v_text v_d (upd v_n (Int32.toNatClampNeg 0) 0) v_power) := hD
  refine lv_aload_n hx hb dX2_parse_7 rfl (lv_at hl 0 rfl) ?_
  refine va_get (D := (dC, dI)) (ci := 2) (v := .ref a_power) (C := RX2) (T := TX2) (N := 9) hx hb hws inlX2 hown hK hP 0 rfl rfl 5 (by decide) (hws _ ww_37) (fun _ h9 => h9) rfl dX2_parse_8 ?_
  refine lv_iconst (v := 0) hx hb dX2_parse_11 (by decide) ?_
  refine lv_iconst (v := 0) hx hb dX2_parse_12 (by decide) ?_
  have hi : vp_in 0 7000 := by unfold vp_in; decide +kernel
  refine va_iast hx hb hK hP hD hS 4 3 rfl rfl hi dX2_parse_13 (fun H locs hP hD hS => ?_)
  have hP : va_P (dC, dI) vwCl (wd_X2_parse a_this a_text a_d a_n a_power a_limbs c_text c_d c_n c_power v_thrown v_size v_used v_at v_text v_d (upd v_n (Int32.toNatClampNeg 0) 0) (upd v_power (Int32.toNatClampNeg 0) 0)) H := hP
  have hD : va_D A (wd_X2_parse a_this a_text a_d a_n a_power a_limbs c_text c_d c_n c_power v_thrown v_size v_used v_at v_text v_d (upd v_n (Int32.toNatClampNeg 0) 0) (upd v_power (Int32.toNatClampNeg 0) 0)) := hD
  refine lv_aload_n hx hb dX2_parse_14 rfl (lv_at hl 0 rfl) ?_
  obtain ⟨r15, hc, h⟩ := bd h
  have hPc := hP.sub (ws' := (wd_X2_isDigit a_this a_text a_d a_n a_power a_limbs c_text v_thrown v_size v_used v_at v_text)) [0, 1] rfl
  have hDc := hD.sub (ws' := (wd_X2_isDigit a_this a_text a_d a_n a_power a_limbs c_text v_thrown v_size v_used v_at v_text)) [0, 1] (by decide) rfl
  have hKc := hK.sub (tys' := [(c_text, .int)]) [0] rfl
  have hFc := va_free (wc := (wd_X2_isDigit a_this a_text a_d a_n a_power a_limbs c_text v_thrown v_size v_used v_at v_text)) hD hS hA [0, 1] rfl
  refine va_calli (va_runV (As := []) (rest := []) ⟨hx, hb, hml, hown, hws⟩ (c_X2_isDigit l dC dI  a_this a_text a_d a_n a_power a_limbs c_text (Array.size H)  v_thrown v_size v_used v_at v_text r15 hc) (cwV 0 hws (gV ww_231 ww_232 ww_233 ww_5 ww_234) rfl rfl rfl (by decide +kernel) ⟨Nat.le_of_ble_eq_true rfl, Nat.le_of_ble_eq_true rfl⟩) ⟨(fun a U g mk q => by obtain ⟨q0, q1, qP, qK, qD⟩ := q; exact ⟨q0, q1, qP, va_K.moved (u := U) (U := U.calling g mk a) (Vm.Alike.refl U.vm) qK, qD⟩), va_recv hKc hPc (ci := 2) (q0 := 0) rfl rfl, (fun U hU hW => ⟨rfl, by rw [hU], by rw [hU]; exact hPc, va_K.moved hW.alike hKc, hDc.weaken (fun _ _ _ _ => trivial)⟩)⟩ rfl rfl hl.1 rfl (lv_room (Nat.le_of_ble_eq_true rfl)) dX2_parse_15 ⟨Nat.zero_le _, Nat.zero_le _⟩) hS (fun q _ h => hFc q h) hFc (fun r9 u9 t H1 locs ht hvm hw hB hz1 hk1 hS => ?_)
  obtain ⟨hP1, hK1, hD1⟩ := hB
  rw [ht] at hP1
  subst r9
  obtain ⟨hP, hD⟩ := va_join (wr := [(a_d, .inl (c_d, 7000, .inl v_d)), (a_n, .inl (c_n, 7000, .inl (upd v_n (Int32.toNatClampNeg 0) 0))), (a_power, .inl (c_power, 7000, .inl (upd v_power (Int32.toNatClampNeg 0) 0)))]) (w1 := (wd_X2_isDigit a_this a_text a_d a_n a_power a_limbs c_text v_thrown v_size v_used v_at v_text)) hP hD [0, 1] [2, 3, 4] rfl rfl (by decide) (by decide) hk1 hFc hP1 hD1
  generalize H1 = H at hP hS ⊢
  have hP : va_P (dC, dI) vwCl (wd_X2_parse a_this a_text a_d a_n a_power a_limbs c_text c_d c_n c_power v_thrown v_size v_used v_at v_text v_d (upd v_n (Int32.toNatClampNeg 0) 0) (upd v_power (Int32.toNatClampNeg 0) 0)) H := hP.sub [3, 4, 0, 1, 2] rfl
  have hD : va_D A (wd_X2_parse a_this a_text a_d a_n a_power a_limbs c_text c_d c_n c_power v_thrown v_size v_used v_at v_text v_d (upd v_n (Int32.toNatClampNeg 0) 0) (upd v_power (Int32.toNatClampNeg 0) 0)) := hD.sub [3, 4, 0, 1, 2] (by decide) rfl
  clear hP1 hK1 hD1 hPc hDc hKc hFc hk1 hz1 ht hvm
  refine lv_if_ne (tgt := 23) hx hb dX2_parse_18 (by decide) (fun c9 => ?_) (fun c9 => ?_)
  · have h := (if_neg c9).symm.trans h
    exact w_X2_parse_23 l a_this a_text a_d a_n a_power a_limbs c_text c_d c_n c_power hx hb hr hml hown hws hlocks hA FU  v_thrown v_size v_used v_at v_text v_d (upd v_n (Int32.toNatClampNeg 0) 0) (upd v_power (Int32.toNatClampNeg 0) 0) o_r o_at o_d o_n o_power h H locs hK hP hD hS ls (lv_sub hl [0] rfl)
  · have h := (if_pos c9).symm.trans h
    refine lv_iconst (v := 0) hx hb dX2_parse_21 (by decide) ?_
    obtain ⟨h09, h19, h29, h39, h49⟩ := rt5 h
    subst o_r
    subst o_at
    subst o_d
    subst o_n
    subst o_power
    exact W.zret hx hb hr rfl (fun t ht hW => ⟨⟨_, (), rfl, rfl, by rw [ht]; exact hP, va_K.moved hW.alike hK, hD⟩, hS.F ht⟩) hS.2.2 dX2_parse_22
