set_option maxHeartbeats 4000000 in
set_option maxRecDepth 100000 in
theorem w_X2_shortest_308 (l : Launch) {p : Program} {e : Env} {s : State} {m : MethodId} {args : Array Value} {below : List Frame} {meth : Method} {c : Code} {A : Nat → Prop} {dC : Nat → ClassId} {dI : Nat → Nat → Nat} (a_this a_text a_d a_n a_power a_limbs : Nat) (c_text c_d c_n c_power c_limbs : ClassId) (hx : p.tables.exec = Jvm.exec) (hb : c.code = cX2_shortest) (hr : meth.sig.returnType = (some .int)) (hml : c.maxLocals = 10) (hown : s.vm.findClass RX2 = some m.cls) (hws : ∀ w ∈ wsL_law, w.before args s = true) (hlocks : meth.locks = false) (hA : ∀ q : Nat, s.heap.size ≤ q → A q) : ∀ (n : Nat) (l8 : Int32) (l9 : Int32) (v_thrown : Int32) (v_size : Int32) (v_used : Int32) (v_at : Int32) (v_text : Nat → Int32) (v_d : Nat → Int32) (v_n : Nat → Int32) (v_power : Nat → Int32) (v_limbs : Nat → Int64) (o_r : Int32) (o_thrown : Int32) (o_size : Int32) (o_used : Int32) (o_text : Nat → Int32) (o_d : Nat → Int32) (o_n : Nat → Int32) (o_power : Nat → Int32) (o_limbs : Nat → Int64), f_X2_shortest_L308 n l8 l9 v_thrown v_size v_used v_text v_d v_n v_power v_limbs = some (o_r, o_thrown, o_size, o_used, o_text, o_d, o_n, o_power, o_limbs) → ∀ (H : Heap) (locs : List Loc), va_K (dC, dI) vwCl [(c_text, .int), (c_d, .int), (c_n, .int), (c_power, .int), (c_limbs, .long)] s → va_P (dC, dI) vwCl (wd_X2_shortest a_this a_text a_d a_n a_power a_limbs c_text c_d c_n c_power c_limbs v_thrown v_size v_used v_at v_text v_d v_n v_power v_limbs) H → va_D A (wd_X2_shortest a_this a_text a_d a_n a_power a_limbs c_text c_d c_n c_power c_limbs v_thrown v_size v_used v_at v_text v_d v_n v_power v_limbs) → va_S A s.heap H locs → ∀ (ls : Array Slot), lv_has ls 10 [(0, .ref a_this), (8, .int l8), (9, .int l9)] → W p l e (headSpec (w_X2_shortest) ({ frames := 3, cells := 0, slots := 0, locals := 75 } : Room)).room s m args below meth c H locs 0 0 (MQ below (va_Qi (fun r9 (_ : Unit) => r9 = o_r) (fun (_ : Unit) t => va_P (dC, dI) vwCl (wd_X2_shortest a_this a_text a_d a_n a_power a_limbs c_text c_d c_n c_power c_limbs o_thrown o_size o_used v_at o_text o_d o_n o_power o_limbs) t.heap ∧ va_K (dC, dI) vwCl [(c_text, .int), (c_d, .int), (c_n, .int), (c_power, .int), (c_limbs, .long)] t ∧ va_D A (wd_X2_shortest a_this a_text a_d a_n a_power a_limbs c_text c_d c_n c_power c_limbs o_thrown o_size o_used v_at o_text o_d o_n o_power o_limbs)) A) args s 0 0 A) (F0 m 308 ls []) := by
  intro n
  induction n with
  | zero =>
    intro l8 l9 v_thrown v_size v_used v_at v_text v_d v_n v_power v_limbs o_r o_thrown o_size o_used o_text o_d o_n o_power o_limbs h H locs hK hP hD hS ls hl
    exact absurd h (by simp [f_X2_shortest_L308])
  | succ n ih =>
    intro l8 l9 v_thrown v_size v_used v_at v_text v_d v_n v_power v_limbs o_r o_thrown o_size o_used o_text o_d o_n o_power o_limbs h H locs hK hP hD hS ls hl
    unfold f_X2_shortest_L308 at h
    refine lv_iload hx hb dX2_shortest_308 (lv_at hl 2 rfl) ?_
    refine lv_if_le (tgt := 351) hx hb dX2_shortest_310 (by decide) (fun c9 => ?_) (fun c9 => ?_)
    · have h := (if_pos c9).symm.trans h
      refine lv_aload_n hx hb dX2_shortest_351 rfl (lv_at hl 0 rfl) ?_
      refine va_get (D := (dC, dI)) (ci := 2) (v := .int v_size) (C := RX2) (T := TX2) (N := 9) hx hb hws inlX2 hown hK hP 0 rfl rfl 2 (by decide) (hws _ ww_49) (fun _ h9 => h9) rfl dX2_shortest_352 ?_
      obtain ⟨h09, h19, h29, h39, h49, h59, h69, h79, h89⟩ := rt9 h
      subst o_r
      subst o_thrown
      subst o_size
      subst o_used
      subst o_text
      subst o_d
      subst o_n
      subst o_power
      subst o_limbs
      exact W.iret hx hb hr (fun t ht hW => ⟨⟨_, (), rfl, rfl, by rw [ht]; exact hP, va_K.moved hW.alike hK, hD⟩, hS.F ht⟩) hS.2.2 dX2_shortest_355
    · have h := (if_neg c9).symm.trans h
      refine lv_iload hx hb dX2_shortest_313 (lv_at hl 1 rfl) ?_
      refine lv_iload hx hb dX2_shortest_315 (lv_at hl 2 rfl) ?_
      refine lv_icmp_ge (tgt := 326) hx hb dX2_shortest_317 (by decide) (fun c9 => ?_) (fun c9 => ?_)
      · have h := (if_pos c9).symm.trans h
        refine lv_aload_n hx hb dX2_shortest_326 rfl (lv_at hl 0 rfl) ?_
        refine lv_bipush (v := 48) hx hb dX2_shortest_327 (by decide) ?_
        refine lv_iload hx hb dX2_shortest_329 (lv_at hl 1 rfl) ?_
        refine lv_iload hx hb dX2_shortest_331 (lv_at hl 2 rfl) ?_
        obtain ⟨hz, h⟩ := gd h
        refine lv_idiv hx hb dX2_shortest_333 hz ?_
        refine lv_bipush (v := 10) hx hb dX2_shortest_334 (by decide) ?_
        refine lv_irem hx hb dX2_shortest_336 (by decide) ?_
        refine lv_iadd hx hb dX2_shortest_337 ?_
        obtain ⟨⟨v_size_338, v_text_338⟩, hc, h⟩ := bd h
        dsimp only at h
        have hPc := hP.sub (ws' := (wd_X2_put a_this a_text a_d a_n a_power a_limbs c_text v_thrown v_size v_used v_at v_text)) [0, 1] rfl
        have hDc := hD.sub (ws' := (wd_X2_put a_this a_text a_d a_n a_power a_limbs c_text v_thrown v_size v_used v_at v_text)) [0, 1] (by decide) rfl
        have hKc := hK.sub (tys' := [(c_text, .int)]) [0] rfl
        have hFc := va_free (wc := (wd_X2_put a_this a_text a_d a_n a_power a_limbs c_text v_thrown v_size v_used v_at v_text)) hD hS hA [0, 1] rfl
        refine va_callv (va_runV (As := [.int (48 + ((l8 / l9) - (l8 / l9) / 10 * 10))]) (rest := []) ⟨hx, hb, hml, hown, hws⟩ (c_X2_put l dC dI  a_this a_text a_d a_n a_power a_limbs c_text (Array.size H) (48 + ((l8 / l9) - (l8 / l9) / 10 * 10)) v_thrown v_size v_used v_at v_text v_size_338 v_text_338 hc) (cwV 1 hws (gV ww_335 ww_336 ww_337 ww_5 ww_338) rfl rfl rfl (by decide +kernel) ⟨Nat.le_of_ble_eq_true rfl, Nat.le_of_ble_eq_true rfl⟩) ⟨(fun a U g mk q => by obtain ⟨q0, q1, qP, qK, qD⟩ := q; exact ⟨q0, q1, qP, va_K.moved (u := U) (U := U.calling g mk a) (Vm.Alike.refl U.vm) qK, qD⟩), va_recv hKc hPc (ci := 2) (q0 := 0) rfl rfl, (fun U hU hW => ⟨rfl, by rw [hU], by rw [hU]; exact hPc, va_K.moved hW.alike hKc, hDc.weaken (fun _ _ _ _ => trivial)⟩)⟩ rfl rfl hl.1 rfl (lv_room (Nat.le_of_ble_eq_true rfl)) dX2_shortest_338 ⟨Nat.zero_le _, Nat.zero_le _⟩) hS (fun q _ h => hFc q h) hFc (fun u9 t H1 locs ht hvm hw hB hz1 hk1 hS => ?_)
        obtain ⟨hP1, hK1, hD1⟩ := hB
        rw [ht] at hP1
        obtain ⟨hP, hD⟩ := va_join (wr := [(a_d, .inl (c_d, 7000, .inl v_d)), (a_n, .inl (c_n, 7000, .inl v_n)), (a_power, .inl (c_power, 7000, .inl v_power)), (a_limbs, .inl (c_limbs, 160, .inr (.inl v_limbs)))]) (w1 := (wd_X2_put a_this a_text a_d a_n a_power a_limbs c_text v_thrown v_size_338 v_used v_at v_text_338)) hP hD [0, 1] [2, 3, 4, 5] rfl rfl (by decide) (by decide) hk1 hFc hP1 hD1
        generalize H1 = H at hP hS ⊢
        have hP : va_P (dC, dI) vwCl (wd_X2_shortest a_this a_text a_d a_n a_power a_limbs c_text c_d c_n c_power c_limbs v_thrown v_size_338 v_used v_at v_text_338 v_d v_n v_power v_limbs) H := hP.sub [4, 5, 0, 1, 2, 3] rfl
        have hD : va_D A (wd_X2_shortest a_this a_text a_d a_n a_power a_limbs c_text c_d c_n c_power c_limbs v_thrown v_size_338 v_used v_at v_text_338 v_d v_n v_power v_limbs) := hD.sub [4, 5, 0, 1, 2, 3] (by decide) rfl
        clear hP1 hK1 hD1 hPc hDc hKc hFc hk1 hz1 ht hvm
        refine lv_iload hx hb dX2_shortest_341 (lv_at hl 2 rfl) ?_
        refine lv_bipush (v := 10) hx hb dX2_shortest_343 (by decide) ?_
        refine lv_idiv hx hb dX2_shortest_345 (by decide) ?_
        refine lv_istore (lv' := [(9, .int (l9 / 10)), (0, .ref a_this), (8, .int l8)]) hx hb dX2_shortest_346 hl (by decide) rfl (fun ls hl => ?_)
        refine lv_goto (tgt := 308) hx hb dX2_shortest_348 (by decide) ?_
        exact ih l8 (l9 / 10) v_thrown v_size_338 v_used v_at v_text_338 v_d v_n v_power v_limbs o_r o_thrown o_size o_used o_text o_d o_n o_power o_limbs h H locs hK hP hD hS ls (lv_sub hl [1, 2, 0] rfl)
      · have h := (if_neg c9).symm.trans h
        refine lv_iload hx hb dX2_shortest_320 (lv_at hl 2 rfl) ?_
        refine lv_iconst (v := 1) hx hb dX2_shortest_322 (by decide) ?_
        refine lv_icmp_ne (tgt := 341) hx hb dX2_shortest_323 (by decide) (fun c9 => ?_) (fun c9 => ?_)
        · have h := (if_neg c9).symm.trans h
          refine lv_iload hx hb dX2_shortest_341 (lv_at hl 2 rfl) ?_
          refine lv_bipush (v := 10) hx hb dX2_shortest_343 (by decide) ?_
          refine lv_idiv hx hb dX2_shortest_345 (by decide) ?_
          refine lv_istore (lv' := [(9, .int (l9 / 10)), (0, .ref a_this), (8, .int l8)]) hx hb dX2_shortest_346 hl (by decide) rfl (fun ls hl => ?_)
          refine lv_goto (tgt := 308) hx hb dX2_shortest_348 (by decide) ?_
          exact ih l8 (l9 / 10) v_thrown v_size v_used v_at v_text v_d v_n v_power v_limbs o_r o_thrown o_size o_used o_text o_d o_n o_power o_limbs h H locs hK hP hD hS ls (lv_sub hl [1, 2, 0] rfl)
        · have h := (if_pos c9).symm.trans h
          refine lv_aload_n hx hb dX2_shortest_326 rfl (lv_at hl 0 rfl) ?_
          refine lv_bipush (v := 48) hx hb dX2_shortest_327 (by decide) ?_
          refine lv_iload hx hb dX2_shortest_329 (lv_at hl 1 rfl) ?_
          refine lv_iload hx hb dX2_shortest_331 (lv_at hl 2 rfl) ?_
          obtain ⟨hz, h⟩ := gd h
          refine lv_idiv hx hb dX2_shortest_333 hz ?_
          refine lv_bipush (v := 10) hx hb dX2_shortest_334 (by decide) ?_
          refine lv_irem hx hb dX2_shortest_336 (by decide) ?_
          refine lv_iadd hx hb dX2_shortest_337 ?_
          obtain ⟨⟨v_size_338, v_text_338⟩, hc, h⟩ := bd h
          dsimp only at h
          have hPc := hP.sub (ws' := (wd_X2_put a_this a_text a_d a_n a_power a_limbs c_text v_thrown v_size v_used v_at v_text)) [0, 1] rfl
          have hDc := hD.sub (ws' := (wd_X2_put a_this a_text a_d a_n a_power a_limbs c_text v_thrown v_size v_used v_at v_text)) [0, 1] (by decide) rfl
          have hKc := hK.sub (tys' := [(c_text, .int)]) [0] rfl
          have hFc := va_free (wc := (wd_X2_put a_this a_text a_d a_n a_power a_limbs c_text v_thrown v_size v_used v_at v_text)) hD hS hA [0, 1] rfl
          refine va_callv (va_runV (As := [.int (48 + ((l8 / l9) - (l8 / l9) / 10 * 10))]) (rest := []) ⟨hx, hb, hml, hown, hws⟩ (c_X2_put l dC dI  a_this a_text a_d a_n a_power a_limbs c_text (Array.size H) (48 + ((l8 / l9) - (l8 / l9) / 10 * 10)) v_thrown v_size v_used v_at v_text v_size_338 v_text_338 hc) (cwV 1 hws (gV ww_335 ww_336 ww_337 ww_5 ww_338) rfl rfl rfl (by decide +kernel) ⟨Nat.le_of_ble_eq_true rfl, Nat.le_of_ble_eq_true rfl⟩) ⟨(fun a U g mk q => by obtain ⟨q0, q1, qP, qK, qD⟩ := q; exact ⟨q0, q1, qP, va_K.moved (u := U) (U := U.calling g mk a) (Vm.Alike.refl U.vm) qK, qD⟩), va_recv hKc hPc (ci := 2) (q0 := 0) rfl rfl, (fun U hU hW => ⟨rfl, by rw [hU], by rw [hU]; exact hPc, va_K.moved hW.alike hKc, hDc.weaken (fun _ _ _ _ => trivial)⟩)⟩ rfl rfl hl.1 rfl (lv_room (Nat.le_of_ble_eq_true rfl)) dX2_shortest_338 ⟨Nat.zero_le _, Nat.zero_le _⟩) hS (fun q _ h => hFc q h) hFc (fun u9 t H1 locs ht hvm hw hB hz1 hk1 hS => ?_)
          obtain ⟨hP1, hK1, hD1⟩ := hB
          rw [ht] at hP1
          obtain ⟨hP, hD⟩ := va_join (wr := [(a_d, .inl (c_d, 7000, .inl v_d)), (a_n, .inl (c_n, 7000, .inl v_n)), (a_power, .inl (c_power, 7000, .inl v_power)), (a_limbs, .inl (c_limbs, 160, .inr (.inl v_limbs)))]) (w1 := (wd_X2_put a_this a_text a_d a_n a_power a_limbs c_text v_thrown v_size_338 v_used v_at v_text_338)) hP hD [0, 1] [2, 3, 4, 5] rfl rfl (by decide) (by decide) hk1 hFc hP1 hD1
          generalize H1 = H at hP hS ⊢
          have hP : va_P (dC, dI) vwCl (wd_X2_shortest a_this a_text a_d a_n a_power a_limbs c_text c_d c_n c_power c_limbs v_thrown v_size_338 v_used v_at v_text_338 v_d v_n v_power v_limbs) H := hP.sub [4, 5, 0, 1, 2, 3] rfl
          have hD : va_D A (wd_X2_shortest a_this a_text a_d a_n a_power a_limbs c_text c_d c_n c_power c_limbs v_thrown v_size_338 v_used v_at v_text_338 v_d v_n v_power v_limbs) := hD.sub [4, 5, 0, 1, 2, 3] (by decide) rfl
          clear hP1 hK1 hD1 hPc hDc hKc hFc hk1 hz1 ht hvm
          refine lv_iload hx hb dX2_shortest_341 (lv_at hl 2 rfl) ?_
          refine lv_bipush (v := 10) hx hb dX2_shortest_343 (by decide) ?_
          refine lv_idiv hx hb dX2_shortest_345 (by decide) ?_
          refine lv_istore (lv' := [(9, .int (l9 / 10)), (0, .ref a_this), (8, .int l8)]) hx hb dX2_shortest_346 hl (by decide) rfl (fun ls hl => ?_)
          refine lv_goto (tgt := 308) hx hb dX2_shortest_348 (by decide) ?_
          exact ih l8 (l9 / 10) v_thrown v_size_338 v_used v_at v_text_338 v_d v_n v_power v_limbs o_r o_thrown o_size o_used o_text o_d o_n o_power o_limbs h H locs hK hP hD hS ls (lv_sub hl [1, 2, 0] rfl)
set_option maxHeartbeats 4000000 in
set_option maxRecDepth 100000 in
theorem w_X2_shortest_289 (l : Launch) {p : Program} {e : Env} {s : State} {m : MethodId} {args : Array Value} {below : List Frame} {meth : Method} {c : Code} {A : Nat → Prop} {dC : Nat → ClassId} {dI : Nat → Nat → Nat} (a_this a_text a_d a_n a_power a_limbs : Nat) (c_text c_d c_n c_power c_limbs : ClassId) (hx : p.tables.exec = Jvm.exec) (hb : c.code = cX2_shortest) (hr : meth.sig.returnType = (some .int)) (hml : c.maxLocals = 10) (hown : s.vm.findClass RX2 = some m.cls) (hws : ∀ w ∈ wsL_law, w.before args s = true) (hlocks : meth.locks = false) (hA : ∀ q : Nat, s.heap.size ≤ q → A q) : ∀ (l7 : Int32) (v_thrown : Int32) (v_size : Int32) (v_used : Int32) (v_at : Int32) (v_text : Nat → Int32) (v_d : Nat → Int32) (v_n : Nat → Int32) (v_power : Nat → Int32) (v_limbs : Nat → Int64) (o_r : Int32) (o_thrown : Int32) (o_size : Int32) (o_used : Int32) (o_text : Nat → Int32) (o_d : Nat → Int32) (o_n : Nat → Int32) (o_power : Nat → Int32) (o_limbs : Nat → Int64), f_X2_shortest_b289 l7 v_thrown v_size v_used v_text v_d v_n v_power v_limbs = some (o_r, o_thrown, o_size, o_used, o_text, o_d, o_n, o_power, o_limbs) → ∀ (H : Heap) (locs : List Loc), va_K (dC, dI) vwCl [(c_text, .int), (c_d, .int), (c_n, .int), (c_power, .int), (c_limbs, .long)] s → va_P (dC, dI) vwCl (wd_X2_shortest a_this a_text a_d a_n a_power a_limbs c_text c_d c_n c_power c_limbs v_thrown v_size v_used v_at v_text v_d v_n v_power v_limbs) H → va_D A (wd_X2_shortest a_this a_text a_d a_n a_power a_limbs c_text c_d c_n c_power c_limbs v_thrown v_size v_used v_at v_text v_d v_n v_power v_limbs) → va_S A s.heap H locs → ∀ (ls : Array Slot), lv_has ls 10 [(0, .ref a_this), (7, .int l7)] → W p l e (headSpec (w_X2_shortest) ({ frames := 3, cells := 0, slots := 0, locals := 75 } : Room)).room s m args below meth c H locs 0 0 (MQ below (va_Qi (fun r9 (_ : Unit) => r9 = o_r) (fun (_ : Unit) t => va_P (dC, dI) vwCl (wd_X2_shortest a_this a_text a_d a_n a_power a_limbs c_text c_d c_n c_power c_limbs o_thrown o_size o_used v_at o_text o_d o_n o_power o_limbs) t.heap ∧ va_K (dC, dI) vwCl [(c_text, .int), (c_d, .int), (c_n, .int), (c_power, .int), (c_limbs, .long)] t ∧ va_D A (wd_X2_shortest a_this a_text a_d a_n a_power a_limbs c_text c_d c_n c_power c_limbs o_thrown o_size o_used v_at o_text o_d o_n o_power o_limbs)) A) args s 0 0 A) (F0 m 289 ls []) := by
  intro l7 v_thrown v_size v_used v_at v_text v_d v_n v_power v_limbs o_r o_thrown o_size o_used o_text o_d o_n o_power o_limbs h H locs hK hP hD hS ls hl
  unfold f_X2_shortest_b289 at h
  refine lv_iload hx hb dX2_shortest_289 (lv_at hl 1 rfl) ?_
  refine lv_if_ge (tgt := 300) hx hb dX2_shortest_291 (by decide) (fun c9 => ?_) (fun c9 => ?_)
  · have h := (if_pos c9).symm.trans h
    refine lv_iload hx hb dX2_shortest_300 (lv_at hl 1 rfl) ?_
    refine lv_istore (lv' := [(8, .int l7), (0, .ref a_this), (7, .int l7)]) hx hb dX2_shortest_302 hl (by decide) rfl (fun ls hl => ?_)
    refine lv_bipush (v := 100) hx hb dX2_shortest_304 (by decide) ?_
    refine lv_istore (lv' := [(9, .int 100), (8, .int l7), (0, .ref a_this), (7, .int l7)]) hx hb dX2_shortest_306 hl (by decide) rfl (fun ls hl => ?_)
    exact w_X2_shortest_308 l a_this a_text a_d a_n a_power a_limbs c_text c_d c_n c_power c_limbs hx hb hr hml hown hws hlocks hA FU l7 100 v_thrown v_size v_used v_at v_text v_d v_n v_power v_limbs o_r o_thrown o_size o_used o_text o_d o_n o_power o_limbs h H locs hK hP hD hS ls (lv_sub hl [2, 1, 0] rfl)
  · have h := (if_neg c9).symm.trans h
    refine lv_iload hx hb dX2_shortest_294 (lv_at hl 1 rfl) ?_
    refine lv_ineg hx hb dX2_shortest_296 ?_
    refine lv_goto (tgt := 302) hx hb dX2_shortest_297 (by decide) ?_
    refine lv_istore (lv' := [(8, .int (-l7)), (0, .ref a_this), (7, .int l7)]) hx hb dX2_shortest_302 hl (by decide) rfl (fun ls hl => ?_)
    refine lv_bipush (v := 100) hx hb dX2_shortest_304 (by decide) ?_
    refine lv_istore (lv' := [(9, .int 100), (8, .int (-l7)), (0, .ref a_this), (7, .int l7)]) hx hb dX2_shortest_306 hl (by decide) rfl (fun ls hl => ?_)
    exact w_X2_shortest_308 l a_this a_text a_d a_n a_power a_limbs c_text c_d c_n c_power c_limbs hx hb hr hml hown hws hlocks hA FU (-l7) 100 v_thrown v_size v_used v_at v_text v_d v_n v_power v_limbs o_r o_thrown o_size o_used o_text o_d o_n o_power o_limbs h H locs hK hP hD hS ls (lv_sub hl [2, 1, 0] rfl)
set_option maxHeartbeats 4000000 in
set_option maxRecDepth 100000 in
theorem w_X2_shortest_231 (l : Launch) {p : Program} {e : Env} {s : State} {m : MethodId} {args : Array Value} {below : List Frame} {meth : Method} {c : Code} {A : Nat → Prop} {dC : Nat → ClassId} {dI : Nat → Nat → Nat} (a_this a_text a_d a_n a_power a_limbs : Nat) (c_text c_d c_n c_power c_limbs : ClassId) (hx : p.tables.exec = Jvm.exec) (hb : c.code = cX2_shortest) (hr : meth.sig.returnType = (some .int)) (hml : c.maxLocals = 10) (hown : s.vm.findClass RX2 = some m.cls) (hws : ∀ w ∈ wsL_law, w.before args s = true) (hlocks : meth.locks = false) (hA : ∀ q : Nat, s.heap.size ≤ q → A q) : ∀ (n : Nat) (l6 : Int32) (l7 : Int32) (v_thrown : Int32) (v_size : Int32) (v_used : Int32) (v_at : Int32) (v_text : Nat → Int32) (v_d : Nat → Int32) (v_n : Nat → Int32) (v_power : Nat → Int32) (v_limbs : Nat → Int64) (o_r : Int32) (o_thrown : Int32) (o_size : Int32) (o_used : Int32) (o_text : Nat → Int32) (o_d : Nat → Int32) (o_n : Nat → Int32) (o_power : Nat → Int32) (o_limbs : Nat → Int64), f_X2_shortest_L231 n l6 l7 v_thrown v_size v_used v_text v_d v_n v_power v_limbs = some (o_r, o_thrown, o_size, o_used, o_text, o_d, o_n, o_power, o_limbs) → ∀ (H : Heap) (locs : List Loc), va_K (dC, dI) vwCl [(c_text, .int), (c_d, .int), (c_n, .int), (c_power, .int), (c_limbs, .long)] s → va_P (dC, dI) vwCl (wd_X2_shortest a_this a_text a_d a_n a_power a_limbs c_text c_d c_n c_power c_limbs v_thrown v_size v_used v_at v_text v_d v_n v_power v_limbs) H → va_D A (wd_X2_shortest a_this a_text a_d a_n a_power a_limbs c_text c_d c_n c_power c_limbs v_thrown v_size v_used v_at v_text v_d v_n v_power v_limbs) → va_S A s.heap H locs → ∀ (ls : Array Slot), lv_has ls 10 [(0, .ref a_this), (6, .int l6), (7, .int l7)] → W p l e (headSpec (w_X2_shortest) ({ frames := 3, cells := 0, slots := 0, locals := 75 } : Room)).room s m args below meth c H locs 0 0 (MQ below (va_Qi (fun r9 (_ : Unit) => r9 = o_r) (fun (_ : Unit) t => va_P (dC, dI) vwCl (wd_X2_shortest a_this a_text a_d a_n a_power a_limbs c_text c_d c_n c_power c_limbs o_thrown o_size o_used v_at o_text o_d o_n o_power o_limbs) t.heap ∧ va_K (dC, dI) vwCl [(c_text, .int), (c_d, .int), (c_n, .int), (c_power, .int), (c_limbs, .long)] t ∧ va_D A (wd_X2_shortest a_this a_text a_d a_n a_power a_limbs c_text c_d c_n c_power c_limbs o_thrown o_size o_used v_at o_text o_d o_n o_power o_limbs)) A) args s 0 0 A) (F0 m 231 ls []) := by
  intro n
  induction n with
  | zero =>
    intro l6 l7 v_thrown v_size v_used v_at v_text v_d v_n v_power v_limbs o_r o_thrown o_size o_used o_text o_d o_n o_power o_limbs h H locs hK hP hD hS ls hl
    exact absurd h (by simp [f_X2_shortest_L231])
  | succ n ih =>
    intro l6 l7 v_thrown v_size v_used v_at v_text v_d v_n v_power v_limbs o_r o_thrown o_size o_used o_text o_d o_n o_power o_limbs h H locs hK hP hD hS ls hl
    unfold f_X2_shortest_L231 at h
    refine lv_iload hx hb dX2_shortest_231 (lv_at hl 2 rfl) ?_
    refine lv_iload hx hb dX2_shortest_233 (lv_at hl 1 rfl) ?_
    refine lv_icmp_ge (tgt := 260) hx hb dX2_shortest_235 (by decide) (fun c9 => ?_) (fun c9 => ?_)
    · have h := (if_pos c9).symm.trans h
      refine lv_aload_n hx hb dX2_shortest_260 rfl (lv_at hl 0 rfl) ?_
      refine lv_bipush (v := 101) hx hb dX2_shortest_261 (by decide) ?_
      obtain ⟨⟨v_size_263, v_text_263⟩, hc, h⟩ := bd h
      dsimp only at h
      have hPc := hP.sub (ws' := (wd_X2_put a_this a_text a_d a_n a_power a_limbs c_text v_thrown v_size v_used v_at v_text)) [0, 1] rfl
      have hDc := hD.sub (ws' := (wd_X2_put a_this a_text a_d a_n a_power a_limbs c_text v_thrown v_size v_used v_at v_text)) [0, 1] (by decide) rfl
      have hKc := hK.sub (tys' := [(c_text, .int)]) [0] rfl
      have hFc := va_free (wc := (wd_X2_put a_this a_text a_d a_n a_power a_limbs c_text v_thrown v_size v_used v_at v_text)) hD hS hA [0, 1] rfl
      refine va_callv (va_runV (As := [.int 101]) (rest := []) ⟨hx, hb, hml, hown, hws⟩ (c_X2_put l dC dI  a_this a_text a_d a_n a_power a_limbs c_text (Array.size H) 101 v_thrown v_size v_used v_at v_text v_size_263 v_text_263 hc) (cwV 1 hws (gV ww_335 ww_336 ww_337 ww_5 ww_338) rfl rfl rfl (by decide +kernel) ⟨Nat.le_of_ble_eq_true rfl, Nat.le_of_ble_eq_true rfl⟩) ⟨(fun a U g mk q => by obtain ⟨q0, q1, qP, qK, qD⟩ := q; exact ⟨q0, q1, qP, va_K.moved (u := U) (U := U.calling g mk a) (Vm.Alike.refl U.vm) qK, qD⟩), va_recv hKc hPc (ci := 2) (q0 := 0) rfl rfl, (fun U hU hW => ⟨rfl, by rw [hU], by rw [hU]; exact hPc, va_K.moved hW.alike hKc, hDc.weaken (fun _ _ _ _ => trivial)⟩)⟩ rfl rfl hl.1 rfl (lv_room (Nat.le_of_ble_eq_true rfl)) dX2_shortest_263 ⟨Nat.zero_le _, Nat.zero_le _⟩) hS (fun q _ h => hFc q h) hFc (fun u9 t H1 locs ht hvm hw hB hz1 hk1 hS => ?_)
      obtain ⟨hP1, hK1, hD1⟩ := hB
      rw [ht] at hP1
      obtain ⟨hP, hD⟩ := va_join (wr := [(a_d, .inl (c_d, 7000, .inl v_d)), (a_n, .inl (c_n, 7000, .inl v_n)), (a_power, .inl (c_power, 7000, .inl v_power)), (a_limbs, .inl (c_limbs, 160, .inr (.inl v_limbs)))]) (w1 := (wd_X2_put a_this a_text a_d a_n a_power a_limbs c_text v_thrown v_size_263 v_used v_at v_text_263)) hP hD [0, 1] [2, 3, 4, 5] rfl rfl (by decide) (by decide) hk1 hFc hP1 hD1
      generalize H1 = H at hP hS ⊢
      have hP : va_P (dC, dI) vwCl (wd_X2_shortest a_this a_text a_d a_n a_power a_limbs c_text c_d c_n c_power c_limbs v_thrown v_size_263 v_used v_at v_text_263 v_d v_n v_power v_limbs) H := hP.sub [4, 5, 0, 1, 2, 3] rfl
      have hD : va_D A (wd_X2_shortest a_this a_text a_d a_n a_power a_limbs c_text c_d c_n c_power c_limbs v_thrown v_size_263 v_used v_at v_text_263 v_d v_n v_power v_limbs) := hD.sub [4, 5, 0, 1, 2, 3] (by decide) rfl
      clear hP1 hK1 hD1 hPc hDc hKc hFc hk1 hz1 ht hvm
      refine lv_aload_n hx hb dX2_shortest_266 rfl (lv_at hl 0 rfl) ?_
      refine va_get (D := (dC, dI)) (ci := 2) (v := .ref a_power) (C := RX2) (T := TX2) (N := 9) hx hb hws inlX2 hown hK hP 0 rfl rfl 5 (by decide) (hws _ ww_37) (fun _ h9 => h9) rfl dX2_shortest_267 ?_
      refine lv_sipush (v := 2800) hx hb dX2_shortest_270 (by decide) ?_
      have hi : vp_in 2800 7000 := by unfold vp_in; decide +kernel
      refine va_iald hx hb hK hP 4 3 rfl rfl hi dX2_shortest_273 ?_
      refine lv_iconst (v := 1) hx hb dX2_shortest_274 (by decide) ?_
      refine lv_isub hx hb dX2_shortest_275 ?_
      refine lv_istore (lv' := [(7, .int ((v_power (Int32.toNatClampNeg 2800)) - 1)), (0, .ref a_this), (6, .int l6)]) hx hb dX2_shortest_276 hl (by decide) rfl (fun ls hl => ?_)
      refine lv_iload hx hb dX2_shortest_278 (lv_at hl 0 rfl) ?_
      refine lv_if_ge (tgt := 289) hx hb dX2_shortest_280 (by decide) (fun c9 => ?_) (fun c9 => ?_)
      · have h := (if_pos c9).symm.trans h
        exact w_X2_shortest_289 l a_this a_text a_d a_n a_power a_limbs c_text c_d c_n c_power c_limbs hx hb hr hml hown hws hlocks hA ((v_power (Int32.toNatClampNeg 2800)) - 1) v_thrown v_size_263 v_used v_at v_text_263 v_d v_n v_power v_limbs o_r o_thrown o_size o_used o_text o_d o_n o_power o_limbs h H locs hK hP hD hS ls (lv_sub hl [1, 0] rfl)
      · have h := (if_neg c9).symm.trans h
        refine lv_aload_n hx hb dX2_shortest_283 rfl (lv_at hl 1 rfl) ?_
        refine lv_bipush (v := 45) hx hb dX2_shortest_284 (by decide) ?_
        obtain ⟨⟨v_size_286, v_text_286⟩, hc, h⟩ := bd h
        dsimp only at h
        have hPc := hP.sub (ws' := (wd_X2_put a_this a_text a_d a_n a_power a_limbs c_text v_thrown v_size_263 v_used v_at v_text_263)) [0, 1] rfl
        have hDc := hD.sub (ws' := (wd_X2_put a_this a_text a_d a_n a_power a_limbs c_text v_thrown v_size_263 v_used v_at v_text_263)) [0, 1] (by decide) rfl
        have hKc := hK.sub (tys' := [(c_text, .int)]) [0] rfl
        have hFc := va_free (wc := (wd_X2_put a_this a_text a_d a_n a_power a_limbs c_text v_thrown v_size_263 v_used v_at v_text_263)) hD hS hA [0, 1] rfl
        refine va_callv (va_runV (As := [.int 45]) (rest := []) ⟨hx, hb, hml, hown, hws⟩ (c_X2_put l dC dI  a_this a_text a_d a_n a_power a_limbs c_text (Array.size H) 45 v_thrown v_size_263 v_used v_at v_text_263 v_size_286 v_text_286 hc) (cwV 1 hws (gV ww_335 ww_336 ww_337 ww_5 ww_338) rfl rfl rfl (by decide +kernel) ⟨Nat.le_of_ble_eq_true rfl, Nat.le_of_ble_eq_true rfl⟩) ⟨(fun a U g mk q => by obtain ⟨q0, q1, qP, qK, qD⟩ := q; exact ⟨q0, q1, qP, va_K.moved (u := U) (U := U.calling g mk a) (Vm.Alike.refl U.vm) qK, qD⟩), va_recv hKc hPc (ci := 2) (q0 := 0) rfl rfl, (fun U hU hW => ⟨rfl, by rw [hU], by rw [hU]; exact hPc, va_K.moved hW.alike hKc, hDc.weaken (fun _ _ _ _ => trivial)⟩)⟩ rfl rfl hl.1 rfl (lv_room (Nat.le_of_ble_eq_true rfl)) dX2_shortest_286 ⟨Nat.zero_le _, Nat.zero_le _⟩) hS (fun q _ h => hFc q h) hFc (fun u9 t H1 locs ht hvm hw hB hz1 hk1 hS => ?_)
        obtain ⟨hP1, hK1, hD1⟩ := hB
        rw [ht] at hP1
        obtain ⟨hP, hD⟩ := va_join (wr := [(a_d, .inl (c_d, 7000, .inl v_d)), (a_n, .inl (c_n, 7000, .inl v_n)), (a_power, .inl (c_power, 7000, .inl v_power)), (a_limbs, .inl (c_limbs, 160, .inr (.inl v_limbs)))]) (w1 := (wd_X2_put a_this a_text a_d a_n a_power a_limbs c_text v_thrown v_size_286 v_used v_at v_text_286)) hP hD [0, 1] [2, 3, 4, 5] rfl rfl (by decide) (by decide) hk1 hFc hP1 hD1
        generalize H1 = H at hP hS ⊢
        have hP : va_P (dC, dI) vwCl (wd_X2_shortest a_this a_text a_d a_n a_power a_limbs c_text c_d c_n c_power c_limbs v_thrown v_size_286 v_used v_at v_text_286 v_d v_n v_power v_limbs) H := hP.sub [4, 5, 0, 1, 2, 3] rfl
        have hD : va_D A (wd_X2_shortest a_this a_text a_d a_n a_power a_limbs c_text c_d c_n c_power c_limbs v_thrown v_size_286 v_used v_at v_text_286 v_d v_n v_power v_limbs) := hD.sub [4, 5, 0, 1, 2, 3] (by decide) rfl
        clear hP1 hK1 hD1 hPc hDc hKc hFc hk1 hz1 ht hvm
        exact w_X2_shortest_289 l a_this a_text a_d a_n a_power a_limbs c_text c_d c_n c_power c_limbs hx hb hr hml hown hws hlocks hA ((v_power (Int32.toNatClampNeg 2800)) - 1) v_thrown v_size_286 v_used v_at v_text_286 v_d v_n v_power v_limbs o_r o_thrown o_size o_used o_text o_d o_n o_power o_limbs h H locs hK hP hD hS ls (lv_sub hl [1, 0] rfl)
    · have h := (if_neg c9).symm.trans h
      refine lv_aload_n hx hb dX2_shortest_238 rfl (lv_at hl 0 rfl) ?_
      refine lv_bipush (v := 48) hx hb dX2_shortest_239 (by decide) ?_
      refine lv_aload_n hx hb dX2_shortest_241 rfl (lv_at hl 0 rfl) ?_
      refine lv_sipush (v := 2800) hx hb dX2_shortest_242 (by decide) ?_
      refine lv_iload hx hb dX2_shortest_245 (lv_at hl 2 rfl) ?_
      obtain ⟨r247, hc, h⟩ := bd h
      have hPc := hP.sub (ws' := (wd_X2_digit a_this a_text a_d a_n a_power a_limbs c_d c_n v_thrown v_size v_used v_at v_d v_n)) [0, 2, 3] rfl
      have hDc := hD.sub (ws' := (wd_X2_digit a_this a_text a_d a_n a_power a_limbs c_d c_n v_thrown v_size v_used v_at v_d v_n)) [0, 2, 3] (by decide) rfl
      have hKc := hK.sub (tys' := [(c_d, .int), (c_n, .int)]) [1, 2] rfl
      have hFc := va_free (wc := (wd_X2_digit a_this a_text a_d a_n a_power a_limbs c_d c_n v_thrown v_size v_used v_at v_d v_n)) hD hS hA [0, 2, 3] rfl
      refine va_calli (va_runV (As := [.int 2800, .int l7]) (rest := [.int 48, .ref a_this]) ⟨hx, hb, hml, hown, hws⟩ (c_X2_digit l dC dI  a_this a_text a_d a_n a_power a_limbs c_d c_n (Array.size H) 2800 l7 v_thrown v_size v_used v_at v_d v_n r247 hc) (cwV 2 hws (gV ww_281 ww_282 ww_283 ww_5 ww_284) rfl rfl rfl (by decide +kernel) ⟨Nat.le_of_ble_eq_true rfl, Nat.le_of_ble_eq_true rfl⟩) ⟨(fun a U g mk q => by obtain ⟨q0, q1, qP, qK, qD⟩ := q; exact ⟨q0, q1, qP, va_K.moved (u := U) (U := U.calling g mk a) (Vm.Alike.refl U.vm) qK, qD⟩), va_recv hKc hPc (ci := 2) (q0 := 0) rfl rfl, (fun U hU hW => ⟨rfl, by rw [hU], by rw [hU]; exact hPc, va_K.moved hW.alike hKc, hDc.weaken (fun _ _ _ _ => trivial)⟩)⟩ rfl rfl hl.1 rfl (lv_room (Nat.le_of_ble_eq_true rfl)) dX2_shortest_247 ⟨Nat.zero_le _, Nat.zero_le _⟩) hS (fun q _ h => hFc q h) hFc (fun r9 u9 t H1 locs ht hvm hw hB hz1 hk1 hS => ?_)
      obtain ⟨hP1, hK1, hD1⟩ := hB
      rw [ht] at hP1
      subst r9
      obtain ⟨hP, hD⟩ := va_join (wr := [(a_text, .inl (c_text, 400, .inl v_text)), (a_power, .inl (c_power, 7000, .inl v_power)), (a_limbs, .inl (c_limbs, 160, .inr (.inl v_limbs)))]) (w1 := (wd_X2_digit a_this a_text a_d a_n a_power a_limbs c_d c_n v_thrown v_size v_used v_at v_d v_n)) hP hD [0, 2, 3] [1, 4, 5] rfl rfl (by decide) (by decide) hk1 hFc hP1 hD1
      generalize H1 = H at hP hS ⊢
      have hP : va_P (dC, dI) vwCl (wd_X2_shortest a_this a_text a_d a_n a_power a_limbs c_text c_d c_n c_power c_limbs v_thrown v_size v_used v_at v_text v_d v_n v_power v_limbs) H := hP.sub [3, 0, 4, 5, 1, 2] rfl
      have hD : va_D A (wd_X2_shortest a_this a_text a_d a_n a_power a_limbs c_text c_d c_n c_power c_limbs v_thrown v_size v_used v_at v_text v_d v_n v_power v_limbs) := hD.sub [3, 0, 4, 5, 1, 2] (by decide) rfl
      clear hP1 hK1 hD1 hPc hDc hKc hFc hk1 hz1 ht hvm
      refine lv_iadd hx hb dX2_shortest_250 ?_
      obtain ⟨⟨v_size_251, v_text_251⟩, hc, h⟩ := bd h
      dsimp only at h
      have hPc := hP.sub (ws' := (wd_X2_put a_this a_text a_d a_n a_power a_limbs c_text v_thrown v_size v_used v_at v_text)) [0, 1] rfl
      have hDc := hD.sub (ws' := (wd_X2_put a_this a_text a_d a_n a_power a_limbs c_text v_thrown v_size v_used v_at v_text)) [0, 1] (by decide) rfl
      have hKc := hK.sub (tys' := [(c_text, .int)]) [0] rfl
      have hFc := va_free (wc := (wd_X2_put a_this a_text a_d a_n a_power a_limbs c_text v_thrown v_size v_used v_at v_text)) hD hS hA [0, 1] rfl
      refine va_callv (va_runV (As := [.int (48 + r247)]) (rest := []) ⟨hx, hb, hml, hown, hws⟩ (c_X2_put l dC dI  a_this a_text a_d a_n a_power a_limbs c_text (Array.size H) (48 + r247) v_thrown v_size v_used v_at v_text v_size_251 v_text_251 hc) (cwV 1 hws (gV ww_335 ww_336 ww_337 ww_5 ww_338) rfl rfl rfl (by decide +kernel) ⟨Nat.le_of_ble_eq_true rfl, Nat.le_of_ble_eq_true rfl⟩) ⟨(fun a U g mk q => by obtain ⟨q0, q1, qP, qK, qD⟩ := q; exact ⟨q0, q1, qP, va_K.moved (u := U) (U := U.calling g mk a) (Vm.Alike.refl U.vm) qK, qD⟩), va_recv hKc hPc (ci := 2) (q0 := 0) rfl rfl, (fun U hU hW => ⟨rfl, by rw [hU], by rw [hU]; exact hPc, va_K.moved hW.alike hKc, hDc.weaken (fun _ _ _ _ => trivial)⟩)⟩ rfl rfl hl.1 rfl (lv_room (Nat.le_of_ble_eq_true rfl)) dX2_shortest_251 ⟨Nat.zero_le _, Nat.zero_le _⟩) hS (fun q _ h => hFc q h) hFc (fun u9 t H1 locs ht hvm hw hB hz1 hk1 hS => ?_)
      obtain ⟨hP1, hK1, hD1⟩ := hB
      rw [ht] at hP1
      obtain ⟨hP, hD⟩ := va_join (wr := [(a_d, .inl (c_d, 7000, .inl v_d)), (a_n, .inl (c_n, 7000, .inl v_n)), (a_power, .inl (c_power, 7000, .inl v_power)), (a_limbs, .inl (c_limbs, 160, .inr (.inl v_limbs)))]) (w1 := (wd_X2_put a_this a_text a_d a_n a_power a_limbs c_text v_thrown v_size_251 v_used v_at v_text_251)) hP hD [0, 1] [2, 3, 4, 5] rfl rfl (by decide) (by decide) hk1 hFc hP1 hD1
      generalize H1 = H at hP hS ⊢
      have hP : va_P (dC, dI) vwCl (wd_X2_shortest a_this a_text a_d a_n a_power a_limbs c_text c_d c_n c_power c_limbs v_thrown v_size_251 v_used v_at v_text_251 v_d v_n v_power v_limbs) H := hP.sub [4, 5, 0, 1, 2, 3] rfl
      have hD : va_D A (wd_X2_shortest a_this a_text a_d a_n a_power a_limbs c_text c_d c_n c_power c_limbs v_thrown v_size_251 v_used v_at v_text_251 v_d v_n v_power v_limbs) := hD.sub [4, 5, 0, 1, 2, 3] (by decide) rfl
      clear hP1 hK1 hD1 hPc hDc hKc hFc hk1 hz1 ht hvm
      refine lv_iinc (v := (l7 + 1)) (lv' := [(7, .int (l7 + 1)), (0, .ref a_this), (6, .int l6)]) hx hb dX2_shortest_254 hl (k := 2) rfl rfl (by decide) rfl (fun ls hl => ?_)
      refine lv_goto (tgt := 231) hx hb dX2_shortest_257 (by decide) ?_
      exact ih l6 (l7 + 1) v_thrown v_size_251 v_used v_at v_text_251 v_d v_n v_power v_limbs o_r o_thrown o_size o_used o_text o_d o_n o_power o_limbs h H locs hK hP hD hS ls (lv_sub hl [1, 2, 0] rfl)
set_option maxHeartbeats 4000000 in
set_option maxRecDepth 100000 in
theorem w_X2_shortest_171 (l : Launch) {p : Program} {e : Env} {s : State} {m : MethodId} {args : Array Value} {below : List Frame} {meth : Method} {c : Code} {A : Nat → Prop} {dC : Nat → ClassId} {dI : Nat → Nat → Nat} (a_this a_text a_d a_n a_power a_limbs : Nat) (c_text c_d c_n c_power c_limbs : ClassId) (hx : p.tables.exec = Jvm.exec) (hb : c.code = cX2_shortest) (hr : meth.sig.returnType = (some .int)) (hml : c.maxLocals = 10) (hown : s.vm.findClass RX2 = some m.cls) (hws : ∀ w ∈ wsL_law, w.before args s = true) (hlocks : meth.locks = false) (hA : ∀ q : Nat, s.heap.size ≤ q → A q) : ∀ (n : Nat) (l3 : Int64) (l6 : Int32) (v_thrown : Int32) (v_size : Int32) (v_used : Int32) (v_at : Int32) (v_text : Nat → Int32) (v_d : Nat → Int32) (v_n : Nat → Int32) (v_power : Nat → Int32) (v_limbs : Nat → Int64) (o_r : Int32) (o_thrown : Int32) (o_size : Int32) (o_used : Int32) (o_text : Nat → Int32) (o_d : Nat → Int32) (o_n : Nat → Int32) (o_power : Nat → Int32) (o_limbs : Nat → Int64), f_X2_shortest_L171 n l3 l6 v_thrown v_size v_used v_text v_d v_n v_power v_limbs = some (o_r, o_thrown, o_size, o_used, o_text, o_d, o_n, o_power, o_limbs) → ∀ (H : Heap) (locs : List Loc), va_K (dC, dI) vwCl [(c_text, .int), (c_d, .int), (c_n, .int), (c_power, .int), (c_limbs, .long)] s → va_P (dC, dI) vwCl (wd_X2_shortest a_this a_text a_d a_n a_power a_limbs c_text c_d c_n c_power c_limbs v_thrown v_size v_used v_at v_text v_d v_n v_power v_limbs) H → va_D A (wd_X2_shortest a_this a_text a_d a_n a_power a_limbs c_text c_d c_n c_power c_limbs v_thrown v_size v_used v_at v_text v_d v_n v_power v_limbs) → va_S A s.heap H locs → ∀ (ls : Array Slot), lv_has ls 10 [(0, .ref a_this), (3, .long l3), (6, .int l6)] → W p l e (headSpec (w_X2_shortest) ({ frames := 3, cells := 0, slots := 0, locals := 75 } : Room)).room s m args below meth c H locs 0 0 (MQ below (va_Qi (fun r9 (_ : Unit) => r9 = o_r) (fun (_ : Unit) t => va_P (dC, dI) vwCl (wd_X2_shortest a_this a_text a_d a_n a_power a_limbs c_text c_d c_n c_power c_limbs o_thrown o_size o_used v_at o_text o_d o_n o_power o_limbs) t.heap ∧ va_K (dC, dI) vwCl [(c_text, .int), (c_d, .int), (c_n, .int), (c_power, .int), (c_limbs, .long)] t ∧ va_D A (wd_X2_shortest a_this a_text a_d a_n a_power a_limbs c_text c_d c_n c_power c_limbs o_thrown o_size o_used v_at o_text o_d o_n o_power o_limbs)) A) args s 0 0 A) (F0 m 171 ls []) := by
  intro n
  induction n with
  | zero =>
    intro l3 l6 v_thrown v_size v_used v_at v_text v_d v_n v_power v_limbs o_r o_thrown o_size o_used o_text o_d o_n o_power o_limbs h H locs hK hP hD hS ls hl
    exact absurd h (by simp [f_X2_shortest_L171])
  | succ n ih =>
    intro l3 l6 v_thrown v_size v_used v_at v_text v_d v_n v_power v_limbs o_r o_thrown o_size o_used o_text o_d o_n o_power o_limbs h H locs hK hP hD hS ls hl
    unfold f_X2_shortest_L171 at h
    refine lv_aload_n hx hb dX2_shortest_171 rfl (lv_at hl 0 rfl) ?_
    refine lv_iload hx hb dX2_shortest_172 (lv_at hl 2 rfl) ?_
    refine lv_lload_n hx hb dX2_shortest_174 rfl (lv_at hl 1 rfl) ?_
    refine lv_ldc2 (v := 2) hx hb hown (hws _ ww_249) dX2_shortest_175 ?_
    refine lv_lrem hx hb dX2_shortest_178 (by decide) ?_
    refine lv_lconst (v := 0) hx hb dX2_shortest_179 (by decide) ?_
    refine W.lcmp hx hb dX2_shortest_180 ?_
    refine lv_if_ne (tgt := 188) hx hb dX2_shortest_181 (by decide) (fun c9 => ?_) (fun c9 => ?_)
    · have h := (if_neg c9).symm.trans h
      refine lv_iconst (v := 0) hx hb dX2_shortest_188 (by decide) ?_
      obtain ⟨⟨r189, v_d_189, v_n_189, v_power_189⟩, hc, h⟩ := bd h
      dsimp only at h
      have hPc := hP.sub (ws' := (wd_X2_readsAsIt a_this a_text a_d a_n a_power a_limbs c_d c_n c_power v_thrown v_size v_used v_at v_d v_n v_power)) [0, 2, 3, 4] rfl
      have hDc := hD.sub (ws' := (wd_X2_readsAsIt a_this a_text a_d a_n a_power a_limbs c_d c_n c_power v_thrown v_size v_used v_at v_d v_n v_power)) [0, 2, 3, 4] (by decide) rfl
      have hKc := hK.sub (tys' := [(c_d, .int), (c_n, .int), (c_power, .int)]) [1, 2, 3] rfl
      have hFc := va_free (wc := (wd_X2_readsAsIt a_this a_text a_d a_n a_power a_limbs c_d c_n c_power v_thrown v_size v_used v_at v_d v_n v_power)) hD hS hA [0, 2, 3, 4] rfl
      refine va_calli (va_runV (As := [.int l6, .int 0]) (rest := []) ⟨hx, hb, hml, hown, hws⟩ (c_X2_readsAsIt l dC dI  a_this a_text a_d a_n a_power a_limbs c_d c_n c_power (Array.size H) l6 0 v_thrown v_size v_used v_at v_d v_n v_power r189 v_d_189 v_n_189 v_power_189 hc) (cwV 2 hws (gV ww_384 ww_385 ww_386 ww_5 ww_387) rfl rfl rfl (by decide +kernel) ⟨Nat.le_of_ble_eq_true rfl, Nat.le_of_ble_eq_true rfl⟩) ⟨(fun a U g mk q => by obtain ⟨q0, q1, qP, qK, qD⟩ := q; exact ⟨q0, q1, qP, va_K.moved (u := U) (U := U.calling g mk a) (Vm.Alike.refl U.vm) qK, qD⟩), va_recv hKc hPc (ci := 2) (q0 := 0) rfl rfl, (fun U hU hW => ⟨rfl, by rw [hU], by rw [hU]; exact hPc, va_K.moved hW.alike hKc, hDc.weaken (fun _ _ _ _ => trivial)⟩)⟩ rfl rfl hl.1 rfl (lv_room (Nat.le_of_ble_eq_true rfl)) dX2_shortest_189 ⟨Nat.zero_le _, Nat.zero_le _⟩) hS (fun q _ h => hFc q h) hFc (fun r9 u9 t H1 locs ht hvm hw hB hz1 hk1 hS => ?_)
      obtain ⟨hP1, hK1, hD1⟩ := hB
      rw [ht] at hP1
      subst r9
      obtain ⟨hP, hD⟩ := va_join (wr := [(a_text, .inl (c_text, 400, .inl v_text)), (a_limbs, .inl (c_limbs, 160, .inr (.inl v_limbs)))]) (w1 := (wd_X2_readsAsIt a_this a_text a_d a_n a_power a_limbs c_d c_n c_power v_thrown v_size v_used v_at v_d_189 v_n_189 v_power_189)) hP hD [0, 2, 3, 4] [1, 5] rfl rfl (by decide) (by decide) hk1 hFc hP1 hD1
      generalize H1 = H at hP hS ⊢
      have hP : va_P (dC, dI) vwCl (wd_X2_shortest a_this a_text a_d a_n a_power a_limbs c_text c_d c_n c_power c_limbs v_thrown v_size v_used v_at v_text v_d_189 v_n_189 v_power_189 v_limbs) H := hP.sub [2, 0, 3, 4, 5, 1] rfl
      have hD : va_D A (wd_X2_shortest a_this a_text a_d a_n a_power a_limbs c_text c_d c_n c_power c_limbs v_thrown v_size v_used v_at v_text v_d_189 v_n_189 v_power_189 v_limbs) := hD.sub [2, 0, 3, 4, 5, 1] (by decide) rfl
      clear hP1 hK1 hD1 hPc hDc hKc hFc hk1 hz1 ht hvm
      refine lv_if_ne (tgt := 201) hx hb dX2_shortest_192 (by decide) (fun c9 => ?_) (fun c9 => ?_)
      · have h := (if_neg c9).symm.trans h
        refine lv_aload_n hx hb dX2_shortest_201 rfl (lv_at hl 0 rfl) ?_
        refine lv_bipush (v := 48) hx hb dX2_shortest_202 (by decide) ?_
        refine lv_aload_n hx hb dX2_shortest_204 rfl (lv_at hl 0 rfl) ?_
        refine lv_sipush (v := 2800) hx hb dX2_shortest_205 (by decide) ?_
        refine lv_iconst (v := 0) hx hb dX2_shortest_208 (by decide) ?_
        obtain ⟨r209, hc, h⟩ := bd h
        have hPc := hP.sub (ws' := (wd_X2_digit a_this a_text a_d a_n a_power a_limbs c_d c_n v_thrown v_size v_used v_at v_d_189 v_n_189)) [0, 2, 3] rfl
        have hDc := hD.sub (ws' := (wd_X2_digit a_this a_text a_d a_n a_power a_limbs c_d c_n v_thrown v_size v_used v_at v_d_189 v_n_189)) [0, 2, 3] (by decide) rfl
        have hKc := hK.sub (tys' := [(c_d, .int), (c_n, .int)]) [1, 2] rfl
        have hFc := va_free (wc := (wd_X2_digit a_this a_text a_d a_n a_power a_limbs c_d c_n v_thrown v_size v_used v_at v_d_189 v_n_189)) hD hS hA [0, 2, 3] rfl
        refine va_calli (va_runV (As := [.int 2800, .int 0]) (rest := [.int 48, .ref a_this]) ⟨hx, hb, hml, hown, hws⟩ (c_X2_digit l dC dI  a_this a_text a_d a_n a_power a_limbs c_d c_n (Array.size H) 2800 0 v_thrown v_size v_used v_at v_d_189 v_n_189 r209 hc) (cwV 2 hws (gV ww_281 ww_282 ww_283 ww_5 ww_284) rfl rfl rfl (by decide +kernel) ⟨Nat.le_of_ble_eq_true rfl, Nat.le_of_ble_eq_true rfl⟩) ⟨(fun a U g mk q => by obtain ⟨q0, q1, qP, qK, qD⟩ := q; exact ⟨q0, q1, qP, va_K.moved (u := U) (U := U.calling g mk a) (Vm.Alike.refl U.vm) qK, qD⟩), va_recv hKc hPc (ci := 2) (q0 := 0) rfl rfl, (fun U hU hW => ⟨rfl, by rw [hU], by rw [hU]; exact hPc, va_K.moved hW.alike hKc, hDc.weaken (fun _ _ _ _ => trivial)⟩)⟩ rfl rfl hl.1 rfl (lv_room (Nat.le_of_ble_eq_true rfl)) dX2_shortest_209 ⟨Nat.zero_le _, Nat.zero_le _⟩) hS (fun q _ h => hFc q h) hFc (fun r9 u9 t H1 locs ht hvm hw hB hz1 hk1 hS => ?_)
        obtain ⟨hP1, hK1, hD1⟩ := hB
        rw [ht] at hP1
        subst r9
        obtain ⟨hP, hD⟩ := va_join (wr := [(a_text, .inl (c_text, 400, .inl v_text)), (a_power, .inl (c_power, 7000, .inl v_power_189)), (a_limbs, .inl (c_limbs, 160, .inr (.inl v_limbs)))]) (w1 := (wd_X2_digit a_this a_text a_d a_n a_power a_limbs c_d c_n v_thrown v_size v_used v_at v_d_189 v_n_189)) hP hD [0, 2, 3] [1, 4, 5] rfl rfl (by decide) (by decide) hk1 hFc hP1 hD1
        generalize H1 = H at hP hS ⊢
        have hP : va_P (dC, dI) vwCl (wd_X2_shortest a_this a_text a_d a_n a_power a_limbs c_text c_d c_n c_power c_limbs v_thrown v_size v_used v_at v_text v_d_189 v_n_189 v_power_189 v_limbs) H := hP.sub [3, 0, 4, 5, 1, 2] rfl
        have hD : va_D A (wd_X2_shortest a_this a_text a_d a_n a_power a_limbs c_text c_d c_n c_power c_limbs v_thrown v_size v_used v_at v_text v_d_189 v_n_189 v_power_189 v_limbs) := hD.sub [3, 0, 4, 5, 1, 2] (by decide) rfl
        clear hP1 hK1 hD1 hPc hDc hKc hFc hk1 hz1 ht hvm
        refine lv_iadd hx hb dX2_shortest_212 ?_
        obtain ⟨⟨v_size_213, v_text_213⟩, hc, h⟩ := bd h
        dsimp only at h
        have hPc := hP.sub (ws' := (wd_X2_put a_this a_text a_d a_n a_power a_limbs c_text v_thrown v_size v_used v_at v_text)) [0, 1] rfl
        have hDc := hD.sub (ws' := (wd_X2_put a_this a_text a_d a_n a_power a_limbs c_text v_thrown v_size v_used v_at v_text)) [0, 1] (by decide) rfl
        have hKc := hK.sub (tys' := [(c_text, .int)]) [0] rfl
        have hFc := va_free (wc := (wd_X2_put a_this a_text a_d a_n a_power a_limbs c_text v_thrown v_size v_used v_at v_text)) hD hS hA [0, 1] rfl
        refine va_callv (va_runV (As := [.int (48 + r209)]) (rest := []) ⟨hx, hb, hml, hown, hws⟩ (c_X2_put l dC dI  a_this a_text a_d a_n a_power a_limbs c_text (Array.size H) (48 + r209) v_thrown v_size v_used v_at v_text v_size_213 v_text_213 hc) (cwV 1 hws (gV ww_335 ww_336 ww_337 ww_5 ww_338) rfl rfl rfl (by decide +kernel) ⟨Nat.le_of_ble_eq_true rfl, Nat.le_of_ble_eq_true rfl⟩) ⟨(fun a U g mk q => by obtain ⟨q0, q1, qP, qK, qD⟩ := q; exact ⟨q0, q1, qP, va_K.moved (u := U) (U := U.calling g mk a) (Vm.Alike.refl U.vm) qK, qD⟩), va_recv hKc hPc (ci := 2) (q0 := 0) rfl rfl, (fun U hU hW => ⟨rfl, by rw [hU], by rw [hU]; exact hPc, va_K.moved hW.alike hKc, hDc.weaken (fun _ _ _ _ => trivial)⟩)⟩ rfl rfl hl.1 rfl (lv_room (Nat.le_of_ble_eq_true rfl)) dX2_shortest_213 ⟨Nat.zero_le _, Nat.zero_le _⟩) hS (fun q _ h => hFc q h) hFc (fun u9 t H1 locs ht hvm hw hB hz1 hk1 hS => ?_)
        obtain ⟨hP1, hK1, hD1⟩ := hB
        rw [ht] at hP1
        obtain ⟨hP, hD⟩ := va_join (wr := [(a_d, .inl (c_d, 7000, .inl v_d_189)), (a_n, .inl (c_n, 7000, .inl v_n_189)), (a_power, .inl (c_power, 7000, .inl v_power_189)), (a_limbs, .inl (c_limbs, 160, .inr (.inl v_limbs)))]) (w1 := (wd_X2_put a_this a_text a_d a_n a_power a_limbs c_text v_thrown v_size_213 v_used v_at v_text_213)) hP hD [0, 1] [2, 3, 4, 5] rfl rfl (by decide) (by decide) hk1 hFc hP1 hD1
        generalize H1 = H at hP hS ⊢
        have hP : va_P (dC, dI) vwCl (wd_X2_shortest a_this a_text a_d a_n a_power a_limbs c_text c_d c_n c_power c_limbs v_thrown v_size_213 v_used v_at v_text_213 v_d_189 v_n_189 v_power_189 v_limbs) H := hP.sub [4, 5, 0, 1, 2, 3] rfl
        have hD : va_D A (wd_X2_shortest a_this a_text a_d a_n a_power a_limbs c_text c_d c_n c_power c_limbs v_thrown v_size_213 v_used v_at v_text_213 v_d_189 v_n_189 v_power_189 v_limbs) := hD.sub [4, 5, 0, 1, 2, 3] (by decide) rfl
        clear hP1 hK1 hD1 hPc hDc hKc hFc hk1 hz1 ht hvm
        refine lv_iload hx hb dX2_shortest_216 (lv_at hl 2 rfl) ?_
        refine lv_iconst (v := 1) hx hb dX2_shortest_218 (by decide) ?_
        refine lv_icmp_le (tgt := 228) hx hb dX2_shortest_219 (by decide) (fun c9 => ?_) (fun c9 => ?_)
        · have h := (if_pos c9).symm.trans h
          refine lv_iconst (v := 1) hx hb dX2_shortest_228 (by decide) ?_
          refine lv_istore (lv' := [(7, .int 1), (0, .ref a_this), (3, .long l3), (6, .int l6)]) hx hb dX2_shortest_229 hl (by decide) rfl (fun ls hl => ?_)
          exact w_X2_shortest_231 l a_this a_text a_d a_n a_power a_limbs c_text c_d c_n c_power c_limbs hx hb hr hml hown hws hlocks hA FU l6 1 v_thrown v_size_213 v_used v_at v_text_213 v_d_189 v_n_189 v_power_189 v_limbs o_r o_thrown o_size o_used o_text o_d o_n o_power o_limbs h H locs hK hP hD hS ls (lv_sub hl [1, 3, 0] rfl)
        · have h := (if_neg c9).symm.trans h
          refine lv_aload_n hx hb dX2_shortest_222 rfl (lv_at hl 0 rfl) ?_
          refine lv_bipush (v := 46) hx hb dX2_shortest_223 (by decide) ?_
          obtain ⟨⟨v_size_225, v_text_225⟩, hc, h⟩ := bd h
          dsimp only at h
          have hPc := hP.sub (ws' := (wd_X2_put a_this a_text a_d a_n a_power a_limbs c_text v_thrown v_size_213 v_used v_at v_text_213)) [0, 1] rfl
          have hDc := hD.sub (ws' := (wd_X2_put a_this a_text a_d a_n a_power a_limbs c_text v_thrown v_size_213 v_used v_at v_text_213)) [0, 1] (by decide) rfl
          have hKc := hK.sub (tys' := [(c_text, .int)]) [0] rfl
          have hFc := va_free (wc := (wd_X2_put a_this a_text a_d a_n a_power a_limbs c_text v_thrown v_size_213 v_used v_at v_text_213)) hD hS hA [0, 1] rfl
          refine va_callv (va_runV (As := [.int 46]) (rest := []) ⟨hx, hb, hml, hown, hws⟩ (c_X2_put l dC dI  a_this a_text a_d a_n a_power a_limbs c_text (Array.size H) 46 v_thrown v_size_213 v_used v_at v_text_213 v_size_225 v_text_225 hc) (cwV 1 hws (gV ww_335 ww_336 ww_337 ww_5 ww_338) rfl rfl rfl (by decide +kernel) ⟨Nat.le_of_ble_eq_true rfl, Nat.le_of_ble_eq_true rfl⟩) ⟨(fun a U g mk q => by obtain ⟨q0, q1, qP, qK, qD⟩ := q; exact ⟨q0, q1, qP, va_K.moved (u := U) (U := U.calling g mk a) (Vm.Alike.refl U.vm) qK, qD⟩), va_recv hKc hPc (ci := 2) (q0 := 0) rfl rfl, (fun U hU hW => ⟨rfl, by rw [hU], by rw [hU]; exact hPc, va_K.moved hW.alike hKc, hDc.weaken (fun _ _ _ _ => trivial)⟩)⟩ rfl rfl hl.1 rfl (lv_room (Nat.le_of_ble_eq_true rfl)) dX2_shortest_225 ⟨Nat.zero_le _, Nat.zero_le _⟩) hS (fun q _ h => hFc q h) hFc (fun u9 t H1 locs ht hvm hw hB hz1 hk1 hS => ?_)
          obtain ⟨hP1, hK1, hD1⟩ := hB
          rw [ht] at hP1
          obtain ⟨hP, hD⟩ := va_join (wr := [(a_d, .inl (c_d, 7000, .inl v_d_189)), (a_n, .inl (c_n, 7000, .inl v_n_189)), (a_power, .inl (c_power, 7000, .inl v_power_189)), (a_limbs, .inl (c_limbs, 160, .inr (.inl v_limbs)))]) (w1 := (wd_X2_put a_this a_text a_d a_n a_power a_limbs c_text v_thrown v_size_225 v_used v_at v_text_225)) hP hD [0, 1] [2, 3, 4, 5] rfl rfl (by decide) (by decide) hk1 hFc hP1 hD1
          generalize H1 = H at hP hS ⊢
          have hP : va_P (dC, dI) vwCl (wd_X2_shortest a_this a_text a_d a_n a_power a_limbs c_text c_d c_n c_power c_limbs v_thrown v_size_225 v_used v_at v_text_225 v_d_189 v_n_189 v_power_189 v_limbs) H := hP.sub [4, 5, 0, 1, 2, 3] rfl
          have hD : va_D A (wd_X2_shortest a_this a_text a_d a_n a_power a_limbs c_text c_d c_n c_power c_limbs v_thrown v_size_225 v_used v_at v_text_225 v_d_189 v_n_189 v_power_189 v_limbs) := hD.sub [4, 5, 0, 1, 2, 3] (by decide) rfl
          clear hP1 hK1 hD1 hPc hDc hKc hFc hk1 hz1 ht hvm
          refine lv_iconst (v := 1) hx hb dX2_shortest_228 (by decide) ?_
          refine lv_istore (lv' := [(7, .int 1), (0, .ref a_this), (3, .long l3), (6, .int l6)]) hx hb dX2_shortest_229 hl (by decide) rfl (fun ls hl => ?_)
          exact w_X2_shortest_231 l a_this a_text a_d a_n a_power a_limbs c_text c_d c_n c_power c_limbs hx hb hr hml hown hws hlocks hA FU l6 1 v_thrown v_size_225 v_used v_at v_text_225 v_d_189 v_n_189 v_power_189 v_limbs o_r o_thrown o_size o_used o_text o_d o_n o_power o_limbs h H locs hK hP hD hS ls (lv_sub hl [1, 3, 0] rfl)
      · have h := (if_pos c9).symm.trans h
        refine lv_iinc (v := (l6 + 1)) (lv' := [(6, .int (l6 + 1)), (0, .ref a_this), (3, .long l3)]) hx hb dX2_shortest_195 hl (k := 2) rfl rfl (by decide) rfl (fun ls hl => ?_)
        refine lv_goto (tgt := 171) hx hb dX2_shortest_198 (by decide) ?_
        exact ih l3 (l6 + 1) v_thrown v_size v_used v_at v_text v_d_189 v_n_189 v_power_189 v_limbs o_r o_thrown o_size o_used o_text o_d o_n o_power o_limbs h H locs hK hP hD hS ls (lv_sub hl [1, 2, 0] rfl)
    · have h := (if_pos c9).symm.trans h
      refine lv_iconst (v := 1) hx hb dX2_shortest_184 (by decide) ?_
      refine lv_goto (tgt := 189) hx hb dX2_shortest_185 (by decide) ?_
      obtain ⟨⟨r189, v_d_189, v_n_189, v_power_189⟩, hc, h⟩ := bd h
      dsimp only at h
      have hPc := hP.sub (ws' := (wd_X2_readsAsIt a_this a_text a_d a_n a_power a_limbs c_d c_n c_power v_thrown v_size v_used v_at v_d v_n v_power)) [0, 2, 3, 4] rfl
      have hDc := hD.sub (ws' := (wd_X2_readsAsIt a_this a_text a_d a_n a_power a_limbs c_d c_n c_power v_thrown v_size v_used v_at v_d v_n v_power)) [0, 2, 3, 4] (by decide) rfl
      have hKc := hK.sub (tys' := [(c_d, .int), (c_n, .int), (c_power, .int)]) [1, 2, 3] rfl
      have hFc := va_free (wc := (wd_X2_readsAsIt a_this a_text a_d a_n a_power a_limbs c_d c_n c_power v_thrown v_size v_used v_at v_d v_n v_power)) hD hS hA [0, 2, 3, 4] rfl
      refine va_calli (va_runV (As := [.int l6, .int 1]) (rest := []) ⟨hx, hb, hml, hown, hws⟩ (c_X2_readsAsIt l dC dI  a_this a_text a_d a_n a_power a_limbs c_d c_n c_power (Array.size H) l6 1 v_thrown v_size v_used v_at v_d v_n v_power r189 v_d_189 v_n_189 v_power_189 hc) (cwV 2 hws (gV ww_384 ww_385 ww_386 ww_5 ww_387) rfl rfl rfl (by decide +kernel) ⟨Nat.le_of_ble_eq_true rfl, Nat.le_of_ble_eq_true rfl⟩) ⟨(fun a U g mk q => by obtain ⟨q0, q1, qP, qK, qD⟩ := q; exact ⟨q0, q1, qP, va_K.moved (u := U) (U := U.calling g mk a) (Vm.Alike.refl U.vm) qK, qD⟩), va_recv hKc hPc (ci := 2) (q0 := 0) rfl rfl, (fun U hU hW => ⟨rfl, by rw [hU], by rw [hU]; exact hPc, va_K.moved hW.alike hKc, hDc.weaken (fun _ _ _ _ => trivial)⟩)⟩ rfl rfl hl.1 rfl (lv_room (Nat.le_of_ble_eq_true rfl)) dX2_shortest_189 ⟨Nat.zero_le _, Nat.zero_le _⟩) hS (fun q _ h => hFc q h) hFc (fun r9 u9 t H1 locs ht hvm hw hB hz1 hk1 hS => ?_)
      obtain ⟨hP1, hK1, hD1⟩ := hB
      rw [ht] at hP1
      subst r9
      obtain ⟨hP, hD⟩ := va_join (wr := [(a_text, .inl (c_text, 400, .inl v_text)), (a_limbs, .inl (c_limbs, 160, .inr (.inl v_limbs)))]) (w1 := (wd_X2_readsAsIt a_this a_text a_d a_n a_power a_limbs c_d c_n c_power v_thrown v_size v_used v_at v_d_189 v_n_189 v_power_189)) hP hD [0, 2, 3, 4] [1, 5] rfl rfl (by decide) (by decide) hk1 hFc hP1 hD1
      generalize H1 = H at hP hS ⊢
      have hP : va_P (dC, dI) vwCl (wd_X2_shortest a_this a_text a_d a_n a_power a_limbs c_text c_d c_n c_power c_limbs v_thrown v_size v_used v_at v_text v_d_189 v_n_189 v_power_189 v_limbs) H := hP.sub [2, 0, 3, 4, 5, 1] rfl
      have hD : va_D A (wd_X2_shortest a_this a_text a_d a_n a_power a_limbs c_text c_d c_n c_power c_limbs v_thrown v_size v_used v_at v_text v_d_189 v_n_189 v_power_189 v_limbs) := hD.sub [2, 0, 3, 4, 5, 1] (by decide) rfl
      clear hP1 hK1 hD1 hPc hDc hKc hFc hk1 hz1 ht hvm
      refine lv_if_ne (tgt := 201) hx hb dX2_shortest_192 (by decide) (fun c9 => ?_) (fun c9 => ?_)
      · have h := (if_neg c9).symm.trans h
        refine lv_aload_n hx hb dX2_shortest_201 rfl (lv_at hl 0 rfl) ?_
        refine lv_bipush (v := 48) hx hb dX2_shortest_202 (by decide) ?_
        refine lv_aload_n hx hb dX2_shortest_204 rfl (lv_at hl 0 rfl) ?_
        refine lv_sipush (v := 2800) hx hb dX2_shortest_205 (by decide) ?_
        refine lv_iconst (v := 0) hx hb dX2_shortest_208 (by decide) ?_
        obtain ⟨r209, hc, h⟩ := bd h
        have hPc := hP.sub (ws' := (wd_X2_digit a_this a_text a_d a_n a_power a_limbs c_d c_n v_thrown v_size v_used v_at v_d_189 v_n_189)) [0, 2, 3] rfl
        have hDc := hD.sub (ws' := (wd_X2_digit a_this a_text a_d a_n a_power a_limbs c_d c_n v_thrown v_size v_used v_at v_d_189 v_n_189)) [0, 2, 3] (by decide) rfl
        have hKc := hK.sub (tys' := [(c_d, .int), (c_n, .int)]) [1, 2] rfl
        have hFc := va_free (wc := (wd_X2_digit a_this a_text a_d a_n a_power a_limbs c_d c_n v_thrown v_size v_used v_at v_d_189 v_n_189)) hD hS hA [0, 2, 3] rfl
        refine va_calli (va_runV (As := [.int 2800, .int 0]) (rest := [.int 48, .ref a_this]) ⟨hx, hb, hml, hown, hws⟩ (c_X2_digit l dC dI  a_this a_text a_d a_n a_power a_limbs c_d c_n (Array.size H) 2800 0 v_thrown v_size v_used v_at v_d_189 v_n_189 r209 hc) (cwV 2 hws (gV ww_281 ww_282 ww_283 ww_5 ww_284) rfl rfl rfl (by decide +kernel) ⟨Nat.le_of_ble_eq_true rfl, Nat.le_of_ble_eq_true rfl⟩) ⟨(fun a U g mk q => by obtain ⟨q0, q1, qP, qK, qD⟩ := q; exact ⟨q0, q1, qP, va_K.moved (u := U) (U := U.calling g mk a) (Vm.Alike.refl U.vm) qK, qD⟩), va_recv hKc hPc (ci := 2) (q0 := 0) rfl rfl, (fun U hU hW => ⟨rfl, by rw [hU], by rw [hU]; exact hPc, va_K.moved hW.alike hKc, hDc.weaken (fun _ _ _ _ => trivial)⟩)⟩ rfl rfl hl.1 rfl (lv_room (Nat.le_of_ble_eq_true rfl)) dX2_shortest_209 ⟨Nat.zero_le _, Nat.zero_le _⟩) hS (fun q _ h => hFc q h) hFc (fun r9 u9 t H1 locs ht hvm hw hB hz1 hk1 hS => ?_)
        obtain ⟨hP1, hK1, hD1⟩ := hB
        rw [ht] at hP1
        subst r9
        obtain ⟨hP, hD⟩ := va_join (wr := [(a_text, .inl (c_text, 400, .inl v_text)), (a_power, .inl (c_power, 7000, .inl v_power_189)), (a_limbs, .inl (c_limbs, 160, .inr (.inl v_limbs)))]) (w1 := (wd_X2_digit a_this a_text a_d a_n a_power a_limbs c_d c_n v_thrown v_size v_used v_at v_d_189 v_n_189)) hP hD [0, 2, 3] [1, 4, 5] rfl rfl (by decide) (by decide) hk1 hFc hP1 hD1
        generalize H1 = H at hP hS ⊢
        have hP : va_P (dC, dI) vwCl (wd_X2_shortest a_this a_text a_d a_n a_power a_limbs c_text c_d c_n c_power c_limbs v_thrown v_size v_used v_at v_text v_d_189 v_n_189 v_power_189 v_limbs) H := hP.sub [3, 0, 4, 5, 1, 2] rfl
        have hD : va_D A (wd_X2_shortest a_this a_text a_d a_n a_power a_limbs c_text c_d c_n c_power c_limbs v_thrown v_size v_used v_at v_text v_d_189 v_n_189 v_power_189 v_limbs) := hD.sub [3, 0, 4, 5, 1, 2] (by decide) rfl
        clear hP1 hK1 hD1 hPc hDc hKc hFc hk1 hz1 ht hvm
        refine lv_iadd hx hb dX2_shortest_212 ?_
        obtain ⟨⟨v_size_213, v_text_213⟩, hc, h⟩ := bd h
        dsimp only at h
        have hPc := hP.sub (ws' := (wd_X2_put a_this a_text a_d a_n a_power a_limbs c_text v_thrown v_size v_used v_at v_text)) [0, 1] rfl
        have hDc := hD.sub (ws' := (wd_X2_put a_this a_text a_d a_n a_power a_limbs c_text v_thrown v_size v_used v_at v_text)) [0, 1] (by decide) rfl
        have hKc := hK.sub (tys' := [(c_text, .int)]) [0] rfl
        have hFc := va_free (wc := (wd_X2_put a_this a_text a_d a_n a_power a_limbs c_text v_thrown v_size v_used v_at v_text)) hD hS hA [0, 1] rfl
        refine va_callv (va_runV (As := [.int (48 + r209)]) (rest := []) ⟨hx, hb, hml, hown, hws⟩ (c_X2_put l dC dI  a_this a_text a_d a_n a_power a_limbs c_text (Array.size H) (48 + r209) v_thrown v_size v_used v_at v_text v_size_213 v_text_213 hc) (cwV 1 hws (gV ww_335 ww_336 ww_337 ww_5 ww_338) rfl rfl rfl (by decide +kernel) ⟨Nat.le_of_ble_eq_true rfl, Nat.le_of_ble_eq_true rfl⟩) ⟨(fun a U g mk q => by obtain ⟨q0, q1, qP, qK, qD⟩ := q; exact ⟨q0, q1, qP, va_K.moved (u := U) (U := U.calling g mk a) (Vm.Alike.refl U.vm) qK, qD⟩), va_recv hKc hPc (ci := 2) (q0 := 0) rfl rfl, (fun U hU hW => ⟨rfl, by rw [hU], by rw [hU]; exact hPc, va_K.moved hW.alike hKc, hDc.weaken (fun _ _ _ _ => trivial)⟩)⟩ rfl rfl hl.1 rfl (lv_room (Nat.le_of_ble_eq_true rfl)) dX2_shortest_213 ⟨Nat.zero_le _, Nat.zero_le _⟩) hS (fun q _ h => hFc q h) hFc (fun u9 t H1 locs ht hvm hw hB hz1 hk1 hS => ?_)
        obtain ⟨hP1, hK1, hD1⟩ := hB
        rw [ht] at hP1
        obtain ⟨hP, hD⟩ := va_join (wr := [(a_d, .inl (c_d, 7000, .inl v_d_189)), (a_n, .inl (c_n, 7000, .inl v_n_189)), (a_power, .inl (c_power, 7000, .inl v_power_189)), (a_limbs, .inl (c_limbs, 160, .inr (.inl v_limbs)))]) (w1 := (wd_X2_put a_this a_text a_d a_n a_power a_limbs c_text v_thrown v_size_213 v_used v_at v_text_213)) hP hD [0, 1] [2, 3, 4, 5] rfl rfl (by decide) (by decide) hk1 hFc hP1 hD1
        generalize H1 = H at hP hS ⊢
        have hP : va_P (dC, dI) vwCl (wd_X2_shortest a_this a_text a_d a_n a_power a_limbs c_text c_d c_n c_power c_limbs v_thrown v_size_213 v_used v_at v_text_213 v_d_189 v_n_189 v_power_189 v_limbs) H := hP.sub [4, 5, 0, 1, 2, 3] rfl
        have hD : va_D A (wd_X2_shortest a_this a_text a_d a_n a_power a_limbs c_text c_d c_n c_power c_limbs v_thrown v_size_213 v_used v_at v_text_213 v_d_189 v_n_189 v_power_189 v_limbs) := hD.sub [4, 5, 0, 1, 2, 3] (by decide) rfl
        clear hP1 hK1 hD1 hPc hDc hKc hFc hk1 hz1 ht hvm
        refine lv_iload hx hb dX2_shortest_216 (lv_at hl 2 rfl) ?_
        refine lv_iconst (v := 1) hx hb dX2_shortest_218 (by decide) ?_
        refine lv_icmp_le (tgt := 228) hx hb dX2_shortest_219 (by decide) (fun c9 => ?_) (fun c9 => ?_)
        · have h := (if_pos c9).symm.trans h
          refine lv_iconst (v := 1) hx hb dX2_shortest_228 (by decide) ?_
          refine lv_istore (lv' := [(7, .int 1), (0, .ref a_this), (3, .long l3), (6, .int l6)]) hx hb dX2_shortest_229 hl (by decide) rfl (fun ls hl => ?_)
          exact w_X2_shortest_231 l a_this a_text a_d a_n a_power a_limbs c_text c_d c_n c_power c_limbs hx hb hr hml hown hws hlocks hA FU l6 1 v_thrown v_size_213 v_used v_at v_text_213 v_d_189 v_n_189 v_power_189 v_limbs o_r o_thrown o_size o_used o_text o_d o_n o_power o_limbs h H locs hK hP hD hS ls (lv_sub hl [1, 3, 0] rfl)
        · have h := (if_neg c9).symm.trans h
          refine lv_aload_n hx hb dX2_shortest_222 rfl (lv_at hl 0 rfl) ?_
          refine lv_bipush (v := 46) hx hb dX2_shortest_223 (by decide) ?_
          obtain ⟨⟨v_size_225, v_text_225⟩, hc, h⟩ := bd h
          dsimp only at h
          have hPc := hP.sub (ws' := (wd_X2_put a_this a_text a_d a_n a_power a_limbs c_text v_thrown v_size_213 v_used v_at v_text_213)) [0, 1] rfl
          have hDc := hD.sub (ws' := (wd_X2_put a_this a_text a_d a_n a_power a_limbs c_text v_thrown v_size_213 v_used v_at v_text_213)) [0, 1] (by decide) rfl
          have hKc := hK.sub (tys' := [(c_text, .int)]) [0] rfl
          have hFc := va_free (wc := (wd_X2_put a_this a_text a_d a_n a_power a_limbs c_text v_thrown v_size_213 v_used v_at v_text_213)) hD hS hA [0, 1] rfl
          refine va_callv (va_runV (As := [.int 46]) (rest := []) ⟨hx, hb, hml, hown, hws⟩ (c_X2_put l dC dI  a_this a_text a_d a_n a_power a_limbs c_text (Array.size H) 46 v_thrown v_size_213 v_used v_at v_text_213 v_size_225 v_text_225 hc) (cwV 1 hws (gV ww_335 ww_336 ww_337 ww_5 ww_338) rfl rfl rfl (by decide +kernel) ⟨Nat.le_of_ble_eq_true rfl, Nat.le_of_ble_eq_true rfl⟩) ⟨(fun a U g mk q => by obtain ⟨q0, q1, qP, qK, qD⟩ := q; exact ⟨q0, q1, qP, va_K.moved (u := U) (U := U.calling g mk a) (Vm.Alike.refl U.vm) qK, qD⟩), va_recv hKc hPc (ci := 2) (q0 := 0) rfl rfl, (fun U hU hW => ⟨rfl, by rw [hU], by rw [hU]; exact hPc, va_K.moved hW.alike hKc, hDc.weaken (fun _ _ _ _ => trivial)⟩)⟩ rfl rfl hl.1 rfl (lv_room (Nat.le_of_ble_eq_true rfl)) dX2_shortest_225 ⟨Nat.zero_le _, Nat.zero_le _⟩) hS (fun q _ h => hFc q h) hFc (fun u9 t H1 locs ht hvm hw hB hz1 hk1 hS => ?_)
          obtain ⟨hP1, hK1, hD1⟩ := hB
          rw [ht] at hP1
          obtain ⟨hP, hD⟩ := va_join (wr := [(a_d, .inl (c_d, 7000, .inl v_d_189)), (a_n, .inl (c_n, 7000, .inl v_n_189)), (a_power, .inl (c_power, 7000, .inl v_power_189)), (a_limbs, .inl (c_limbs, 160, .inr (.inl v_limbs)))]) (w1 := (wd_X2_put a_this a_text a_d a_n a_power a_limbs c_text v_thrown v_size_225 v_used v_at v_text_225)) hP hD [0, 1] [2, 3, 4, 5] rfl rfl (by decide) (by decide) hk1 hFc hP1 hD1
          generalize H1 = H at hP hS ⊢
          have hP : va_P (dC, dI) vwCl (wd_X2_shortest a_this a_text a_d a_n a_power a_limbs c_text c_d c_n c_power c_limbs v_thrown v_size_225 v_used v_at v_text_225 v_d_189 v_n_189 v_power_189 v_limbs) H := hP.sub [4, 5, 0, 1, 2, 3] rfl
          have hD : va_D A (wd_X2_shortest a_this a_text a_d a_n a_power a_limbs c_text c_d c_n c_power c_limbs v_thrown v_size_225 v_used v_at v_text_225 v_d_189 v_n_189 v_power_189 v_limbs) := hD.sub [4, 5, 0, 1, 2, 3] (by decide) rfl
          clear hP1 hK1 hD1 hPc hDc hKc hFc hk1 hz1 ht hvm
          refine lv_iconst (v := 1) hx hb dX2_shortest_228 (by decide) ?_
          refine lv_istore (lv' := [(7, .int 1), (0, .ref a_this), (3, .long l3), (6, .int l6)]) hx hb dX2_shortest_229 hl (by decide) rfl (fun ls hl => ?_)
          exact w_X2_shortest_231 l a_this a_text a_d a_n a_power a_limbs c_text c_d c_n c_power c_limbs hx hb hr hml hown hws hlocks hA FU l6 1 v_thrown v_size_225 v_used v_at v_text_225 v_d_189 v_n_189 v_power_189 v_limbs o_r o_thrown o_size o_used o_text o_d o_n o_power o_limbs h H locs hK hP hD hS ls (lv_sub hl [1, 3, 0] rfl)
      · have h := (if_pos c9).symm.trans h
        refine lv_iinc (v := (l6 + 1)) (lv' := [(6, .int (l6 + 1)), (0, .ref a_this), (3, .long l3)]) hx hb dX2_shortest_195 hl (k := 2) rfl rfl (by decide) rfl (fun ls hl => ?_)
        refine lv_goto (tgt := 171) hx hb dX2_shortest_198 (by decide) ?_
        exact ih l3 (l6 + 1) v_thrown v_size v_used v_at v_text v_d_189 v_n_189 v_power_189 v_limbs o_r o_thrown o_size o_used o_text o_d o_n o_power o_limbs h H locs hK hP hD hS ls (lv_sub hl [1, 2, 0] rfl)
set_option maxHeartbeats 4000000 in
set_option maxRecDepth 100000 in
theorem w_X2_shortest_138 (l : Launch) {p : Program} {e : Env} {s : State} {m : MethodId} {args : Array Value} {below : List Frame} {meth : Method} {c : Code} {A : Nat → Prop} {dC : Nat → ClassId} {dI : Nat → Nat → Nat} (a_this a_text a_d a_n a_power a_limbs : Nat) (c_text c_d c_n c_power c_limbs : ClassId) (hx : p.tables.exec = Jvm.exec) (hb : c.code = cX2_shortest) (hr : meth.sig.returnType = (some .int)) (hml : c.maxLocals = 10) (hown : s.vm.findClass RX2 = some m.cls) (hws : ∀ w ∈ wsL_law, w.before args s = true) (hlocks : meth.locks = false) (hA : ∀ q : Nat, s.heap.size ≤ q → A q) : ∀ (l3 : Int64) (s1 : Int64) (s2 : Int32) (s3 : Int32) (v_thrown : Int32) (v_size : Int32) (v_used : Int32) (v_at : Int32) (v_text : Nat → Int32) (v_d : Nat → Int32) (v_n : Nat → Int32) (v_power : Nat → Int32) (v_limbs : Nat → Int64) (o_r : Int32) (o_thrown : Int32) (o_size : Int32) (o_used : Int32) (o_text : Nat → Int32) (o_d : Nat → Int32) (o_n : Nat → Int32) (o_power : Nat → Int32) (o_limbs : Nat → Int64), f_X2_shortest_b138 l3 s1 s2 s3 v_thrown v_size v_used v_text v_d v_n v_power v_limbs = some (o_r, o_thrown, o_size, o_used, o_text, o_d, o_n, o_power, o_limbs) → ∀ (H : Heap) (locs : List Loc), va_K (dC, dI) vwCl [(c_text, .int), (c_d, .int), (c_n, .int), (c_power, .int), (c_limbs, .long)] s → va_P (dC, dI) vwCl (wd_X2_shortest a_this a_text a_d a_n a_power a_limbs c_text c_d c_n c_power c_limbs v_thrown v_size v_used v_at v_text v_d v_n v_power v_limbs) H → va_D A (wd_X2_shortest a_this a_text a_d a_n a_power a_limbs c_text c_d c_n c_power c_limbs v_thrown v_size v_used v_at v_text v_d v_n v_power v_limbs) → va_S A s.heap H locs → ∀ (ls : Array Slot), lv_has ls 10 [(0, .ref a_this), (3, .long l3)] → W p l e (headSpec (w_X2_shortest) ({ frames := 3, cells := 0, slots := 0, locals := 75 } : Room)).room s m args below meth c H locs 0 0 (MQ below (va_Qi (fun r9 (_ : Unit) => r9 = o_r) (fun (_ : Unit) t => va_P (dC, dI) vwCl (wd_X2_shortest a_this a_text a_d a_n a_power a_limbs c_text c_d c_n c_power c_limbs o_thrown o_size o_used v_at o_text o_d o_n o_power o_limbs) t.heap ∧ va_K (dC, dI) vwCl [(c_text, .int), (c_d, .int), (c_n, .int), (c_power, .int), (c_limbs, .long)] t ∧ va_D A (wd_X2_shortest a_this a_text a_d a_n a_power a_limbs c_text c_d c_n c_power c_limbs o_thrown o_size o_used v_at o_text o_d o_n o_power o_limbs)) A) args s 0 0 A) (F0 m 138 ls [.int s3, .int s2, .long s1, .ref a_this]) := by
  intro l3 s1 s2 s3 v_thrown v_size v_used v_at v_text v_d v_n v_power v_limbs o_r o_thrown o_size o_used o_text o_d o_n o_power o_limbs h H locs hK hP hD hS ls hl
  unfold f_X2_shortest_b138 at h
  refine lv_isub hx hb dX2_shortest_138 ?_
  refine lv_sipush (v := 4200) hx hb dX2_shortest_139 (by decide) ?_
  obtain ⟨⟨v_used_142, v_d_142, v_n_142, v_power_142, v_limbs_142⟩, hc, h⟩ := bd h
  dsimp only at h
  have hPc := hP.sub (ws' := (wd_X2_row a_this a_text a_d a_n a_power a_limbs c_d c_n c_power c_limbs v_thrown v_size v_used v_at v_d v_n v_power v_limbs)) [0, 2, 3, 4, 5] rfl
  have hDc := hD.sub (ws' := (wd_X2_row a_this a_text a_d a_n a_power a_limbs c_d c_n c_power c_limbs v_thrown v_size v_used v_at v_d v_n v_power v_limbs)) [0, 2, 3, 4, 5] (by decide) rfl
  have hKc := hK.sub (tys' := [(c_d, .int), (c_n, .int), (c_power, .int), (c_limbs, .long)]) [1, 2, 3, 4] rfl
  have hFc := va_free (wc := (wd_X2_row a_this a_text a_d a_n a_power a_limbs c_d c_n c_power c_limbs v_thrown v_size v_used v_at v_d v_n v_power v_limbs)) hD hS hA [0, 2, 3, 4, 5] rfl
  refine va_callv (va_runV (As := [.long s1, .int (s2 - s3), .int 4200]) (rest := []) ⟨hx, hb, hml, hown, hws⟩ (c_X2_row l dC dI  a_this a_text a_d a_n a_power a_limbs c_d c_n c_power c_limbs (Array.size H) s1 (s2 - s3) 4200 v_thrown v_size v_used v_at v_d v_n v_power v_limbs v_used_142 v_d_142 v_n_142 v_power_142 v_limbs_142 hc) (cwV 3 hws (gV ww_262 ww_263 ww_264 ww_5 ww_265) rfl rfl rfl (by decide +kernel) ⟨Nat.le_of_ble_eq_true rfl, Nat.le_of_ble_eq_true rfl⟩) ⟨(fun a U g mk q => by obtain ⟨q0, q1, qP, qK, qD⟩ := q; exact ⟨q0, q1, qP, va_K.moved (u := U) (U := U.calling g mk a) (Vm.Alike.refl U.vm) qK, qD⟩), va_recv hKc hPc (ci := 2) (q0 := 0) rfl rfl, (fun U hU hW => ⟨rfl, by rw [hU], by rw [hU]; exact hPc, va_K.moved hW.alike hKc, hDc.weaken (fun _ _ _ _ => trivial)⟩)⟩ rfl rfl hl.1 rfl (lv_room (Nat.le_of_ble_eq_true rfl)) dX2_shortest_142 ⟨Nat.zero_le _, Nat.zero_le _⟩) hS (fun q _ h => hFc q h) hFc (fun u9 t H1 locs ht hvm hw hB hz1 hk1 hS => ?_)
  obtain ⟨hP1, hK1, hD1⟩ := hB
  rw [ht] at hP1
  obtain ⟨hP, hD⟩ := va_join (wr := [(a_text, .inl (c_text, 400, .inl v_text))]) (w1 := (wd_X2_row a_this a_text a_d a_n a_power a_limbs c_d c_n c_power c_limbs v_thrown v_size v_used_142 v_at v_d_142 v_n_142 v_power_142 v_limbs_142)) hP hD [0, 2, 3, 4, 5] [1] rfl rfl (by decide) (by decide) hk1 hFc hP1 hD1
  generalize H1 = H at hP hS ⊢
  have hP : va_P (dC, dI) vwCl (wd_X2_shortest a_this a_text a_d a_n a_power a_limbs c_text c_d c_n c_power c_limbs v_thrown v_size v_used_142 v_at v_text v_d_142 v_n_142 v_power_142 v_limbs_142) H := hP.sub [1, 0, 2, 3, 4, 5] rfl
  have hD : va_D A (wd_X2_shortest a_this a_text a_d a_n a_power a_limbs c_text c_d c_n c_power c_limbs v_thrown v_size v_used_142 v_at v_text v_d_142 v_n_142 v_power_142 v_limbs_142) := hD.sub [1, 0, 2, 3, 4, 5] (by decide) rfl
  clear hP1 hK1 hD1 hPc hDc hKc hFc hk1 hz1 ht hvm
  refine lv_aload_n hx hb dX2_shortest_145 rfl (lv_at hl 0 rfl) ?_
  refine lv_ldc2 (v := 2) hx hb hown (hws _ ww_249) dX2_shortest_146 ?_
  refine lv_lload_n hx hb dX2_shortest_149 rfl (lv_at hl 1 rfl) ?_
  obtain ⟨r150, hc, h⟩ := bd h
  have hPc := hP.sub (ws' := ([] : va_W)) [] rfl
  have hDc := hD.sub (ws' := ([] : va_W)) [] (by decide) rfl
  have hKc := hK.sub (tys' := []) [] rfl
  have hFc := va_free (wc := ([] : va_W)) hD hS hA [] rfl
  refine va_calll (va_runS (As := [.long l3]) (rest := [.long 2, .ref a_this]) ⟨hx, hb, hml, hown, hws⟩ (c_X2_whole l dC dI   (Array.size H) l3  r150 hc) (va_cwS 1 hws (gS ww_254 ww_255 ww_5 ww_256) rfl rfl rfl (by decide +kernel) ⟨Nat.le_of_ble_eq_true rfl, Nat.le_of_ble_eq_true rfl⟩) ⟨(fun a U g mk q => by obtain ⟨q0, q1, qP, qK, qD⟩ := q; exact ⟨q0, q1, qP, va_K.moved (u := U) (U := U.calling g mk a) (Vm.Alike.refl U.vm) qK, qD⟩), (fun U hU hW => ⟨rfl, by rw [hU], by rw [hU]; exact hPc, va_K.moved hW.alike hKc, hDc.weaken (fun _ _ _ _ => trivial)⟩)⟩ rfl rfl hl.1 rfl (lv_room (Nat.le_of_ble_eq_true rfl)) dX2_shortest_150 ⟨Nat.zero_le _, Nat.zero_le _⟩) hS (fun q _ h => hFc q h) hFc (fun r9 u9 t H1 locs ht hvm hw hB hz1 hk1 hS => ?_)
  obtain ⟨hP1, hK1, hD1⟩ := hB
  rw [ht] at hP1
  subst r9
  obtain ⟨hP, hD⟩ := va_join (wr := [(a_this, .inr (2, [.int v_thrown, .ref a_text, .int v_size, .ref a_d, .ref a_n, .ref a_power, .ref a_limbs, .int v_used_142, .int v_at])), (a_text, .inl (c_text, 400, .inl v_text)), (a_d, .inl (c_d, 7000, .inl v_d_142)), (a_n, .inl (c_n, 7000, .inl v_n_142)), (a_power, .inl (c_power, 7000, .inl v_power_142)), (a_limbs, .inl (c_limbs, 160, .inr (.inl v_limbs_142)))]) (w1 := ([] : va_W)) hP hD [] [0, 1, 2, 3, 4, 5] rfl rfl (by decide) (by decide) hk1 hFc hP1 hD1
  generalize H1 = H at hP hS ⊢
  have hP : va_P (dC, dI) vwCl (wd_X2_shortest a_this a_text a_d a_n a_power a_limbs c_text c_d c_n c_power c_limbs v_thrown v_size v_used_142 v_at v_text v_d_142 v_n_142 v_power_142 v_limbs_142) H := hP.sub [0, 1, 2, 3, 4, 5] rfl
  have hD : va_D A (wd_X2_shortest a_this a_text a_d a_n a_power a_limbs c_text c_d c_n c_power c_limbs v_thrown v_size v_used_142 v_at v_text v_d_142 v_n_142 v_power_142 v_limbs_142) := hD.sub [0, 1, 2, 3, 4, 5] (by decide) rfl
  clear hP1 hK1 hD1 hPc hDc hKc hFc hk1 hz1 ht hvm
  refine lv_lmul hx hb dX2_shortest_153 ?_
  refine lv_lconst (v := 1) hx hb dX2_shortest_154 (by decide) ?_
  refine lv_ladd hx hb dX2_shortest_155 ?_
  refine lv_lload_n hx hb dX2_shortest_156 rfl (lv_at hl 1 rfl) ?_
  obtain ⟨r157, hc, h⟩ := bd h
  have hPc := hP.sub (ws' := ([] : va_W)) [] rfl
  have hDc := hD.sub (ws' := ([] : va_W)) [] (by decide) rfl
  have hKc := hK.sub (tys' := []) [] rfl
  have hFc := va_free (wc := ([] : va_W)) hD hS hA [] rfl
  refine va_calli (va_runS (As := [.long l3]) (rest := [.long ((2 * r150) + 1), .ref a_this]) ⟨hx, hb, hml, hown, hws⟩ (c_X2_two l dC dI   (Array.size H) l3  r157 hc) (va_cwS 1 hws (gS ww_259 ww_260 ww_5 ww_261) rfl rfl rfl (by decide +kernel) ⟨Nat.le_of_ble_eq_true rfl, Nat.le_of_ble_eq_true rfl⟩) ⟨(fun a U g mk q => by obtain ⟨q0, q1, qP, qK, qD⟩ := q; exact ⟨q0, q1, qP, va_K.moved (u := U) (U := U.calling g mk a) (Vm.Alike.refl U.vm) qK, qD⟩), (fun U hU hW => ⟨rfl, by rw [hU], by rw [hU]; exact hPc, va_K.moved hW.alike hKc, hDc.weaken (fun _ _ _ _ => trivial)⟩)⟩ rfl rfl hl.1 rfl (lv_room (Nat.le_of_ble_eq_true rfl)) dX2_shortest_157 ⟨Nat.zero_le _, Nat.zero_le _⟩) hS (fun q _ h => hFc q h) hFc (fun r9 u9 t H1 locs ht hvm hw hB hz1 hk1 hS => ?_)
  obtain ⟨hP1, hK1, hD1⟩ := hB
  rw [ht] at hP1
  subst r9
  obtain ⟨hP, hD⟩ := va_join (wr := [(a_this, .inr (2, [.int v_thrown, .ref a_text, .int v_size, .ref a_d, .ref a_n, .ref a_power, .ref a_limbs, .int v_used_142, .int v_at])), (a_text, .inl (c_text, 400, .inl v_text)), (a_d, .inl (c_d, 7000, .inl v_d_142)), (a_n, .inl (c_n, 7000, .inl v_n_142)), (a_power, .inl (c_power, 7000, .inl v_power_142)), (a_limbs, .inl (c_limbs, 160, .inr (.inl v_limbs_142)))]) (w1 := ([] : va_W)) hP hD [] [0, 1, 2, 3, 4, 5] rfl rfl (by decide) (by decide) hk1 hFc hP1 hD1
  generalize H1 = H at hP hS ⊢
  have hP : va_P (dC, dI) vwCl (wd_X2_shortest a_this a_text a_d a_n a_power a_limbs c_text c_d c_n c_power c_limbs v_thrown v_size v_used_142 v_at v_text v_d_142 v_n_142 v_power_142 v_limbs_142) H := hP.sub [0, 1, 2, 3, 4, 5] rfl
  have hD : va_D A (wd_X2_shortest a_this a_text a_d a_n a_power a_limbs c_text c_d c_n c_power c_limbs v_thrown v_size v_used_142 v_at v_text v_d_142 v_n_142 v_power_142 v_limbs_142) := hD.sub [0, 1, 2, 3, 4, 5] (by decide) rfl
  clear hP1 hK1 hD1 hPc hDc hKc hFc hk1 hz1 ht hvm
  refine lv_iconst (v := 1) hx hb dX2_shortest_160 (by decide) ?_
  refine lv_isub hx hb dX2_shortest_161 ?_
  refine lv_sipush (v := 5600) hx hb dX2_shortest_162 (by decide) ?_
  obtain ⟨⟨v_used_165, v_d_165, v_n_165, v_power_165, v_limbs_165⟩, hc, h⟩ := bd h
  dsimp only at h
  have hPc := hP.sub (ws' := (wd_X2_row a_this a_text a_d a_n a_power a_limbs c_d c_n c_power c_limbs v_thrown v_size v_used_142 v_at v_d_142 v_n_142 v_power_142 v_limbs_142)) [0, 2, 3, 4, 5] rfl
  have hDc := hD.sub (ws' := (wd_X2_row a_this a_text a_d a_n a_power a_limbs c_d c_n c_power c_limbs v_thrown v_size v_used_142 v_at v_d_142 v_n_142 v_power_142 v_limbs_142)) [0, 2, 3, 4, 5] (by decide) rfl
  have hKc := hK.sub (tys' := [(c_d, .int), (c_n, .int), (c_power, .int), (c_limbs, .long)]) [1, 2, 3, 4] rfl
  have hFc := va_free (wc := (wd_X2_row a_this a_text a_d a_n a_power a_limbs c_d c_n c_power c_limbs v_thrown v_size v_used_142 v_at v_d_142 v_n_142 v_power_142 v_limbs_142)) hD hS hA [0, 2, 3, 4, 5] rfl
  refine va_callv (va_runV (As := [.long ((2 * r150) + 1), .int (r157 - 1), .int 5600]) (rest := []) ⟨hx, hb, hml, hown, hws⟩ (c_X2_row l dC dI  a_this a_text a_d a_n a_power a_limbs c_d c_n c_power c_limbs (Array.size H) ((2 * r150) + 1) (r157 - 1) 5600 v_thrown v_size v_used_142 v_at v_d_142 v_n_142 v_power_142 v_limbs_142 v_used_165 v_d_165 v_n_165 v_power_165 v_limbs_165 hc) (cwV 3 hws (gV ww_262 ww_263 ww_264 ww_5 ww_265) rfl rfl rfl (by decide +kernel) ⟨Nat.le_of_ble_eq_true rfl, Nat.le_of_ble_eq_true rfl⟩) ⟨(fun a U g mk q => by obtain ⟨q0, q1, qP, qK, qD⟩ := q; exact ⟨q0, q1, qP, va_K.moved (u := U) (U := U.calling g mk a) (Vm.Alike.refl U.vm) qK, qD⟩), va_recv hKc hPc (ci := 2) (q0 := 0) rfl rfl, (fun U hU hW => ⟨rfl, by rw [hU], by rw [hU]; exact hPc, va_K.moved hW.alike hKc, hDc.weaken (fun _ _ _ _ => trivial)⟩)⟩ rfl rfl hl.1 rfl (lv_room (Nat.le_of_ble_eq_true rfl)) dX2_shortest_165 ⟨Nat.zero_le _, Nat.zero_le _⟩) hS (fun q _ h => hFc q h) hFc (fun u9 t H1 locs ht hvm hw hB hz1 hk1 hS => ?_)
  obtain ⟨hP1, hK1, hD1⟩ := hB
  rw [ht] at hP1
  obtain ⟨hP, hD⟩ := va_join (wr := [(a_text, .inl (c_text, 400, .inl v_text))]) (w1 := (wd_X2_row a_this a_text a_d a_n a_power a_limbs c_d c_n c_power c_limbs v_thrown v_size v_used_165 v_at v_d_165 v_n_165 v_power_165 v_limbs_165)) hP hD [0, 2, 3, 4, 5] [1] rfl rfl (by decide) (by decide) hk1 hFc hP1 hD1
  generalize H1 = H at hP hS ⊢
  have hP : va_P (dC, dI) vwCl (wd_X2_shortest a_this a_text a_d a_n a_power a_limbs c_text c_d c_n c_power c_limbs v_thrown v_size v_used_165 v_at v_text v_d_165 v_n_165 v_power_165 v_limbs_165) H := hP.sub [1, 0, 2, 3, 4, 5] rfl
  have hD : va_D A (wd_X2_shortest a_this a_text a_d a_n a_power a_limbs c_text c_d c_n c_power c_limbs v_thrown v_size v_used_165 v_at v_text v_d_165 v_n_165 v_power_165 v_limbs_165) := hD.sub [1, 0, 2, 3, 4, 5] (by decide) rfl
  clear hP1 hK1 hD1 hPc hDc hKc hFc hk1 hz1 ht hvm
  refine lv_iconst (v := 1) hx hb dX2_shortest_168 (by decide) ?_
  refine lv_istore (lv' := [(6, .int 1), (0, .ref a_this), (3, .long l3)]) hx hb dX2_shortest_169 hl (by decide) rfl (fun ls hl => ?_)
  exact w_X2_shortest_171 l a_this a_text a_d a_n a_power a_limbs c_text c_d c_n c_power c_limbs hx hb hr hml hown hws hlocks hA FU l3 1 v_thrown v_size v_used_165 v_at v_text v_d_165 v_n_165 v_power_165 v_limbs_165 o_r o_thrown o_size o_used o_text o_d o_n o_power o_limbs h H locs hK hP hD hS ls (lv_sub hl [1, 2, 0] rfl)
set_option maxHeartbeats 4000000 in
set_option maxRecDepth 100000 in
theorem w_X2_shortest_124 (l : Launch) {p : Program} {e : Env} {s : State} {m : MethodId} {args : Array Value} {below : List Frame} {meth : Method} {c : Code} {A : Nat → Prop} {dC : Nat → ClassId} {dI : Nat → Nat → Nat} (a_this a_text a_d a_n a_power a_limbs : Nat) (c_text c_d c_n c_power c_limbs : ClassId) (hx : p.tables.exec = Jvm.exec) (hb : c.code = cX2_shortest) (hr : meth.sig.returnType = (some .int)) (hml : c.maxLocals = 10) (hown : s.vm.findClass RX2 = some m.cls) (hws : ∀ w ∈ wsL_law, w.before args s = true) (hlocks : meth.locks = false) (hA : ∀ q : Nat, s.heap.size ≤ q → A q) : ∀ (l3 : Int64) (l5 : Int32) (s1 : Int64) (v_thrown : Int32) (v_size : Int32) (v_used : Int32) (v_at : Int32) (v_text : Nat → Int32) (v_d : Nat → Int32) (v_n : Nat → Int32) (v_power : Nat → Int32) (v_limbs : Nat → Int64) (o_r : Int32) (o_thrown : Int32) (o_size : Int32) (o_used : Int32) (o_text : Nat → Int32) (o_d : Nat → Int32) (o_n : Nat → Int32) (o_power : Nat → Int32) (o_limbs : Nat → Int64), f_X2_shortest_b124 l3 l5 s1 v_thrown v_size v_used v_text v_d v_n v_power v_limbs = some (o_r, o_thrown, o_size, o_used, o_text, o_d, o_n, o_power, o_limbs) → ∀ (H : Heap) (locs : List Loc), va_K (dC, dI) vwCl [(c_text, .int), (c_d, .int), (c_n, .int), (c_power, .int), (c_limbs, .long)] s → va_P (dC, dI) vwCl (wd_X2_shortest a_this a_text a_d a_n a_power a_limbs c_text c_d c_n c_power c_limbs v_thrown v_size v_used v_at v_text v_d v_n v_power v_limbs) H → va_D A (wd_X2_shortest a_this a_text a_d a_n a_power a_limbs c_text c_d c_n c_power c_limbs v_thrown v_size v_used v_at v_text v_d v_n v_power v_limbs) → va_S A s.heap H locs → ∀ (ls : Array Slot), lv_has ls 10 [(0, .ref a_this), (3, .long l3), (5, .int l5)] → W p l e (headSpec (w_X2_shortest) ({ frames := 3, cells := 0, slots := 0, locals := 75 } : Room)).room s m args below meth c H locs 0 0 (MQ below (va_Qi (fun r9 (_ : Unit) => r9 = o_r) (fun (_ : Unit) t => va_P (dC, dI) vwCl (wd_X2_shortest a_this a_text a_d a_n a_power a_limbs c_text c_d c_n c_power c_limbs o_thrown o_size o_used v_at o_text o_d o_n o_power o_limbs) t.heap ∧ va_K (dC, dI) vwCl [(c_text, .int), (c_d, .int), (c_n, .int), (c_power, .int), (c_limbs, .long)] t ∧ va_D A (wd_X2_shortest a_this a_text a_d a_n a_power a_limbs c_text c_d c_n c_power c_limbs o_thrown o_size o_used v_at o_text o_d o_n o_power o_limbs)) A) args s 0 0 A) (F0 m 124 ls [.long s1, .ref a_this]) := by
  intro l3 l5 s1 v_thrown v_size v_used v_at v_text v_d v_n v_power v_limbs o_r o_thrown o_size o_used o_text o_d o_n o_power o_limbs h H locs hK hP hD hS ls hl
  unfold f_X2_shortest_b124 at h
  refine lv_lload_n hx hb dX2_shortest_124 rfl (lv_at hl 1 rfl) ?_
  obtain ⟨r125, hc, h⟩ := bd h
  have hPc := hP.sub (ws' := ([] : va_W)) [] rfl
  have hDc := hD.sub (ws' := ([] : va_W)) [] (by decide) rfl
  have hKc := hK.sub (tys' := []) [] rfl
  have hFc := va_free (wc := ([] : va_W)) hD hS hA [] rfl
  refine va_calli (va_runS (As := [.long l3]) (rest := [.long s1, .ref a_this]) ⟨hx, hb, hml, hown, hws⟩ (c_X2_two l dC dI   (Array.size H) l3  r125 hc) (va_cwS 1 hws (gS ww_259 ww_260 ww_5 ww_261) rfl rfl rfl (by decide +kernel) ⟨Nat.le_of_ble_eq_true rfl, Nat.le_of_ble_eq_true rfl⟩) ⟨(fun a U g mk q => by obtain ⟨q0, q1, qP, qK, qD⟩ := q; exact ⟨q0, q1, qP, va_K.moved (u := U) (U := U.calling g mk a) (Vm.Alike.refl U.vm) qK, qD⟩), (fun U hU hW => ⟨rfl, by rw [hU], by rw [hU]; exact hPc, va_K.moved hW.alike hKc, hDc.weaken (fun _ _ _ _ => trivial)⟩)⟩ rfl rfl hl.1 rfl (lv_room (Nat.le_of_ble_eq_true rfl)) dX2_shortest_125 ⟨Nat.zero_le _, Nat.zero_le _⟩) hS (fun q _ h => hFc q h) hFc (fun r9 u9 t H1 locs ht hvm hw hB hz1 hk1 hS => ?_)
  obtain ⟨hP1, hK1, hD1⟩ := hB
  rw [ht] at hP1
  subst r9
  obtain ⟨hP, hD⟩ := va_join (wr := [(a_this, .inr (2, [.int v_thrown, .ref a_text, .int v_size, .ref a_d, .ref a_n, .ref a_power, .ref a_limbs, .int v_used, .int v_at])), (a_text, .inl (c_text, 400, .inl v_text)), (a_d, .inl (c_d, 7000, .inl v_d)), (a_n, .inl (c_n, 7000, .inl v_n)), (a_power, .inl (c_power, 7000, .inl v_power)), (a_limbs, .inl (c_limbs, 160, .inr (.inl v_limbs)))]) (w1 := ([] : va_W)) hP hD [] [0, 1, 2, 3, 4, 5] rfl rfl (by decide) (by decide) hk1 hFc hP1 hD1
  generalize H1 = H at hP hS ⊢
  have hP : va_P (dC, dI) vwCl (wd_X2_shortest a_this a_text a_d a_n a_power a_limbs c_text c_d c_n c_power c_limbs v_thrown v_size v_used v_at v_text v_d v_n v_power v_limbs) H := hP.sub [0, 1, 2, 3, 4, 5] rfl
  have hD : va_D A (wd_X2_shortest a_this a_text a_d a_n a_power a_limbs c_text c_d c_n c_power c_limbs v_thrown v_size v_used v_at v_text v_d v_n v_power v_limbs) := hD.sub [0, 1, 2, 3, 4, 5] (by decide) rfl
  clear hP1 hK1 hD1 hPc hDc hKc hFc hk1 hz1 ht hvm
  refine lv_iload hx hb dX2_shortest_128 (lv_at hl 2 rfl) ?_
  refine lv_if_eq (tgt := 137) hx hb dX2_shortest_130 (by decide) (fun c9 => ?_) (fun c9 => ?_)
  · have h := (if_pos c9).symm.trans h
    refine lv_iconst (v := 1) hx hb dX2_shortest_137 (by decide) ?_
    exact w_X2_shortest_138 l a_this a_text a_d a_n a_power a_limbs c_text c_d c_n c_power c_limbs hx hb hr hml hown hws hlocks hA l3 s1 r125 1 v_thrown v_size v_used v_at v_text v_d v_n v_power v_limbs o_r o_thrown o_size o_used o_text o_d o_n o_power o_limbs h H locs hK hP hD hS ls (lv_sub hl [0, 1] rfl)
  · have h := (if_neg c9).symm.trans h
    refine lv_iconst (v := 2) hx hb dX2_shortest_133 (by decide) ?_
    refine lv_goto (tgt := 138) hx hb dX2_shortest_134 (by decide) ?_
    exact w_X2_shortest_138 l a_this a_text a_d a_n a_power a_limbs c_text c_d c_n c_power c_limbs hx hb hr hml hown hws hlocks hA l3 s1 r125 2 v_thrown v_size v_used v_at v_text v_d v_n v_power v_limbs o_r o_thrown o_size o_used o_text o_d o_n o_power o_limbs h H locs hK hP hD hS ls (lv_sub hl [0, 1] rfl)
set_option maxHeartbeats 4000000 in
set_option maxRecDepth 100000 in
theorem w_X2_shortest_93 (l : Launch) {p : Program} {e : Env} {s : State} {m : MethodId} {args : Array Value} {below : List Frame} {meth : Method} {c : Code} {A : Nat → Prop} {dC : Nat → ClassId} {dI : Nat → Nat → Nat} (a_this a_text a_d a_n a_power a_limbs : Nat) (c_text c_d c_n c_power c_limbs : ClassId) (hx : p.tables.exec = Jvm.exec) (hb : c.code = cX2_shortest) (hr : meth.sig.returnType = (some .int)) (hml : c.maxLocals = 10) (hown : s.vm.findClass RX2 = some m.cls) (hws : ∀ w ∈ wsL_law, w.before args s = true) (hlocks : meth.locks = false) (hA : ∀ q : Nat, s.heap.size ≤ q → A q) : ∀ (l3 : Int64) (s0 : Int32) (v_thrown : Int32) (v_size : Int32) (v_used : Int32) (v_at : Int32) (v_text : Nat → Int32) (v_d : Nat → Int32) (v_n : Nat → Int32) (v_power : Nat → Int32) (v_limbs : Nat → Int64) (o_r : Int32) (o_thrown : Int32) (o_size : Int32) (o_used : Int32) (o_text : Nat → Int32) (o_d : Nat → Int32) (o_n : Nat → Int32) (o_power : Nat → Int32) (o_limbs : Nat → Int64), f_X2_shortest_b93 l3 s0 v_thrown v_size v_used v_text v_d v_n v_power v_limbs = some (o_r, o_thrown, o_size, o_used, o_text, o_d, o_n, o_power, o_limbs) → ∀ (H : Heap) (locs : List Loc), va_K (dC, dI) vwCl [(c_text, .int), (c_d, .int), (c_n, .int), (c_power, .int), (c_limbs, .long)] s → va_P (dC, dI) vwCl (wd_X2_shortest a_this a_text a_d a_n a_power a_limbs c_text c_d c_n c_power c_limbs v_thrown v_size v_used v_at v_text v_d v_n v_power v_limbs) H → va_D A (wd_X2_shortest a_this a_text a_d a_n a_power a_limbs c_text c_d c_n c_power c_limbs v_thrown v_size v_used v_at v_text v_d v_n v_power v_limbs) → va_S A s.heap H locs → ∀ (ls : Array Slot), lv_has ls 10 [(0, .ref a_this), (3, .long l3)] → W p l e (headSpec (w_X2_shortest) ({ frames := 3, cells := 0, slots := 0, locals := 75 } : Room)).room s m args below meth c H locs 0 0 (MQ below (va_Qi (fun r9 (_ : Unit) => r9 = o_r) (fun (_ : Unit) t => va_P (dC, dI) vwCl (wd_X2_shortest a_this a_text a_d a_n a_power a_limbs c_text c_d c_n c_power c_limbs o_thrown o_size o_used v_at o_text o_d o_n o_power o_limbs) t.heap ∧ va_K (dC, dI) vwCl [(c_text, .int), (c_d, .int), (c_n, .int), (c_power, .int), (c_limbs, .long)] t ∧ va_D A (wd_X2_shortest a_this a_text a_d a_n a_power a_limbs c_text c_d c_n c_power c_limbs o_thrown o_size o_used v_at o_text o_d o_n o_power o_limbs)) A) args s 0 0 A) (F0 m 93 ls [.int s0]) := by
  intro l3 s0 v_thrown v_size v_used v_at v_text v_d v_n v_power v_limbs o_r o_thrown o_size o_used o_text o_d o_n o_power o_limbs h H locs hK hP hD hS ls hl
  unfold f_X2_shortest_b93 at h
  refine lv_istore (lv' := [(5, .int s0), (0, .ref a_this), (3, .long l3)]) hx hb dX2_shortest_93 hl (by decide) rfl (fun ls hl => ?_)
  refine lv_aload_n hx hb dX2_shortest_95 rfl (lv_at hl 1 rfl) ?_
  refine lv_iload hx hb dX2_shortest_96 (lv_at hl 0 rfl) ?_
  refine lv_if_eq (tgt := 114) hx hb dX2_shortest_98 (by decide) (fun c9 => ?_) (fun c9 => ?_)
  · have h := (if_pos c9).symm.trans h
    refine lv_ldc2 (v := 2) hx hb hown (hws _ ww_249) dX2_shortest_114 ?_
    refine lv_lload_n hx hb dX2_shortest_117 rfl (lv_at hl 2 rfl) ?_
    obtain ⟨r118, hc, h⟩ := bd h
    have hPc := hP.sub (ws' := ([] : va_W)) [] rfl
    have hDc := hD.sub (ws' := ([] : va_W)) [] (by decide) rfl
    have hKc := hK.sub (tys' := []) [] rfl
    have hFc := va_free (wc := ([] : va_W)) hD hS hA [] rfl
    refine va_calll (va_runS (As := [.long l3]) (rest := [.long 2, .ref a_this]) ⟨hx, hb, hml, hown, hws⟩ (c_X2_whole l dC dI   (Array.size H) l3  r118 hc) (va_cwS 1 hws (gS ww_254 ww_255 ww_5 ww_256) rfl rfl rfl (by decide +kernel) ⟨Nat.le_of_ble_eq_true rfl, Nat.le_of_ble_eq_true rfl⟩) ⟨(fun a U g mk q => by obtain ⟨q0, q1, qP, qK, qD⟩ := q; exact ⟨q0, q1, qP, va_K.moved (u := U) (U := U.calling g mk a) (Vm.Alike.refl U.vm) qK, qD⟩), (fun U hU hW => ⟨rfl, by rw [hU], by rw [hU]; exact hPc, va_K.moved hW.alike hKc, hDc.weaken (fun _ _ _ _ => trivial)⟩)⟩ rfl rfl hl.1 rfl (lv_room (Nat.le_of_ble_eq_true rfl)) dX2_shortest_118 ⟨Nat.zero_le _, Nat.zero_le _⟩) hS (fun q _ h => hFc q h) hFc (fun r9 u9 t H1 locs ht hvm hw hB hz1 hk1 hS => ?_)
    obtain ⟨hP1, hK1, hD1⟩ := hB
    rw [ht] at hP1
    subst r9
    obtain ⟨hP, hD⟩ := va_join (wr := [(a_this, .inr (2, [.int v_thrown, .ref a_text, .int v_size, .ref a_d, .ref a_n, .ref a_power, .ref a_limbs, .int v_used, .int v_at])), (a_text, .inl (c_text, 400, .inl v_text)), (a_d, .inl (c_d, 7000, .inl v_d)), (a_n, .inl (c_n, 7000, .inl v_n)), (a_power, .inl (c_power, 7000, .inl v_power)), (a_limbs, .inl (c_limbs, 160, .inr (.inl v_limbs)))]) (w1 := ([] : va_W)) hP hD [] [0, 1, 2, 3, 4, 5] rfl rfl (by decide) (by decide) hk1 hFc hP1 hD1
    generalize H1 = H at hP hS ⊢
    have hP : va_P (dC, dI) vwCl (wd_X2_shortest a_this a_text a_d a_n a_power a_limbs c_text c_d c_n c_power c_limbs v_thrown v_size v_used v_at v_text v_d v_n v_power v_limbs) H := hP.sub [0, 1, 2, 3, 4, 5] rfl
    have hD : va_D A (wd_X2_shortest a_this a_text a_d a_n a_power a_limbs c_text c_d c_n c_power c_limbs v_thrown v_size v_used v_at v_text v_d v_n v_power v_limbs) := hD.sub [0, 1, 2, 3, 4, 5] (by decide) rfl
    clear hP1 hK1 hD1 hPc hDc hKc hFc hk1 hz1 ht hvm
    refine lv_lmul hx hb dX2_shortest_121 ?_
    refine lv_lconst (v := 1) hx hb dX2_shortest_122 (by decide) ?_
    refine lv_lsub hx hb dX2_shortest_123 ?_
    exact w_X2_shortest_124 l a_this a_text a_d a_n a_power a_limbs c_text c_d c_n c_power c_limbs hx hb hr hml hown hws hlocks hA l3 s0 ((2 * r118) - 1) v_thrown v_size v_used v_at v_text v_d v_n v_power v_limbs o_r o_thrown o_size o_used o_text o_d o_n o_power o_limbs h H locs hK hP hD hS ls (lv_sub hl [1, 2, 0] rfl)
  · have h := (if_neg c9).symm.trans h
    refine lv_ldc2 (v := 4) hx hb hown (hws _ ww_383) dX2_shortest_101 ?_
    refine lv_lload_n hx hb dX2_shortest_104 rfl (lv_at hl 2 rfl) ?_
    obtain ⟨r105, hc, h⟩ := bd h
    have hPc := hP.sub (ws' := ([] : va_W)) [] rfl
    have hDc := hD.sub (ws' := ([] : va_W)) [] (by decide) rfl
    have hKc := hK.sub (tys' := []) [] rfl
    have hFc := va_free (wc := ([] : va_W)) hD hS hA [] rfl
    refine va_calll (va_runS (As := [.long l3]) (rest := [.long 4, .ref a_this]) ⟨hx, hb, hml, hown, hws⟩ (c_X2_whole l dC dI   (Array.size H) l3  r105 hc) (va_cwS 1 hws (gS ww_254 ww_255 ww_5 ww_256) rfl rfl rfl (by decide +kernel) ⟨Nat.le_of_ble_eq_true rfl, Nat.le_of_ble_eq_true rfl⟩) ⟨(fun a U g mk q => by obtain ⟨q0, q1, qP, qK, qD⟩ := q; exact ⟨q0, q1, qP, va_K.moved (u := U) (U := U.calling g mk a) (Vm.Alike.refl U.vm) qK, qD⟩), (fun U hU hW => ⟨rfl, by rw [hU], by rw [hU]; exact hPc, va_K.moved hW.alike hKc, hDc.weaken (fun _ _ _ _ => trivial)⟩)⟩ rfl rfl hl.1 rfl (lv_room (Nat.le_of_ble_eq_true rfl)) dX2_shortest_105 ⟨Nat.zero_le _, Nat.zero_le _⟩) hS (fun q _ h => hFc q h) hFc (fun r9 u9 t H1 locs ht hvm hw hB hz1 hk1 hS => ?_)
    obtain ⟨hP1, hK1, hD1⟩ := hB
    rw [ht] at hP1
    subst r9
    obtain ⟨hP, hD⟩ := va_join (wr := [(a_this, .inr (2, [.int v_thrown, .ref a_text, .int v_size, .ref a_d, .ref a_n, .ref a_power, .ref a_limbs, .int v_used, .int v_at])), (a_text, .inl (c_text, 400, .inl v_text)), (a_d, .inl (c_d, 7000, .inl v_d)), (a_n, .inl (c_n, 7000, .inl v_n)), (a_power, .inl (c_power, 7000, .inl v_power)), (a_limbs, .inl (c_limbs, 160, .inr (.inl v_limbs)))]) (w1 := ([] : va_W)) hP hD [] [0, 1, 2, 3, 4, 5] rfl rfl (by decide) (by decide) hk1 hFc hP1 hD1
    generalize H1 = H at hP hS ⊢
    have hP : va_P (dC, dI) vwCl (wd_X2_shortest a_this a_text a_d a_n a_power a_limbs c_text c_d c_n c_power c_limbs v_thrown v_size v_used v_at v_text v_d v_n v_power v_limbs) H := hP.sub [0, 1, 2, 3, 4, 5] rfl
    have hD : va_D A (wd_X2_shortest a_this a_text a_d a_n a_power a_limbs c_text c_d c_n c_power c_limbs v_thrown v_size v_used v_at v_text v_d v_n v_power v_limbs) := hD.sub [0, 1, 2, 3, 4, 5] (by decide) rfl
    clear hP1 hK1 hD1 hPc hDc hKc hFc hk1 hz1 ht hvm
    refine lv_lmul hx hb dX2_shortest_108 ?_
    refine lv_lconst (v := 1) hx hb dX2_shortest_109 (by decide) ?_
    refine lv_lsub hx hb dX2_shortest_110 ?_
    refine lv_goto (tgt := 124) hx hb dX2_shortest_111 (by decide) ?_
    exact w_X2_shortest_124 l a_this a_text a_d a_n a_power a_limbs c_text c_d c_n c_power c_limbs hx hb hr hml hown hws hlocks hA l3 s0 ((4 * r105) - 1) v_thrown v_size v_used v_at v_text v_d v_n v_power v_limbs o_r o_thrown o_size o_used o_text o_d o_n o_power o_limbs h H locs hK hP hD hS ls (lv_sub hl [1, 2, 0] rfl)
set_option maxHeartbeats 4000000 in
set_option maxRecDepth 100000 in
theorem w_X2_shortest_92 (l : Launch) {p : Program} {e : Env} {s : State} {m : MethodId} {args : Array Value} {below : List Frame} {meth : Method} {c : Code} {A : Nat → Prop} {dC : Nat → ClassId} {dI : Nat → Nat → Nat} (a_this a_text a_d a_n a_power a_limbs : Nat) (c_text c_d c_n c_power c_limbs : ClassId) (hx : p.tables.exec = Jvm.exec) (hb : c.code = cX2_shortest) (hr : meth.sig.returnType = (some .int)) (hml : c.maxLocals = 10) (hown : s.vm.findClass RX2 = some m.cls) (hws : ∀ w ∈ wsL_law, w.before args s = true) (hlocks : meth.locks = false) (hA : ∀ q : Nat, s.heap.size ≤ q → A q) : ∀ (l3 : Int64) (v_thrown : Int32) (v_size : Int32) (v_used : Int32) (v_at : Int32) (v_text : Nat → Int32) (v_d : Nat → Int32) (v_n : Nat → Int32) (v_power : Nat → Int32) (v_limbs : Nat → Int64) (o_r : Int32) (o_thrown : Int32) (o_size : Int32) (o_used : Int32) (o_text : Nat → Int32) (o_d : Nat → Int32) (o_n : Nat → Int32) (o_power : Nat → Int32) (o_limbs : Nat → Int64), f_X2_shortest_b92 l3 v_thrown v_size v_used v_text v_d v_n v_power v_limbs = some (o_r, o_thrown, o_size, o_used, o_text, o_d, o_n, o_power, o_limbs) → ∀ (H : Heap) (locs : List Loc), va_K (dC, dI) vwCl [(c_text, .int), (c_d, .int), (c_n, .int), (c_power, .int), (c_limbs, .long)] s → va_P (dC, dI) vwCl (wd_X2_shortest a_this a_text a_d a_n a_power a_limbs c_text c_d c_n c_power c_limbs v_thrown v_size v_used v_at v_text v_d v_n v_power v_limbs) H → va_D A (wd_X2_shortest a_this a_text a_d a_n a_power a_limbs c_text c_d c_n c_power c_limbs v_thrown v_size v_used v_at v_text v_d v_n v_power v_limbs) → va_S A s.heap H locs → ∀ (ls : Array Slot), lv_has ls 10 [(0, .ref a_this), (3, .long l3)] → W p l e (headSpec (w_X2_shortest) ({ frames := 3, cells := 0, slots := 0, locals := 75 } : Room)).room s m args below meth c H locs 0 0 (MQ below (va_Qi (fun r9 (_ : Unit) => r9 = o_r) (fun (_ : Unit) t => va_P (dC, dI) vwCl (wd_X2_shortest a_this a_text a_d a_n a_power a_limbs c_text c_d c_n c_power c_limbs o_thrown o_size o_used v_at o_text o_d o_n o_power o_limbs) t.heap ∧ va_K (dC, dI) vwCl [(c_text, .int), (c_d, .int), (c_n, .int), (c_power, .int), (c_limbs, .long)] t ∧ va_D A (wd_X2_shortest a_this a_text a_d a_n a_power a_limbs c_text c_d c_n c_power c_limbs o_thrown o_size o_used v_at o_text o_d o_n o_power o_limbs)) A) args s 0 0 A) (F0 m 92 ls []) := by
  intro l3 v_thrown v_size v_used v_at v_text v_d v_n v_power v_limbs o_r o_thrown o_size o_used o_text o_d o_n o_power o_limbs h H locs hK hP hD hS ls hl
  unfold f_X2_shortest_b92 at h
  refine lv_iconst (v := 0) hx hb dX2_shortest_92 (by decide) ?_
  exact w_X2_shortest_93 l a_this a_text a_d a_n a_power a_limbs c_text c_d c_n c_power c_limbs hx hb hr hml hown hws hlocks hA l3 0 v_thrown v_size v_used v_at v_text v_d v_n v_power v_limbs o_r o_thrown o_size o_used o_text o_d o_n o_power o_limbs h H locs hK hP hD hS ls (lv_sub hl [0, 1] rfl)
set_option maxHeartbeats 4000000 in
set_option maxRecDepth 100000 in
theorem w_X2_shortest_14 (l : Launch) {p : Program} {e : Env} {s : State} {m : MethodId} {args : Array Value} {below : List Frame} {meth : Method} {c : Code} {A : Nat → Prop} {dC : Nat → ClassId} {dI : Nat → Nat → Nat} (a_this a_text a_d a_n a_power a_limbs : Nat) (c_text c_d c_n c_power c_limbs : ClassId) (hx : p.tables.exec = Jvm.exec) (hb : c.code = cX2_shortest) (hr : meth.sig.returnType = (some .int)) (hml : c.maxLocals = 10) (hown : s.vm.findClass RX2 = some m.cls) (hws : ∀ w ∈ wsL_law, w.before args s = true) (hlocks : meth.locks = false) (hA : ∀ q : Nat, s.heap.size ≤ q → A q) : ∀ (l1 : Int64) (s1 : Int32) (v_thrown : Int32) (v_size : Int32) (v_used : Int32) (v_at : Int32) (v_text : Nat → Int32) (v_d : Nat → Int32) (v_n : Nat → Int32) (v_power : Nat → Int32) (v_limbs : Nat → Int64) (o_r : Int32) (o_thrown : Int32) (o_size : Int32) (o_used : Int32) (o_text : Nat → Int32) (o_d : Nat → Int32) (o_n : Nat → Int32) (o_power : Nat → Int32) (o_limbs : Nat → Int64), f_X2_shortest_b14 l1 s1 v_thrown v_size v_used v_text v_d v_n v_power v_limbs = some (o_r, o_thrown, o_size, o_used, o_text, o_d, o_n, o_power, o_limbs) → ∀ (H : Heap) (locs : List Loc), va_K (dC, dI) vwCl [(c_text, .int), (c_d, .int), (c_n, .int), (c_power, .int), (c_limbs, .long)] s → va_P (dC, dI) vwCl (wd_X2_shortest a_this a_text a_d a_n a_power a_limbs c_text c_d c_n c_power c_limbs v_thrown v_size v_used v_at v_text v_d v_n v_power v_limbs) H → va_D A (wd_X2_shortest a_this a_text a_d a_n a_power a_limbs c_text c_d c_n c_power c_limbs v_thrown v_size v_used v_at v_text v_d v_n v_power v_limbs) → va_S A s.heap H locs → ∀ (ls : Array Slot), lv_has ls 10 [(0, .ref a_this), (1, .long l1)] → W p l e (headSpec (w_X2_shortest) ({ frames := 3, cells := 0, slots := 0, locals := 75 } : Room)).room s m args below meth c H locs 0 0 (MQ below (va_Qi (fun r9 (_ : Unit) => r9 = o_r) (fun (_ : Unit) t => va_P (dC, dI) vwCl (wd_X2_shortest a_this a_text a_d a_n a_power a_limbs c_text c_d c_n c_power c_limbs o_thrown o_size o_used v_at o_text o_d o_n o_power o_limbs) t.heap ∧ va_K (dC, dI) vwCl [(c_text, .int), (c_d, .int), (c_n, .int), (c_power, .int), (c_limbs, .long)] t ∧ va_D A (wd_X2_shortest a_this a_text a_d a_n a_power a_limbs c_text c_d c_n c_power c_limbs o_thrown o_size o_used v_at o_text o_d o_n o_power o_limbs)) A) args s 0 0 A) (F0 m 14 ls [.int s1, .ref a_this]) := by
  intro l1 s1 v_thrown v_size v_used v_at v_text v_d v_n v_power v_limbs o_r o_thrown o_size o_used o_text o_d o_n o_power o_limbs h H locs hK hP hD hS ls hl
  unfold f_X2_shortest_b14 at h
  refine va_put (D := (dC, dI)) (ci := 2) (v := .int s1) (ty := .int) (C := RX2) (T := TX2) (N := 9) hx hb hws inlX2 tyX2 tyX2_ok nmX2 hown hK hP hD hS 0 rfl rfl 0 (by decide) (hws _ ww_48) (fun _ h9 => h9) rfl (by decide +kernel) rfl rfl (Nat.le_of_ble_eq_true rfl) dX2_shortest_14 (fun H locs hP hD hS => ?_)
  have hP : va_P (dC, dI) vwCl (wd_X2_shortest a_this a_text a_d a_n a_power a_limbs c_text c_d c_n c_power c_limbs s1 v_size v_used v_at v_text v_d v_n v_power v_limbs) H := hP
  have hD : va_D A (wd_X2_shortest a_this a_text a_d a_n a_power a_limbs c_text c_d c_n c_power c_limbs s1 v_size v_used v_at v_text v_d v_n v_power v_limbs) := hD
  refine lv_aload_n hx hb dX2_shortest_17 rfl (lv_at hl 0 rfl) ?_
  refine va_get (D := (dC, dI)) (ci := 2) (v := .int s1) (C := RX2) (T := TX2) (N := 9) hx hb hws inlX2 hown hK hP 0 rfl rfl 0 (by decide) (hws _ ww_48) (fun _ h9 => h9) rfl dX2_shortest_18 ?_
  refine lv_if_eq (tgt := 26) hx hb dX2_shortest_21 (by decide) (fun c9 => ?_) (fun c9 => ?_)
  · have h := (if_pos c9).symm.trans h
    refine lv_lload_n hx hb dX2_shortest_26 rfl (lv_at hl 1 rfl) ?_
    refine lv_ldc2 (v := 9223372036854775807) hx hb hown (hws _ ww_330) dX2_shortest_27 ?_
    refine lv_land hx hb dX2_shortest_30 ?_
    refine lv_lstore_n (lv' := [(3, .long (l1 &&& 9223372036854775807)), (0, .ref a_this), (1, .long l1)]) hx hb dX2_shortest_31 rfl hl (by decide) rfl (fun ls hl => ?_)
    refine lv_lload_n hx hb dX2_shortest_32 rfl (lv_at hl 0 rfl) ?_
    refine lv_lconst (v := 0) hx hb dX2_shortest_33 (by decide) ?_
    refine W.lcmp hx hb dX2_shortest_34 ?_
    refine lv_if_ne (tgt := 61) hx hb dX2_shortest_35 (by decide) (fun c9 => ?_) (fun c9 => ?_)
    · have h := (if_neg c9).symm.trans h
      refine lv_aload_n hx hb dX2_shortest_61 rfl (lv_at hl 1 rfl) ?_
      refine lv_lload_n hx hb dX2_shortest_62 rfl (lv_at hl 0 rfl) ?_
      refine lv_sipush (v := 1400) hx hb dX2_shortest_63 (by decide) ?_
      obtain ⟨⟨v_used_66, v_d_66, v_n_66, v_power_66, v_limbs_66⟩, hc, h⟩ := bd h
      dsimp only at h
      have hPc := hP.sub (ws' := (wd_X2_rowOf a_this a_text a_d a_n a_power a_limbs c_d c_n c_power c_limbs s1 v_size v_used v_at v_d v_n v_power v_limbs)) [0, 2, 3, 4, 5] rfl
      have hDc := hD.sub (ws' := (wd_X2_rowOf a_this a_text a_d a_n a_power a_limbs c_d c_n c_power c_limbs s1 v_size v_used v_at v_d v_n v_power v_limbs)) [0, 2, 3, 4, 5] (by decide) rfl
      have hKc := hK.sub (tys' := [(c_d, .int), (c_n, .int), (c_power, .int), (c_limbs, .long)]) [1, 2, 3, 4] rfl
      have hFc := va_free (wc := (wd_X2_rowOf a_this a_text a_d a_n a_power a_limbs c_d c_n c_power c_limbs s1 v_size v_used v_at v_d v_n v_power v_limbs)) hD hS hA [0, 2, 3, 4, 5] rfl
      refine va_callv (va_runV (As := [.long (l1 &&& 9223372036854775807), .int 1400]) (rest := []) ⟨hx, hb, hml, hown, hws⟩ (c_X2_rowOf l dC dI  a_this a_text a_d a_n a_power a_limbs c_d c_n c_power c_limbs (Array.size H) (l1 &&& 9223372036854775807) 1400 s1 v_size v_used v_at v_d v_n v_power v_limbs v_used_66 v_d_66 v_n_66 v_power_66 v_limbs_66 hc) (cwV 2 hws (gV ww_250 ww_251 ww_252 ww_5 ww_253) rfl rfl rfl (by decide +kernel) ⟨Nat.le_of_ble_eq_true rfl, Nat.le_of_ble_eq_true rfl⟩) ⟨(fun a U g mk q => by obtain ⟨q0, q1, qP, qK, qD⟩ := q; exact ⟨q0, q1, qP, va_K.moved (u := U) (U := U.calling g mk a) (Vm.Alike.refl U.vm) qK, qD⟩), va_recv hKc hPc (ci := 2) (q0 := 0) rfl rfl, (fun U hU hW => ⟨rfl, by rw [hU], by rw [hU]; exact hPc, va_K.moved hW.alike hKc, hDc.weaken (fun _ _ _ _ => trivial)⟩)⟩ rfl rfl hl.1 rfl (lv_room (Nat.le_of_ble_eq_true rfl)) dX2_shortest_66 ⟨Nat.zero_le _, Nat.zero_le _⟩) hS (fun q _ h => hFc q h) hFc (fun u9 t H1 locs ht hvm hw hB hz1 hk1 hS => ?_)
      obtain ⟨hP1, hK1, hD1⟩ := hB
      rw [ht] at hP1
      obtain ⟨hP, hD⟩ := va_join (wr := [(a_text, .inl (c_text, 400, .inl v_text))]) (w1 := (wd_X2_rowOf a_this a_text a_d a_n a_power a_limbs c_d c_n c_power c_limbs s1 v_size v_used_66 v_at v_d_66 v_n_66 v_power_66 v_limbs_66)) hP hD [0, 2, 3, 4, 5] [1] rfl rfl (by decide) (by decide) hk1 hFc hP1 hD1
      generalize H1 = H at hP hS ⊢
      have hP : va_P (dC, dI) vwCl (wd_X2_shortest a_this a_text a_d a_n a_power a_limbs c_text c_d c_n c_power c_limbs s1 v_size v_used_66 v_at v_text v_d_66 v_n_66 v_power_66 v_limbs_66) H := hP.sub [1, 0, 2, 3, 4, 5] rfl
      have hD : va_D A (wd_X2_shortest a_this a_text a_d a_n a_power a_limbs c_text c_d c_n c_power c_limbs s1 v_size v_used_66 v_at v_text v_d_66 v_n_66 v_power_66 v_limbs_66) := hD.sub [1, 0, 2, 3, 4, 5] (by decide) rfl
      clear hP1 hK1 hD1 hPc hDc hKc hFc hk1 hz1 ht hvm
      refine lv_lload_n hx hb dX2_shortest_69 rfl (lv_at hl 0 rfl) ?_
      refine lv_ldc2 (v := 4503599627370495) hx hb hown (hws _ ww_257) dX2_shortest_70 ?_
      refine lv_land hx hb dX2_shortest_73 ?_
      refine lv_lconst (v := 0) hx hb dX2_shortest_74 (by decide) ?_
      refine W.lcmp hx hb dX2_shortest_75 ?_
      refine lv_if_ne (tgt := 92) hx hb dX2_shortest_76 (by decide) (fun c9 => ?_) (fun c9 => ?_)
      · have h := (if_neg c9).symm.trans h
        exact w_X2_shortest_92 l a_this a_text a_d a_n a_power a_limbs c_text c_d c_n c_power c_limbs hx hb hr hml hown hws hlocks hA (l1 &&& 9223372036854775807) s1 v_size v_used_66 v_at v_text v_d_66 v_n_66 v_power_66 v_limbs_66 o_r o_thrown o_size o_used o_text o_d o_n o_power o_limbs h H locs hK hP hD hS ls (lv_sub hl [1, 0] rfl)
      · have h := (if_pos c9).symm.trans h
        refine lv_lload_n hx hb dX2_shortest_79 rfl (lv_at hl 0 rfl) ?_
        refine lv_bipush (v := 52) hx hb dX2_shortest_80 (by decide) ?_
        refine lv_lushr hx hb dX2_shortest_82 rfl ?_
        refine lv_lconst (v := 1) hx hb dX2_shortest_83 (by decide) ?_
        refine W.lcmp hx hb dX2_shortest_84 ?_
        refine lv_if_le (tgt := 92) hx hb dX2_shortest_85 (by decide) (fun c9 => ?_) (fun c9 => ?_)
        · have h := (if_pos c9).symm.trans h
          exact w_X2_shortest_92 l a_this a_text a_d a_n a_power a_limbs c_text c_d c_n c_power c_limbs hx hb hr hml hown hws hlocks hA (l1 &&& 9223372036854775807) s1 v_size v_used_66 v_at v_text v_d_66 v_n_66 v_power_66 v_limbs_66 o_r o_thrown o_size o_used o_text o_d o_n o_power o_limbs h H locs hK hP hD hS ls (lv_sub hl [1, 0] rfl)
        · have h := (if_neg c9).symm.trans h
          refine lv_iconst (v := 1) hx hb dX2_shortest_88 (by decide) ?_
          refine lv_goto (tgt := 93) hx hb dX2_shortest_89 (by decide) ?_
          exact w_X2_shortest_93 l a_this a_text a_d a_n a_power a_limbs c_text c_d c_n c_power c_limbs hx hb hr hml hown hws hlocks hA (l1 &&& 9223372036854775807) 1 s1 v_size v_used_66 v_at v_text v_d_66 v_n_66 v_power_66 v_limbs_66 o_r o_thrown o_size o_used o_text o_d o_n o_power o_limbs h H locs hK hP hD hS ls (lv_sub hl [1, 0] rfl)
    · have h := (if_pos c9).symm.trans h
      refine lv_aload_n hx hb dX2_shortest_38 rfl (lv_at hl 1 rfl) ?_
      refine lv_bipush (v := 48) hx hb dX2_shortest_39 (by decide) ?_
      obtain ⟨⟨v_size_41, v_text_41⟩, hc, h⟩ := bd h
      dsimp only at h
      have hPc := hP.sub (ws' := (wd_X2_put a_this a_text a_d a_n a_power a_limbs c_text s1 v_size v_used v_at v_text)) [0, 1] rfl
      have hDc := hD.sub (ws' := (wd_X2_put a_this a_text a_d a_n a_power a_limbs c_text s1 v_size v_used v_at v_text)) [0, 1] (by decide) rfl
      have hKc := hK.sub (tys' := [(c_text, .int)]) [0] rfl
      have hFc := va_free (wc := (wd_X2_put a_this a_text a_d a_n a_power a_limbs c_text s1 v_size v_used v_at v_text)) hD hS hA [0, 1] rfl
      refine va_callv (va_runV (As := [.int 48]) (rest := []) ⟨hx, hb, hml, hown, hws⟩ (c_X2_put l dC dI  a_this a_text a_d a_n a_power a_limbs c_text (Array.size H) 48 s1 v_size v_used v_at v_text v_size_41 v_text_41 hc) (cwV 1 hws (gV ww_335 ww_336 ww_337 ww_5 ww_338) rfl rfl rfl (by decide +kernel) ⟨Nat.le_of_ble_eq_true rfl, Nat.le_of_ble_eq_true rfl⟩) ⟨(fun a U g mk q => by obtain ⟨q0, q1, qP, qK, qD⟩ := q; exact ⟨q0, q1, qP, va_K.moved (u := U) (U := U.calling g mk a) (Vm.Alike.refl U.vm) qK, qD⟩), va_recv hKc hPc (ci := 2) (q0 := 0) rfl rfl, (fun U hU hW => ⟨rfl, by rw [hU], by rw [hU]; exact hPc, va_K.moved hW.alike hKc, hDc.weaken (fun _ _ _ _ => trivial)⟩)⟩ rfl rfl hl.1 rfl (lv_room (Nat.le_of_ble_eq_true rfl)) dX2_shortest_41 ⟨Nat.zero_le _, Nat.zero_le _⟩) hS (fun q _ h => hFc q h) hFc (fun u9 t H1 locs ht hvm hw hB hz1 hk1 hS => ?_)
      obtain ⟨hP1, hK1, hD1⟩ := hB
      rw [ht] at hP1
      obtain ⟨hP, hD⟩ := va_join (wr := [(a_d, .inl (c_d, 7000, .inl v_d)), (a_n, .inl (c_n, 7000, .inl v_n)), (a_power, .inl (c_power, 7000, .inl v_power)), (a_limbs, .inl (c_limbs, 160, .inr (.inl v_limbs)))]) (w1 := (wd_X2_put a_this a_text a_d a_n a_power a_limbs c_text s1 v_size_41 v_used v_at v_text_41)) hP hD [0, 1] [2, 3, 4, 5] rfl rfl (by decide) (by decide) hk1 hFc hP1 hD1
      generalize H1 = H at hP hS ⊢
      have hP : va_P (dC, dI) vwCl (wd_X2_shortest a_this a_text a_d a_n a_power a_limbs c_text c_d c_n c_power c_limbs s1 v_size_41 v_used v_at v_text_41 v_d v_n v_power v_limbs) H := hP.sub [4, 5, 0, 1, 2, 3] rfl
      have hD : va_D A (wd_X2_shortest a_this a_text a_d a_n a_power a_limbs c_text c_d c_n c_power c_limbs s1 v_size_41 v_used v_at v_text_41 v_d v_n v_power v_limbs) := hD.sub [4, 5, 0, 1, 2, 3] (by decide) rfl
      clear hP1 hK1 hD1 hPc hDc hKc hFc hk1 hz1 ht hvm
      refine lv_aload_n hx hb dX2_shortest_44 rfl (lv_at hl 1 rfl) ?_
      refine lv_bipush (v := 101) hx hb dX2_shortest_45 (by decide) ?_
      obtain ⟨⟨v_size_47, v_text_47⟩, hc, h⟩ := bd h
      dsimp only at h
      have hPc := hP.sub (ws' := (wd_X2_put a_this a_text a_d a_n a_power a_limbs c_text s1 v_size_41 v_used v_at v_text_41)) [0, 1] rfl
      have hDc := hD.sub (ws' := (wd_X2_put a_this a_text a_d a_n a_power a_limbs c_text s1 v_size_41 v_used v_at v_text_41)) [0, 1] (by decide) rfl
      have hKc := hK.sub (tys' := [(c_text, .int)]) [0] rfl
      have hFc := va_free (wc := (wd_X2_put a_this a_text a_d a_n a_power a_limbs c_text s1 v_size_41 v_used v_at v_text_41)) hD hS hA [0, 1] rfl
      refine va_callv (va_runV (As := [.int 101]) (rest := []) ⟨hx, hb, hml, hown, hws⟩ (c_X2_put l dC dI  a_this a_text a_d a_n a_power a_limbs c_text (Array.size H) 101 s1 v_size_41 v_used v_at v_text_41 v_size_47 v_text_47 hc) (cwV 1 hws (gV ww_335 ww_336 ww_337 ww_5 ww_338) rfl rfl rfl (by decide +kernel) ⟨Nat.le_of_ble_eq_true rfl, Nat.le_of_ble_eq_true rfl⟩) ⟨(fun a U g mk q => by obtain ⟨q0, q1, qP, qK, qD⟩ := q; exact ⟨q0, q1, qP, va_K.moved (u := U) (U := U.calling g mk a) (Vm.Alike.refl U.vm) qK, qD⟩), va_recv hKc hPc (ci := 2) (q0 := 0) rfl rfl, (fun U hU hW => ⟨rfl, by rw [hU], by rw [hU]; exact hPc, va_K.moved hW.alike hKc, hDc.weaken (fun _ _ _ _ => trivial)⟩)⟩ rfl rfl hl.1 rfl (lv_room (Nat.le_of_ble_eq_true rfl)) dX2_shortest_47 ⟨Nat.zero_le _, Nat.zero_le _⟩) hS (fun q _ h => hFc q h) hFc (fun u9 t H1 locs ht hvm hw hB hz1 hk1 hS => ?_)
      obtain ⟨hP1, hK1, hD1⟩ := hB
      rw [ht] at hP1
      obtain ⟨hP, hD⟩ := va_join (wr := [(a_d, .inl (c_d, 7000, .inl v_d)), (a_n, .inl (c_n, 7000, .inl v_n)), (a_power, .inl (c_power, 7000, .inl v_power)), (a_limbs, .inl (c_limbs, 160, .inr (.inl v_limbs)))]) (w1 := (wd_X2_put a_this a_text a_d a_n a_power a_limbs c_text s1 v_size_47 v_used v_at v_text_47)) hP hD [0, 1] [2, 3, 4, 5] rfl rfl (by decide) (by decide) hk1 hFc hP1 hD1
      generalize H1 = H at hP hS ⊢
      have hP : va_P (dC, dI) vwCl (wd_X2_shortest a_this a_text a_d a_n a_power a_limbs c_text c_d c_n c_power c_limbs s1 v_size_47 v_used v_at v_text_47 v_d v_n v_power v_limbs) H := hP.sub [4, 5, 0, 1, 2, 3] rfl
      have hD : va_D A (wd_X2_shortest a_this a_text a_d a_n a_power a_limbs c_text c_d c_n c_power c_limbs s1 v_size_47 v_used v_at v_text_47 v_d v_n v_power v_limbs) := hD.sub [4, 5, 0, 1, 2, 3] (by decide) rfl
      clear hP1 hK1 hD1 hPc hDc hKc hFc hk1 hz1 ht hvm
      refine lv_aload_n hx hb dX2_shortest_50 rfl (lv_at hl 1 rfl) ?_
      refine lv_bipush (v := 48) hx hb dX2_shortest_51 (by decide) ?_
      obtain ⟨⟨v_size_53, v_text_53⟩, hc, h⟩ := bd h
      dsimp only at h
      have hPc := hP.sub (ws' := (wd_X2_put a_this a_text a_d a_n a_power a_limbs c_text s1 v_size_47 v_used v_at v_text_47)) [0, 1] rfl
      have hDc := hD.sub (ws' := (wd_X2_put a_this a_text a_d a_n a_power a_limbs c_text s1 v_size_47 v_used v_at v_text_47)) [0, 1] (by decide) rfl
      have hKc := hK.sub (tys' := [(c_text, .int)]) [0] rfl
      have hFc := va_free (wc := (wd_X2_put a_this a_text a_d a_n a_power a_limbs c_text s1 v_size_47 v_used v_at v_text_47)) hD hS hA [0, 1] rfl
      refine va_callv (va_runV (As := [.int 48]) (rest := []) ⟨hx, hb, hml, hown, hws⟩ (c_X2_put l dC dI  a_this a_text a_d a_n a_power a_limbs c_text (Array.size H) 48 s1 v_size_47 v_used v_at v_text_47 v_size_53 v_text_53 hc) (cwV 1 hws (gV ww_335 ww_336 ww_337 ww_5 ww_338) rfl rfl rfl (by decide +kernel) ⟨Nat.le_of_ble_eq_true rfl, Nat.le_of_ble_eq_true rfl⟩) ⟨(fun a U g mk q => by obtain ⟨q0, q1, qP, qK, qD⟩ := q; exact ⟨q0, q1, qP, va_K.moved (u := U) (U := U.calling g mk a) (Vm.Alike.refl U.vm) qK, qD⟩), va_recv hKc hPc (ci := 2) (q0 := 0) rfl rfl, (fun U hU hW => ⟨rfl, by rw [hU], by rw [hU]; exact hPc, va_K.moved hW.alike hKc, hDc.weaken (fun _ _ _ _ => trivial)⟩)⟩ rfl rfl hl.1 rfl (lv_room (Nat.le_of_ble_eq_true rfl)) dX2_shortest_53 ⟨Nat.zero_le _, Nat.zero_le _⟩) hS (fun q _ h => hFc q h) hFc (fun u9 t H1 locs ht hvm hw hB hz1 hk1 hS => ?_)
      obtain ⟨hP1, hK1, hD1⟩ := hB
      rw [ht] at hP1
      obtain ⟨hP, hD⟩ := va_join (wr := [(a_d, .inl (c_d, 7000, .inl v_d)), (a_n, .inl (c_n, 7000, .inl v_n)), (a_power, .inl (c_power, 7000, .inl v_power)), (a_limbs, .inl (c_limbs, 160, .inr (.inl v_limbs)))]) (w1 := (wd_X2_put a_this a_text a_d a_n a_power a_limbs c_text s1 v_size_53 v_used v_at v_text_53)) hP hD [0, 1] [2, 3, 4, 5] rfl rfl (by decide) (by decide) hk1 hFc hP1 hD1
      generalize H1 = H at hP hS ⊢
      have hP : va_P (dC, dI) vwCl (wd_X2_shortest a_this a_text a_d a_n a_power a_limbs c_text c_d c_n c_power c_limbs s1 v_size_53 v_used v_at v_text_53 v_d v_n v_power v_limbs) H := hP.sub [4, 5, 0, 1, 2, 3] rfl
      have hD : va_D A (wd_X2_shortest a_this a_text a_d a_n a_power a_limbs c_text c_d c_n c_power c_limbs s1 v_size_53 v_used v_at v_text_53 v_d v_n v_power v_limbs) := hD.sub [4, 5, 0, 1, 2, 3] (by decide) rfl
      clear hP1 hK1 hD1 hPc hDc hKc hFc hk1 hz1 ht hvm
      refine lv_aload_n hx hb dX2_shortest_56 rfl (lv_at hl 1 rfl) ?_
      refine va_get (D := (dC, dI)) (ci := 2) (v := .int v_size_53) (C := RX2) (T := TX2) (N := 9) hx hb hws inlX2 hown hK hP 0 rfl rfl 2 (by decide) (hws _ ww_49) (fun _ h9 => h9) rfl dX2_shortest_57 ?_
      obtain ⟨h09, h19, h29, h39, h49, h59, h69, h79, h89⟩ := rt9 h
      subst o_r
      subst o_thrown
      subst o_size
      subst o_used
      subst o_text
      subst o_d
      subst o_n
      subst o_power
      subst o_limbs
      exact W.iret hx hb hr (fun t ht hW => ⟨⟨_, (), rfl, rfl, by rw [ht]; exact hP, va_K.moved hW.alike hK, hD⟩, hS.F ht⟩) hS.2.2 dX2_shortest_60
  · have h := (if_neg c9).symm.trans h
    refine lv_iconst (v := 0) hx hb dX2_shortest_24 (by decide) ?_
    obtain ⟨h09, h19, h29, h39, h49, h59, h69, h79, h89⟩ := rt9 h
    subst o_r
    subst o_thrown
    subst o_size
    subst o_used
    subst o_text
    subst o_d
    subst o_n
    subst o_power
    subst o_limbs
    exact W.iret hx hb hr (fun t ht hW => ⟨⟨_, (), rfl, rfl, by rw [ht]; exact hP, va_K.moved hW.alike hK, hD⟩, hS.F ht⟩) hS.2.2 dX2_shortest_25
set_option maxHeartbeats 4000000 in
set_option maxRecDepth 100000 in
theorem c_X2_shortest (l : Launch) (dC : Nat → ClassId) (dI : Nat → Nat → Nat)  (a_this a_text a_d a_n a_power a_limbs : Nat) (c_text c_d c_n c_power c_limbs : ClassId) (sz : Nat) (l1 : Int64) (v_thrown : Int32) (v_size : Int32) (v_used : Int32) (v_at : Int32) (v_text : Nat → Int32) (v_d : Nat → Int32) (v_n : Nat → Int32) (v_power : Nat → Int32) (v_limbs : Nat → Int64) (o_r : Int32) (o_thrown : Int32) (o_size : Int32) (o_used : Int32) (o_text : Nat → Int32) (o_d : Nat → Int32) (o_n : Nat → Int32) (o_power : Nat → Int32) (o_limbs : Nat → Int64) (h : f_X2_shortest l1 v_thrown v_size v_used v_text v_d v_n v_power v_limbs = some (o_r, o_thrown, o_size, o_used, o_text, o_d, o_n, o_power, o_limbs)) : Met l yX2_shortest w_X2_shortest ({ frames := 3, cells := 0, slots := 0, locals := 75 } : Room) (va_Pc [.ref a_this, .long l1] (fun U => U.heap.size = sz ∧ va_P (dC, dI) vwCl (wd_X2_shortest a_this a_text a_d a_n a_power a_limbs c_text c_d c_n c_power c_limbs v_thrown v_size v_used v_at v_text v_d v_n v_power v_limbs) U.heap ∧ va_K (dC, dI) vwCl [(c_text, .int), (c_d, .int), (c_n, .int), (c_power, .int), (c_limbs, .long)] U ∧ va_D (fun _ => True) (wd_X2_shortest a_this a_text a_d a_n a_power a_limbs c_text c_d c_n c_power c_limbs v_thrown v_size v_used v_at v_text v_d v_n v_power v_limbs))) (va_Qi (fun r9 (_ : Unit) => r9 = o_r) (fun (_ : Unit) t => va_P (dC, dI) vwCl (wd_X2_shortest a_this a_text a_d a_n a_power a_limbs c_text c_d c_n c_power c_limbs o_thrown o_size o_used v_at o_text o_d o_n o_power o_limbs) t.heap ∧ va_K (dC, dI) vwCl [(c_text, .int), (c_d, .int), (c_n, .int), (c_power, .int), (c_limbs, .long)] t ∧ va_D (va_A (wd_X2_shortest a_this a_text a_d a_n a_power a_limbs c_text c_d c_n c_power c_limbs v_thrown v_size v_used v_at v_text v_d v_n v_power v_limbs) sz) (wd_X2_shortest a_this a_text a_d a_n a_power a_limbs c_text c_d c_n c_power c_limbs o_thrown o_size o_used v_at o_text o_d o_n o_power o_limbs)) (va_A (wd_X2_shortest a_this a_text a_d a_n a_power a_limbs c_text c_d c_n c_power c_limbs v_thrown v_size v_used v_at v_text v_d v_n v_power v_limbs) sz)) 0 0 (va_A (wd_X2_shortest a_this a_text a_d a_n a_power a_limbs c_text c_d c_n c_power c_limbs v_thrown v_size v_used v_at v_text v_d v_n v_power v_limbs) sz) := by
  refine Met.ofW (cc := cX2_shortest) (maxL := 10) (ret := (some .int)) (by decide) rfl ?_
  intro p e s m args below meth c s₁ B hml hv
  obtain ⟨rfl, hsz, hP, hK, hD0⟩ := hv
  have hx := B.exec
  have hb := B.bytes
  have hr := B.returns
  have hws : ∀ w ∈ wsL_law, w.before _ s = true := fun w hw => atoms_spec (ws := w_X2_shortest) B.pre w (List.mem_cons_of_mem _ hw)
  have hown : s.vm.findClass RX2 = some m.cls := findClass_of_methodNamed B.named
  have hlocks := B.notSynchronized
  subst hsz
  have hD := hD0.self (sz := s.heap.size)
  generalize hAe : va_A (wd_X2_shortest a_this a_text a_d a_n a_power a_limbs c_text c_d c_n c_power c_limbs v_thrown v_size v_used v_at v_text v_d v_n v_power v_limbs) s.heap.size = A at hD ⊢
  have hA : ∀ q : Nat, s.heap.size ≤ q → A q := fun q h => by rw [← hAe]; exact Or.inr h
  have hS : va_S A s.heap s.heap [] := va_S.rf
  have hl := lv_entry ([.ref a_this, .long l1]) (n := 10) (Nat.le_of_ble_eq_true rfl)
  rw [lg_entry_eq]
  generalize (lg_sl ([.ref a_this, .long l1]) ++ List.replicate (10 - (lg_sl ([.ref a_this, .long l1])).length) Slot.unset).toArray = ls at hl ⊢
  have hl : lv_has ls 10 [(0, .ref a_this), (1, .long l1)] := hl
  unfold f_X2_shortest at h
  refine lv_aload_n hx hb dX2_shortest_0 rfl (lv_at hl 0 rfl) ?_
  refine lv_aload_n hx hb dX2_shortest_1 rfl (lv_at hl 0 rfl) ?_
  refine lv_lload_n hx hb dX2_shortest_2 rfl (lv_at hl 1 rfl) ?_
  obtain ⟨⟨r3, v_size_3, v_text_3⟩, hc, h⟩ := bd h
  dsimp only at h
  have hPc := hP.sub (ws' := (wd_X2_begins a_this a_text a_d a_n a_power a_limbs c_text v_thrown v_size v_used v_at v_text)) [0, 1] rfl
  have hDc := hD.sub (ws' := (wd_X2_begins a_this a_text a_d a_n a_power a_limbs c_text v_thrown v_size v_used v_at v_text)) [0, 1] (by decide) rfl
  have hKc := hK.sub (tys' := [(c_text, .int)]) [0] rfl
  have hFc := va_free (wc := (wd_X2_begins a_this a_text a_d a_n a_power a_limbs c_text v_thrown v_size v_used v_at v_text)) hD hS hA [0, 1] rfl
  refine va_calli (va_runV (As := [.long l1]) (rest := [.ref a_this]) ⟨hx, hb, hml, hown, hws⟩ (c_X2_begins l dC dI  a_this a_text a_d a_n a_power a_limbs c_text (Array.size s.heap) l1 v_thrown v_size v_used v_at v_text r3 v_size_3 v_text_3 hc) (cwV 1 hws (gV ww_331 ww_332 ww_333 ww_5 ww_334) rfl rfl rfl (by decide +kernel) ⟨Nat.le_of_ble_eq_true rfl, Nat.le_of_ble_eq_true rfl⟩) ⟨(fun a U g mk q => by obtain ⟨q0, q1, qP, qK, qD⟩ := q; exact ⟨q0, q1, qP, va_K.moved (u := U) (U := U.calling g mk a) (Vm.Alike.refl U.vm) qK, qD⟩), va_recv hKc hPc (ci := 2) (q0 := 0) rfl rfl, (fun U hU hW => ⟨rfl, by rw [hU], by rw [hU]; exact hPc, va_K.moved hW.alike hKc, hDc.weaken (fun _ _ _ _ => trivial)⟩)⟩ rfl rfl hl.1 rfl (lv_room (Nat.le_of_ble_eq_true rfl)) dX2_shortest_3 ⟨Nat.zero_le _, Nat.zero_le _⟩) hS (fun q _ h => hFc q h) hFc (fun r9 u9 t H1 locs ht hvm hw hB hz1 hk1 hS => ?_)
  obtain ⟨hP1, hK1, hD1⟩ := hB
  rw [ht] at hP1
  subst r9
  obtain ⟨hP, hD⟩ := va_join (wr := [(a_d, .inl (c_d, 7000, .inl v_d)), (a_n, .inl (c_n, 7000, .inl v_n)), (a_power, .inl (c_power, 7000, .inl v_power)), (a_limbs, .inl (c_limbs, 160, .inr (.inl v_limbs)))]) (w1 := (wd_X2_begins a_this a_text a_d a_n a_power a_limbs c_text v_thrown v_size_3 v_used v_at v_text_3)) hP hD [0, 1] [2, 3, 4, 5] rfl rfl (by decide) (by decide) hk1 hFc hP1 hD1
  generalize H1 = H at hP hS ⊢
  have hP : va_P (dC, dI) vwCl (wd_X2_shortest a_this a_text a_d a_n a_power a_limbs c_text c_d c_n c_power c_limbs v_thrown v_size_3 v_used v_at v_text_3 v_d v_n v_power v_limbs) H := hP.sub [4, 5, 0, 1, 2, 3] rfl
  have hD : va_D A (wd_X2_shortest a_this a_text a_d a_n a_power a_limbs c_text c_d c_n c_power c_limbs v_thrown v_size_3 v_used v_at v_text_3 v_d v_n v_power v_limbs) := hD.sub [4, 5, 0, 1, 2, 3] (by decide) rfl
  clear hP1 hK1 hD1 hPc hDc hKc hFc hk1 hz1 ht hvm
  refine lv_if_eq (tgt := 13) hx hb dX2_shortest_6 (by decide) (fun c9 => ?_) (fun c9 => ?_)
  · have h := (if_pos c9).symm.trans h
    refine lv_iconst (v := 1) hx hb dX2_shortest_13 (by decide) ?_
    exact w_X2_shortest_14 l a_this a_text a_d a_n a_power a_limbs c_text c_d c_n c_power c_limbs hx hb hr hml hown hws hlocks hA l1 1 v_thrown v_size_3 v_used v_at v_text_3 v_d v_n v_power v_limbs o_r o_thrown o_size o_used o_text o_d o_n o_power o_limbs h H locs hK hP hD hS ls (lv_sub hl [0, 1] rfl)
  · have h := (if_neg c9).symm.trans h
    refine lv_iconst (v := 0) hx hb dX2_shortest_9 (by decide) ?_
    refine lv_goto (tgt := 14) hx hb dX2_shortest_10 (by decide) ?_
    exact w_X2_shortest_14 l a_this a_text a_d a_n a_power a_limbs c_text c_d c_n c_power c_limbs hx hb hr hml hown hws hlocks hA l1 0 v_thrown v_size_3 v_used v_at v_text_3 v_d v_n v_power v_limbs o_r o_thrown o_size o_used o_text o_d o_n o_power o_limbs h H locs hK hP hD hS ls (lv_sub hl [0, 1] rfl)
