set_option maxHeartbeats 4000000 in
set_option maxRecDepth 100000 in
theorem w_X2_letter_18 (l : Launch) {p : Program} {e : Env} {s : State} {m : MethodId} {args : Array Value} {below : List Frame} {meth : Method} {c : Code} {A : Nat → Prop} {dC : Nat → ClassId} {dI : Nat → Nat → Nat} (a_this a_text a_d a_n a_power a_limbs : Nat) (c_text : ClassId) (hx : p.tables.exec = Jvm.exec) (hb : c.code = cX2_letter) (hr : meth.sig.returnType = (some .int)) (hml : c.maxLocals = 2) (hown : s.vm.findClass RX2 = some m.cls) (hws : ∀ w ∈ wsL_law, w.before args s = true) (hlocks : meth.locks = false) (hA : ∀ q : Nat, s.heap.size ≤ q → A q) : ∀ (l1 : Int32) (s1 : Int32) (v_thrown : Int32) (v_size : Int32) (v_used : Int32) (v_at : Int32) (v_text : Nat → Int32) (o_r : Int32) (o_thrown : Int32), f_X2_letter_b18 l1 s1 v_thrown v_size v_text = some (o_r, o_thrown) → ∀ (H : Heap) (locs : List Loc), va_K (dC, dI) vwCl [(c_text, .int)] s → va_P (dC, dI) vwCl (wd_X2_letter a_this a_text a_d a_n a_power a_limbs c_text v_thrown v_size v_used v_at v_text) H → va_D A (wd_X2_letter a_this a_text a_d a_n a_power a_limbs c_text v_thrown v_size v_used v_at v_text) → va_S A s.heap H locs → ∀ (ls : Array Slot), lv_has ls 2 [(0, .ref a_this), (1, .int l1)] → W p l e (headSpec (w_X2_letter) ({ frames := 0, cells := 0, slots := 0, locals := 0 } : Room)).room s m args below meth c H locs 0 0 (MQ below (va_Qi (fun r9 (_ : Unit) => r9 = o_r) (fun (_ : Unit) t => va_P (dC, dI) vwCl (wd_X2_letter a_this a_text a_d a_n a_power a_limbs c_text o_thrown v_size v_used v_at v_text) t.heap ∧ va_K (dC, dI) vwCl [(c_text, .int)] t ∧ va_D A (wd_X2_letter a_this a_text a_d a_n a_power a_limbs c_text o_thrown v_size v_used v_at v_text)) A) args s 0 0 A) (F0 m 18 ls [.int s1, .ref a_this]) := by
  intro l1 s1 v_thrown v_size v_used v_at v_text o_r o_thrown h H locs hK hP hD hS ls hl
  unfold f_X2_letter_b18 at h
  refine va_put (D := (dC, dI)) (ci := 2) (v := .int s1) (ty := .int) (C := RX2) (T := TX2) (N := 9) hx hb hws inlX2 tyX2 tyX2_ok nmX2 hown hK hP hD hS 0 rfl rfl 0 (by decide) (hws _ ww_48) (fun _ h9 => h9) rfl (by decide +kernel) rfl rfl (Nat.le_of_ble_eq_true rfl) dX2_letter_18 (fun H locs hP hD hS => ?_)
  have hP : va_P (dC, dI) vwCl (wd_X2_letter a_this a_text a_d a_n a_power a_limbs c_text s1 v_size v_used v_at v_text) H := hP
  have hD : va_D A (wd_X2_letter a_this a_text a_d a_n a_power a_limbs c_text s1 v_size v_used v_at v_text) := hD
  refine lv_aload_n hx hb dX2_letter_21 rfl (lv_at hl 0 rfl) ?_
  refine va_get (D := (dC, dI)) (ci := 2) (v := .int s1) (C := RX2) (T := TX2) (N := 9) hx hb hws inlX2 hown hK hP 0 rfl rfl 0 (by decide) (hws _ ww_48) (fun _ h9 => h9) rfl dX2_letter_22 ?_
  refine lv_if_eq (tgt := 32) hx hb dX2_letter_25 (by decide) (fun c9 => ?_) (fun c9 => ?_)
  · have h := (if_pos c9).symm.trans h
    refine lv_aload_n hx hb dX2_letter_32 rfl (lv_at hl 0 rfl) ?_
    refine va_get (D := (dC, dI)) (ci := 2) (v := .ref a_text) (C := RX2) (T := TX2) (N := 9) hx hb hws inlX2 hown hK hP 0 rfl rfl 1 (by decide) (hws _ ww_34) (fun _ h9 => h9) rfl dX2_letter_33 ?_
    refine lv_iload_n hx hb dX2_letter_36 rfl (lv_at hl 1 rfl) ?_
    obtain ⟨hi, h⟩ := gd h
    refine va_iald hx hb hK hP 1 0 rfl rfl hi dX2_letter_37 ?_
    obtain ⟨h09, h19⟩ := rt2 h
    subst o_r
    subst o_thrown
    exact W.iret hx hb hr (fun t ht hW => ⟨⟨_, (), rfl, rfl, by rw [ht]; exact hP, va_K.moved hW.alike hK, hD⟩, hS.F ht⟩) hS.2.2 dX2_letter_38
  · have h := (if_neg c9).symm.trans h
    refine lv_iconst (v := 0) hx hb dX2_letter_28 (by decide) ?_
    refine lv_goto (tgt := 38) hx hb dX2_letter_29 (by decide) ?_
    obtain ⟨h09, h19⟩ := rt2 h
    subst o_r
    subst o_thrown
    exact W.iret hx hb hr (fun t ht hW => ⟨⟨_, (), rfl, rfl, by rw [ht]; exact hP, va_K.moved hW.alike hK, hD⟩, hS.F ht⟩) hS.2.2 dX2_letter_38
set_option maxHeartbeats 4000000 in
set_option maxRecDepth 100000 in
theorem w_X2_letter_13 (l : Launch) {p : Program} {e : Env} {s : State} {m : MethodId} {args : Array Value} {below : List Frame} {meth : Method} {c : Code} {A : Nat → Prop} {dC : Nat → ClassId} {dI : Nat → Nat → Nat} (a_this a_text a_d a_n a_power a_limbs : Nat) (c_text : ClassId) (hx : p.tables.exec = Jvm.exec) (hb : c.code = cX2_letter) (hr : meth.sig.returnType = (some .int)) (hml : c.maxLocals = 2) (hown : s.vm.findClass RX2 = some m.cls) (hws : ∀ w ∈ wsL_law, w.before args s = true) (hlocks : meth.locks = false) (hA : ∀ q : Nat, s.heap.size ≤ q → A q) : ∀ (l1 : Int32) (v_thrown : Int32) (v_size : Int32) (v_used : Int32) (v_at : Int32) (v_text : Nat → Int32) (o_r : Int32) (o_thrown : Int32), f_X2_letter_b13 l1 v_thrown v_size v_text = some (o_r, o_thrown) → ∀ (H : Heap) (locs : List Loc), va_K (dC, dI) vwCl [(c_text, .int)] s → va_P (dC, dI) vwCl (wd_X2_letter a_this a_text a_d a_n a_power a_limbs c_text v_thrown v_size v_used v_at v_text) H → va_D A (wd_X2_letter a_this a_text a_d a_n a_power a_limbs c_text v_thrown v_size v_used v_at v_text) → va_S A s.heap H locs → ∀ (ls : Array Slot), lv_has ls 2 [(0, .ref a_this), (1, .int l1)] → W p l e (headSpec (w_X2_letter) ({ frames := 0, cells := 0, slots := 0, locals := 0 } : Room)).room s m args below meth c H locs 0 0 (MQ below (va_Qi (fun r9 (_ : Unit) => r9 = o_r) (fun (_ : Unit) t => va_P (dC, dI) vwCl (wd_X2_letter a_this a_text a_d a_n a_power a_limbs c_text o_thrown v_size v_used v_at v_text) t.heap ∧ va_K (dC, dI) vwCl [(c_text, .int)] t ∧ va_D A (wd_X2_letter a_this a_text a_d a_n a_power a_limbs c_text o_thrown v_size v_used v_at v_text)) A) args s 0 0 A) (F0 m 13 ls [.ref a_this]) := by
  intro l1 v_thrown v_size v_used v_at v_text o_r o_thrown h H locs hK hP hD hS ls hl
  unfold f_X2_letter_b13 at h
  refine lv_iconst (v := 1) hx hb dX2_letter_13 (by decide) ?_
  refine lv_goto (tgt := 18) hx hb dX2_letter_14 (by decide) ?_
  exact w_X2_letter_18 l a_this a_text a_d a_n a_power a_limbs c_text hx hb hr hml hown hws hlocks hA l1 1 v_thrown v_size v_used v_at v_text o_r o_thrown h H locs hK hP hD hS ls (lv_sub hl [0, 1] rfl)
set_option maxHeartbeats 4000000 in
set_option maxRecDepth 100000 in
theorem c_X2_letter (l : Launch) (dC : Nat → ClassId) (dI : Nat → Nat → Nat)  (a_this a_text a_d a_n a_power a_limbs : Nat) (c_text : ClassId) (sz : Nat) (l1 : Int32) (v_thrown : Int32) (v_size : Int32) (v_used : Int32) (v_at : Int32) (v_text : Nat → Int32) (o_r : Int32) (o_thrown : Int32) (h : f_X2_letter l1 v_thrown v_size v_text = some (o_r, o_thrown)) : Met l yX2_letter w_X2_letter ({ frames := 0, cells := 0, slots := 0, locals := 0 } : Room) (va_Pc [.ref a_this, .int l1] (fun U => U.heap.size = sz ∧ va_P (dC, dI) vwCl (wd_X2_letter a_this a_text a_d a_n a_power a_limbs c_text v_thrown v_size v_used v_at v_text) U.heap ∧ va_K (dC, dI) vwCl [(c_text, .int)] U ∧ va_D (fun _ => True) (wd_X2_letter a_this a_text a_d a_n a_power a_limbs c_text v_thrown v_size v_used v_at v_text))) (va_Qi (fun r9 (_ : Unit) => r9 = o_r) (fun (_ : Unit) t => va_P (dC, dI) vwCl (wd_X2_letter a_this a_text a_d a_n a_power a_limbs c_text o_thrown v_size v_used v_at v_text) t.heap ∧ va_K (dC, dI) vwCl [(c_text, .int)] t ∧ va_D (va_A (wd_X2_letter a_this a_text a_d a_n a_power a_limbs c_text v_thrown v_size v_used v_at v_text) sz) (wd_X2_letter a_this a_text a_d a_n a_power a_limbs c_text o_thrown v_size v_used v_at v_text)) (va_A (wd_X2_letter a_this a_text a_d a_n a_power a_limbs c_text v_thrown v_size v_used v_at v_text) sz)) 0 0 (va_A (wd_X2_letter a_this a_text a_d a_n a_power a_limbs c_text v_thrown v_size v_used v_at v_text) sz) := by
  refine Met.ofW (cc := cX2_letter) (maxL := 2) (ret := (some .int)) (by decide) rfl ?_
  intro p e s m args below meth c s₁ B hml hv
  obtain ⟨rfl, hsz, hP, hK, hD0⟩ := hv
  have hx := B.exec
  have hb := B.bytes
  have hr := B.returns
  have hws : ∀ w ∈ wsL_law, w.before _ s = true := fun w hw => atoms_spec (ws := w_X2_letter) B.pre w (List.mem_cons_of_mem _ hw)
  have hown : s.vm.findClass RX2 = some m.cls := findClass_of_methodNamed B.named
  have hlocks := B.notSynchronized
  subst hsz
  have hD := hD0.self (sz := s.heap.size)
  generalize hAe : va_A (wd_X2_letter a_this a_text a_d a_n a_power a_limbs c_text v_thrown v_size v_used v_at v_text) s.heap.size = A at hD ⊢
  have hA : ∀ q : Nat, s.heap.size ≤ q → A q := fun q h => by rw [← hAe]; exact Or.inr h
  have hS : va_S A s.heap s.heap [] := va_S.rf
  have hl := lv_entry ([.ref a_this, .int l1]) (n := 2) (Nat.le_of_ble_eq_true rfl)
  rw [lg_entry_eq]
  generalize (lg_sl ([.ref a_this, .int l1]) ++ List.replicate (2 - (lg_sl ([.ref a_this, .int l1])).length) Slot.unset).toArray = ls at hl ⊢
  have hl : lv_has ls 2 [(0, .ref a_this), (1, .int l1)] := hl
  unfold f_X2_letter at h
  refine lv_aload_n hx hb dX2_letter_0 rfl (lv_at hl 0 rfl) ?_
  refine lv_iload_n hx hb dX2_letter_1 rfl (lv_at hl 1 rfl) ?_
  refine lv_if_lt (tgt := 13) hx hb dX2_letter_2 (by decide) (fun c9 => ?_) (fun c9 => ?_)
  · have h := (if_pos c9).symm.trans h
    exact w_X2_letter_13 l a_this a_text a_d a_n a_power a_limbs c_text hx hb hr hml hown hws hlocks hA l1 v_thrown v_size v_used v_at v_text o_r o_thrown h s.heap [] hK hP hD hS ls (lv_sub hl [0, 1] rfl)
  · have h := (if_neg c9).symm.trans h
    refine lv_iload_n hx hb dX2_letter_5 rfl (lv_at hl 1 rfl) ?_
    refine lv_aload_n hx hb dX2_letter_6 rfl (lv_at hl 0 rfl) ?_
    refine va_get (D := (dC, dI)) (ci := 2) (v := .int v_size) (C := RX2) (T := TX2) (N := 9) hx hb hws inlX2 hown hK hP 0 rfl rfl 2 (by decide) (hws _ ww_49) (fun _ h9 => h9) rfl dX2_letter_7 ?_
    refine lv_icmp_lt (tgt := 17) hx hb dX2_letter_10 (by decide) (fun c9 => ?_) (fun c9 => ?_)
    · have h := (if_pos c9).symm.trans h
      refine lv_iconst (v := 0) hx hb dX2_letter_17 (by decide) ?_
      exact w_X2_letter_18 l a_this a_text a_d a_n a_power a_limbs c_text hx hb hr hml hown hws hlocks hA l1 0 v_thrown v_size v_used v_at v_text o_r o_thrown h s.heap [] hK hP hD hS ls (lv_sub hl [0, 1] rfl)
    · have h := (if_neg c9).symm.trans h
      exact w_X2_letter_13 l a_this a_text a_d a_n a_power a_limbs c_text hx hb hr hml hown hws hlocks hA l1 v_thrown v_size v_used v_at v_text o_r o_thrown h s.heap [] hK hP hD hS ls (lv_sub hl [0, 1] rfl)
