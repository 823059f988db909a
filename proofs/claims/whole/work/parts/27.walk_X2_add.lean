set_option maxHeartbeats 4000000 in
set_option maxRecDepth 100000 in
theorem w_X2_add_31 (l : Launch) {p : Program} {e : Env} {s : State} {m : MethodId} {args : Array Value} {below : List Frame} {meth : Method} {c : Code} {A : Nat → Prop} {dC : Nat → ClassId} {dI : Nat → Nat → Nat} (a_this a_text a_d a_n a_power a_limbs : Nat) (c_text : ClassId) (hx : p.tables.exec = Jvm.exec) (hb : c.code = cX2_add) (hr : meth.sig.returnType = (some .int)) (hml : c.maxLocals = 2) (hown : s.vm.findClass RX2 = some m.cls) (hws : ∀ w ∈ wsL_law, w.before args s = true) (hlocks : meth.locks = false) (hA : ∀ q : Nat, s.heap.size ≤ q → A q) : ∀ (l1 : Int32) (s1 : Int32) (v_thrown : Int32) (v_size : Int32) (v_used : Int32) (v_at : Int32) (v_text : Nat → Int32) (o_r : Int32) (o_thrown : Int32) (o_size : Int32) (o_text : Nat → Int32), f_X2_add_b31 l1 s1 v_thrown v_size v_text = some (o_r, o_thrown, o_size, o_text) → ∀ (H : Heap) (locs : List Loc), va_K (dC, dI) vwCl [(c_text, .int)] s → va_P (dC, dI) vwCl (wd_X2_add a_this a_text a_d a_n a_power a_limbs c_text v_thrown v_size v_used v_at v_text) H → va_D A (wd_X2_add a_this a_text a_d a_n a_power a_limbs c_text v_thrown v_size v_used v_at v_text) → va_S A s.heap H locs → ∀ (ls : Array Slot), lv_has ls 2 [(0, .ref a_this), (1, .int l1)] → W p l e (headSpec (w_X2_add) ({ frames := 0, cells := 0, slots := 0, locals := 0 } : Room)).room s m args below meth c H locs 0 0 (MQ below (va_Qi (fun r9 (_ : Unit) => r9 = o_r) (fun (_ : Unit) t => va_P (dC, dI) vwCl (wd_X2_add a_this a_text a_d a_n a_power a_limbs c_text o_thrown o_size v_used v_at o_text) t.heap ∧ va_K (dC, dI) vwCl [(c_text, .int)] t ∧ va_D A (wd_X2_add a_this a_text a_d a_n a_power a_limbs c_text o_thrown o_size v_used v_at o_text)) A) args s 0 0 A) (F0 m 31 ls [.int s1, .ref a_this]) := by
  intro l1 s1 v_thrown v_size v_used v_at v_text o_r o_thrown o_size o_text h H locs hK hP hD hS ls hl
  unfold f_X2_add_b31 at h
  refine va_put (D := (dC, dI)) (ci := 2) (v := .int s1) (ty := .int) (C := RX2) (T := TX2) (N := 9) hx hb hws inlX2 tyX2 tyX2_ok nmX2 hown hK hP hD hS 0 rfl rfl 0 (by decide) (hws _ ww_48) (fun _ h9 => h9) rfl (by decide +kernel) rfl rfl (Nat.le_of_ble_eq_true rfl) dX2_add_31 (fun H locs hP hD hS => ?_)
  have hP : va_P (dC, dI) vwCl (wd_X2_add a_this a_text a_d a_n a_power a_limbs c_text s1 v_size v_used v_at v_text) H := hP
  have hD : va_D A (wd_X2_add a_this a_text a_d a_n a_power a_limbs c_text s1 v_size v_used v_at v_text) := hD
  refine lv_aload_n hx hb dX2_add_34 rfl (lv_at hl 0 rfl) ?_
  refine va_get (D := (dC, dI)) (ci := 2) (v := .int s1) (C := RX2) (T := TX2) (N := 9) hx hb hws inlX2 hown hK hP 0 rfl rfl 0 (by decide) (hws _ ww_48) (fun _ h9 => h9) rfl dX2_add_35 ?_
  refine lv_if_eq (tgt := 43) hx hb dX2_add_38 (by decide) (fun c9 => ?_) (fun c9 => ?_)
  · have h := (if_pos c9).symm.trans h
    refine lv_aload_n hx hb dX2_add_43 rfl (lv_at hl 0 rfl) ?_
    refine va_get (D := (dC, dI)) (ci := 2) (v := .ref a_text) (C := RX2) (T := TX2) (N := 9) hx hb hws inlX2 hown hK hP 0 rfl rfl 1 (by decide) (hws _ ww_34) (fun _ h9 => h9) rfl dX2_add_44 ?_
    refine lv_aload_n hx hb dX2_add_47 rfl (lv_at hl 0 rfl) ?_
    refine va_get (D := (dC, dI)) (ci := 2) (v := .int v_size) (C := RX2) (T := TX2) (N := 9) hx hb hws inlX2 hown hK hP 0 rfl rfl 2 (by decide) (hws _ ww_49) (fun _ h9 => h9) rfl dX2_add_48 ?_
    refine lv_iload_n hx hb dX2_add_51 rfl (lv_at hl 1 rfl) ?_
    obtain ⟨hi, h⟩ := gd h
    refine va_iast hx hb hK hP hD hS 1 0 rfl rfl hi dX2_add_52 (fun H locs hP hD hS => ?_)
    have hP : va_P (dC, dI) vwCl (wd_X2_add a_this a_text a_d a_n a_power a_limbs c_text s1 v_size v_used v_at (upd v_text (Int32.toNatClampNeg v_size) l1)) H := hP
    have hD : va_D A (wd_X2_add a_this a_text a_d a_n a_power a_limbs c_text s1 v_size v_used v_at (upd v_text (Int32.toNatClampNeg v_size) l1)) := hD
    refine lv_aload_n hx hb dX2_add_53 rfl (lv_at hl 0 rfl) ?_
    refine lv_dup hx hb dX2_add_54 rfl ?_
    refine va_get (D := (dC, dI)) (ci := 2) (v := .int v_size) (C := RX2) (T := TX2) (N := 9) hx hb hws inlX2 hown hK hP 0 rfl rfl 2 (by decide) (hws _ ww_49) (fun _ h9 => h9) rfl dX2_add_55 ?_
    refine lv_iconst (v := 1) hx hb dX2_add_58 (by decide) ?_
    refine lv_iadd hx hb dX2_add_59 ?_
    refine va_put (D := (dC, dI)) (ci := 2) (v := .int (v_size + 1)) (ty := .int) (C := RX2) (T := TX2) (N := 9) hx hb hws inlX2 tyX2 tyX2_ok nmX2 hown hK hP hD hS 0 rfl rfl 2 (by decide) (hws _ ww_49) (fun _ h9 => h9) rfl (by decide +kernel) rfl rfl (Nat.le_of_ble_eq_true rfl) dX2_add_60 (fun H locs hP hD hS => ?_)
    have hP : va_P (dC, dI) vwCl (wd_X2_add a_this a_text a_d a_n a_power a_limbs c_text s1 (v_size + 1) v_used v_at (upd v_text (Int32.toNatClampNeg v_size) l1)) H := hP
    have hD : va_D A (wd_X2_add a_this a_text a_d a_n a_power a_limbs c_text s1 (v_size + 1) v_used v_at (upd v_text (Int32.toNatClampNeg v_size) l1)) := hD
    refine lv_aload_n hx hb dX2_add_63 rfl (lv_at hl 0 rfl) ?_
    refine va_get (D := (dC, dI)) (ci := 2) (v := .int (v_size + 1)) (C := RX2) (T := TX2) (N := 9) hx hb hws inlX2 hown hK hP 0 rfl rfl 2 (by decide) (hws _ ww_49) (fun _ h9 => h9) rfl dX2_add_64 ?_
    obtain ⟨h09, h19, h29, h39⟩ := rt4 h
    subst o_r
    subst o_thrown
    subst o_size
    subst o_text
    exact W.iret hx hb hr (fun t ht hW => ⟨⟨_, (), rfl, rfl, by rw [ht]; exact hP, va_K.moved hW.alike hK, hD⟩, hS.F ht⟩) hS.2.2 dX2_add_67
  · have h := (if_neg c9).symm.trans h
    refine lv_iconst (v := 0) hx hb dX2_add_41 (by decide) ?_
    obtain ⟨h09, h19, h29, h39⟩ := rt4 h
    subst o_r
    subst o_thrown
    subst o_size
    subst o_text
    exact W.iret hx hb hr (fun t ht hW => ⟨⟨_, (), rfl, rfl, by rw [ht]; exact hP, va_K.moved hW.alike hK, hD⟩, hS.F ht⟩) hS.2.2 dX2_add_42
set_option maxHeartbeats 4000000 in
set_option maxRecDepth 100000 in
theorem w_X2_add_12 (l : Launch) {p : Program} {e : Env} {s : State} {m : MethodId} {args : Array Value} {below : List Frame} {meth : Method} {c : Code} {A : Nat → Prop} {dC : Nat → ClassId} {dI : Nat → Nat → Nat} (a_this a_text a_d a_n a_power a_limbs : Nat) (c_text : ClassId) (hx : p.tables.exec = Jvm.exec) (hb : c.code = cX2_add) (hr : meth.sig.returnType = (some .int)) (hml : c.maxLocals = 2) (hown : s.vm.findClass RX2 = some m.cls) (hws : ∀ w ∈ wsL_law, w.before args s = true) (hlocks : meth.locks = false) (hA : ∀ q : Nat, s.heap.size ≤ q → A q) : ∀ (l1 : Int32) (v_thrown : Int32) (v_size : Int32) (v_used : Int32) (v_at : Int32) (v_text : Nat → Int32) (o_r : Int32) (o_thrown : Int32) (o_size : Int32) (o_text : Nat → Int32), f_X2_add_b12 l1 v_thrown v_size v_text = some (o_r, o_thrown, o_size, o_text) → ∀ (H : Heap) (locs : List Loc), va_K (dC, dI) vwCl [(c_text, .int)] s → va_P (dC, dI) vwCl (wd_X2_add a_this a_text a_d a_n a_power a_limbs c_text v_thrown v_size v_used v_at v_text) H → va_D A (wd_X2_add a_this a_text a_d a_n a_power a_limbs c_text v_thrown v_size v_used v_at v_text) → va_S A s.heap H locs → ∀ (ls : Array Slot), lv_has ls 2 [(0, .ref a_this), (1, .int l1)] → W p l e (headSpec (w_X2_add) ({ frames := 0, cells := 0, slots := 0, locals := 0 } : Room)).room s m args below meth c H locs 0 0 (MQ below (va_Qi (fun r9 (_ : Unit) => r9 = o_r) (fun (_ : Unit) t => va_P (dC, dI) vwCl (wd_X2_add a_this a_text a_d a_n a_power a_limbs c_text o_thrown o_size v_used v_at o_text) t.heap ∧ va_K (dC, dI) vwCl [(c_text, .int)] t ∧ va_D A (wd_X2_add a_this a_text a_d a_n a_power a_limbs c_text o_thrown o_size v_used v_at o_text)) A) args s 0 0 A) (F0 m 12 ls [.ref a_this]) := by
  intro l1 v_thrown v_size v_used v_at v_text o_r o_thrown o_size o_text h H locs hK hP hD hS ls hl
  unfold f_X2_add_b12 at h
  refine lv_iconst (v := 1) hx hb dX2_add_12 (by decide) ?_
  refine lv_goto (tgt := 31) hx hb dX2_add_13 (by decide) ?_
  exact w_X2_add_31 l a_this a_text a_d a_n a_power a_limbs c_text hx hb hr hml hown hws hlocks hA l1 1 v_thrown v_size v_used v_at v_text o_r o_thrown o_size o_text h H locs hK hP hD hS ls (lv_sub hl [0, 1] rfl)
set_option maxHeartbeats 4000000 in
set_option maxRecDepth 100000 in
theorem c_X2_add (l : Launch) (dC : Nat → ClassId) (dI : Nat → Nat → Nat)  (a_this a_text a_d a_n a_power a_limbs : Nat) (c_text : ClassId) (sz : Nat) (l1 : Int32) (v_thrown : Int32) (v_size : Int32) (v_used : Int32) (v_at : Int32) (v_text : Nat → Int32) (o_r : Int32) (o_thrown : Int32) (o_size : Int32) (o_text : Nat → Int32) (h : f_X2_add l1 v_thrown v_size v_text = some (o_r, o_thrown, o_size, o_text)) : Met l yX2_add w_X2_add ({ frames := 0, cells := 0, slots := 0, locals := 0 } : Room) (va_Pc [.ref a_this, .int l1] (fun U => U.heap.size = sz ∧ va_P (dC, dI) vwCl (wd_X2_add a_this a_text a_d a_n a_power a_limbs c_text v_thrown v_size v_used v_at v_text) U.heap ∧ va_K (dC, dI) vwCl [(c_text, .int)] U ∧ va_D (fun _ => True) (wd_X2_add a_this a_text a_d a_n a_power a_limbs c_text v_thrown v_size v_used v_at v_text))) (va_Qi (fun r9 (_ : Unit) => r9 = o_r) (fun (_ : Unit) t => va_P (dC, dI) vwCl (wd_X2_add a_this a_text a_d a_n a_power a_limbs c_text o_thrown o_size v_used v_at o_text) t.heap ∧ va_K (dC, dI) vwCl [(c_text, .int)] t ∧ va_D (va_A (wd_X2_add a_this a_text a_d a_n a_power a_limbs c_text v_thrown v_size v_used v_at v_text) sz) (wd_X2_add a_this a_text a_d a_n a_power a_limbs c_text o_thrown o_size v_used v_at o_text)) (va_A (wd_X2_add a_this a_text a_d a_n a_power a_limbs c_text v_thrown v_size v_used v_at v_text) sz)) 0 0 (va_A (wd_X2_add a_this a_text a_d a_n a_power a_limbs c_text v_thrown v_size v_used v_at v_text) sz) := by
  refine Met.ofW (cc := cX2_add) (maxL := 2) (ret := (some .int)) (by decide) rfl ?_
  intro p e s m args below meth c s₁ B hml hv
  obtain ⟨rfl, hsz, hP, hK, hD0⟩ := hv
  have hx := B.exec
  have hb := B.bytes
  have hr := B.returns
  have hws : ∀ w ∈ wsL_law, w.before _ s = true := fun w hw => atoms_spec (ws := w_X2_add) B.pre w (List.mem_cons_of_mem _ hw)
  have hown : s.vm.findClass RX2 = some m.cls := findClass_of_methodNamed B.named
  have hlocks := B.notSynchronized
  subst hsz
  have hD := hD0.self (sz := s.heap.size)
  generalize hAe : va_A (wd_X2_add a_this a_text a_d a_n a_power a_limbs c_text v_thrown v_size v_used v_at v_text) s.heap.size = A at hD ⊢
  have hA : ∀ q : Nat, s.heap.size ≤ q → A q := fun q h => by rw [← hAe]; exact Or.inr h
  have hS : va_S A s.heap s.heap [] := va_S.rf
  have hl := lv_entry ([.ref a_this, .int l1]) (n := 2) (Nat.le_of_ble_eq_true rfl)
  rw [lg_entry_eq]
  generalize (lg_sl ([.ref a_this, .int l1]) ++ List.replicate (2 - (lg_sl ([.ref a_this, .int l1])).length) Slot.unset).toArray = ls at hl ⊢
  have hl : lv_has ls 2 [(0, .ref a_this), (1, .int l1)] := hl
  unfold f_X2_add at h
  refine lv_aload_n hx hb dX2_add_0 rfl (lv_at hl 0 rfl) ?_
  refine lv_iload_n hx hb dX2_add_1 rfl (lv_at hl 1 rfl) ?_
  refine lv_if_lt (tgt := 12) hx hb dX2_add_2 (by decide) (fun c9 => ?_) (fun c9 => ?_)
  · have h := (if_pos c9).symm.trans h
    exact w_X2_add_12 l a_this a_text a_d a_n a_power a_limbs c_text hx hb hr hml hown hws hlocks hA l1 v_thrown v_size v_used v_at v_text o_r o_thrown o_size o_text h s.heap [] hK hP hD hS ls (lv_sub hl [0, 1] rfl)
  · have h := (if_neg c9).symm.trans h
    refine lv_iload_n hx hb dX2_add_5 rfl (lv_at hl 1 rfl) ?_
    refine lv_sipush (v := 255) hx hb dX2_add_6 (by decide) ?_
    refine lv_icmp_le (tgt := 16) hx hb dX2_add_9 (by decide) (fun c9 => ?_) (fun c9 => ?_)
    · have h := (if_pos c9).symm.trans h
      refine lv_aload_n hx hb dX2_add_16 rfl (lv_at hl 0 rfl) ?_
      refine va_get (D := (dC, dI)) (ci := 2) (v := .int v_size) (C := RX2) (T := TX2) (N := 9) hx hb hws inlX2 hown hK hP 0 rfl rfl 2 (by decide) (hws _ ww_49) (fun _ h9 => h9) rfl dX2_add_17 ?_
      refine lv_sipush (v := 400) hx hb dX2_add_20 (by decide) ?_
      refine lv_icmp_ne (tgt := 30) hx hb dX2_add_23 (by decide) (fun c9 => ?_) (fun c9 => ?_)
      · have h := (if_neg c9).symm.trans h
        refine lv_iconst (v := 0) hx hb dX2_add_30 (by decide) ?_
        exact w_X2_add_31 l a_this a_text a_d a_n a_power a_limbs c_text hx hb hr hml hown hws hlocks hA l1 0 v_thrown v_size v_used v_at v_text o_r o_thrown o_size o_text h s.heap [] hK hP hD hS ls (lv_sub hl [0, 1] rfl)
      · have h := (if_pos c9).symm.trans h
        refine lv_iconst (v := 2) hx hb dX2_add_26 (by decide) ?_
        refine lv_goto (tgt := 31) hx hb dX2_add_27 (by decide) ?_
        exact w_X2_add_31 l a_this a_text a_d a_n a_power a_limbs c_text hx hb hr hml hown hws hlocks hA l1 2 v_thrown v_size v_used v_at v_text o_r o_thrown o_size o_text h s.heap [] hK hP hD hS ls (lv_sub hl [0, 1] rfl)
    · have h := (if_neg c9).symm.trans h
      exact w_X2_add_12 l a_this a_text a_d a_n a_power a_limbs c_text hx hb hr hml hown hws hlocks hA l1 v_thrown v_size v_used v_at v_text o_r o_thrown o_size o_text h s.heap [] hK hP hD hS ls (lv_sub hl [0, 1] rfl)
set_option maxHeartbeats 4000000 in
set_option maxRecDepth 100000 in
theorem c_X2_digit (l : Launch) (dC : Nat → ClassId) (dI : Nat → Nat → Nat)  (a_this a_text a_d a_n a_power a_limbs : Nat) (c_d c_n : ClassId) (sz : Nat) (l1 : Int32) (l2 : Int32) (v_thrown : Int32) (v_size : Int32) (v_used : Int32) (v_at : Int32) (v_d : Nat → Int32) (v_n : Nat → Int32) (o_r : Int32) (h : f_X2_digit l1 l2 v_d v_n = some o_r) : Met l yX2_digit w_X2_digit ({ frames := 0, cells := 0, slots := 0, locals := 0 } : Room) (va_Pc [.ref a_this, .int l1, .int l2] (fun U => U.heap.size = sz ∧ va_P (dC, dI) vwCl (wd_X2_digit a_this a_text a_d a_n a_power a_limbs c_d c_n v_thrown v_size v_used v_at v_d v_n) U.heap ∧ va_K (dC, dI) vwCl [(c_d, .int), (c_n, .int)] U ∧ va_D (fun _ => True) (wd_X2_digit a_this a_text a_d a_n a_power a_limbs c_d c_n v_thrown v_size v_used v_at v_d v_n))) (va_Qi (fun r9 (_ : Unit) => r9 = o_r) (fun (_ : Unit) t => va_P (dC, dI) vwCl (wd_X2_digit a_this a_text a_d a_n a_power a_limbs c_d c_n v_thrown v_size v_used v_at v_d v_n) t.heap ∧ va_K (dC, dI) vwCl [(c_d, .int), (c_n, .int)] t ∧ va_D (va_A (wd_X2_digit a_this a_text a_d a_n a_power a_limbs c_d c_n v_thrown v_size v_used v_at v_d v_n) sz) (wd_X2_digit a_this a_text a_d a_n a_power a_limbs c_d c_n v_thrown v_size v_used v_at v_d v_n)) (va_A (wd_X2_digit a_this a_text a_d a_n a_power a_limbs c_d c_n v_thrown v_size v_used v_at v_d v_n) sz)) 0 0 (va_A (wd_X2_digit a_this a_text a_d a_n a_power a_limbs c_d c_n v_thrown v_size v_used v_at v_d v_n) sz) := by
  refine Met.ofW (cc := cX2_digit) (maxL := 3) (ret := (some .int)) (by decide) rfl ?_
  intro p e s m args below meth c s₁ B hml hv
  obtain ⟨rfl, hsz, hP, hK, hD0⟩ := hv
  have hx := B.exec
  have hb := B.bytes
  have hr := B.returns
  have hws : ∀ w ∈ wsL_law, w.before _ s = true := fun w hw => atoms_spec (ws := w_X2_digit) B.pre w (List.mem_cons_of_mem _ hw)
  have hown : s.vm.findClass RX2 = some m.cls := findClass_of_methodNamed B.named
  have hlocks := B.notSynchronized
  subst hsz
  have hD := hD0.self (sz := s.heap.size)
  generalize hAe : va_A (wd_X2_digit a_this a_text a_d a_n a_power a_limbs c_d c_n v_thrown v_size v_used v_at v_d v_n) s.heap.size = A at hD ⊢
  have hA : ∀ q : Nat, s.heap.size ≤ q → A q := fun q h => by rw [← hAe]; exact Or.inr h
  have hS : va_S A s.heap s.heap [] := va_S.rf
  have hl := lv_entry ([.ref a_this, .int l1, .int l2]) (n := 3) (Nat.le_of_ble_eq_true rfl)
  rw [lg_entry_eq]
  generalize (lg_sl ([.ref a_this, .int l1, .int l2]) ++ List.replicate (3 - (lg_sl ([.ref a_this, .int l1, .int l2])).length) Slot.unset).toArray = ls at hl ⊢
  have hl : lv_has ls 3 [(0, .ref a_this), (1, .int l1), (2, .int l2)] := hl
  unfold f_X2_digit at h
  refine lv_iload_n hx hb dX2_digit_0 rfl (lv_at hl 2 rfl) ?_
  refine lv_if_lt (tgt := 25) hx hb dX2_digit_1 (by decide) (fun c9 => ?_) (fun c9 => ?_)
  · have h := (if_pos c9).symm.trans h
    refine lv_iconst (v := 0) hx hb dX2_digit_25 (by decide) ?_
    obtain h09 := rt1 h
    subst o_r
    exact W.iret hx hb hr (fun t ht hW => ⟨⟨_, (), rfl, rfl, by rw [ht]; exact hP, va_K.moved hW.alike hK, hD⟩, hS.F ht⟩) hS.2.2 dX2_digit_26
  · have h := (if_neg c9).symm.trans h
    refine lv_iload_n hx hb dX2_digit_4 rfl (lv_at hl 2 rfl) ?_
    refine lv_aload_n hx hb dX2_digit_5 rfl (lv_at hl 0 rfl) ?_
    refine va_get (D := (dC, dI)) (ci := 2) (v := .ref a_n) (C := RX2) (T := TX2) (N := 9) hx hb hws inlX2 hown hK hP 0 rfl rfl 4 (by decide) (hws _ ww_36) (fun _ h9 => h9) rfl dX2_digit_6 ?_
    refine lv_iload_n hx hb dX2_digit_9 rfl (lv_at hl 1 rfl) ?_
    obtain ⟨hi, h⟩ := gd h
    refine va_iald hx hb hK hP 2 1 rfl rfl hi dX2_digit_10 ?_
    refine lv_icmp_ge (tgt := 25) hx hb dX2_digit_11 (by decide) (fun c9 => ?_) (fun c9 => ?_)
    · have h := (if_pos c9).symm.trans h
      refine lv_iconst (v := 0) hx hb dX2_digit_25 (by decide) ?_
      obtain h09 := rt1 h
      subst o_r
      exact W.iret hx hb hr (fun t ht hW => ⟨⟨_, (), rfl, rfl, by rw [ht]; exact hP, va_K.moved hW.alike hK, hD⟩, hS.F ht⟩) hS.2.2 dX2_digit_26
    · have h := (if_neg c9).symm.trans h
      refine lv_aload_n hx hb dX2_digit_14 rfl (lv_at hl 0 rfl) ?_
      refine va_get (D := (dC, dI)) (ci := 2) (v := .ref a_d) (C := RX2) (T := TX2) (N := 9) hx hb hws inlX2 hown hK hP 0 rfl rfl 3 (by decide) (hws _ ww_35) (fun _ h9 => h9) rfl dX2_digit_15 ?_
      refine lv_iload_n hx hb dX2_digit_18 rfl (lv_at hl 1 rfl) ?_
      refine lv_iload_n hx hb dX2_digit_19 rfl (lv_at hl 2 rfl) ?_
      refine lv_iadd hx hb dX2_digit_20 ?_
      obtain ⟨hi, h⟩ := gd h
      refine va_iald hx hb hK hP 1 0 rfl rfl hi dX2_digit_21 ?_
      refine lv_goto (tgt := 26) hx hb dX2_digit_22 (by decide) ?_
      obtain h09 := rt1 h
      subst o_r
      exact W.iret hx hb hr (fun t ht hW => ⟨⟨_, (), rfl, rfl, by rw [ht]; exact hP, va_K.moved hW.alike hK, hD⟩, hS.F ht⟩) hS.2.2 dX2_digit_26
set_option maxHeartbeats 4000000 in
set_option maxRecDepth 100000 in
theorem c_X2_more (l : Launch) (dC : Nat → ClassId) (dI : Nat → Nat → Nat)  (a_this a_text a_d a_n a_power a_limbs : Nat) (c_d c_n : ClassId) (sz : Nat) (l1 : Int32) (l2 : Int32) (v_thrown : Int32) (v_size : Int32) (v_used : Int32) (v_at : Int32) (v_d : Nat → Int32) (v_n : Nat → Int32) (o_d : Nat → Int32) (o_n : Nat → Int32) (h : f_X2_more l1 l2 v_d v_n = some (o_d, o_n)) : Met l yX2_more w_X2_more ({ frames := 0, cells := 0, slots := 0, locals := 0 } : Room) (va_Pc [.ref a_this, .int l1, .int l2] (fun U => U.heap.size = sz ∧ va_P (dC, dI) vwCl (wd_X2_more a_this a_text a_d a_n a_power a_limbs c_d c_n v_thrown v_size v_used v_at v_d v_n) U.heap ∧ va_K (dC, dI) vwCl [(c_d, .int), (c_n, .int)] U ∧ va_D (fun _ => True) (wd_X2_more a_this a_text a_d a_n a_power a_limbs c_d c_n v_thrown v_size v_used v_at v_d v_n))) (va_Qv (fun (_ : Unit) => True) (fun (_ : Unit) t => va_P (dC, dI) vwCl (wd_X2_more a_this a_text a_d a_n a_power a_limbs c_d c_n v_thrown v_size v_used v_at o_d o_n) t.heap ∧ va_K (dC, dI) vwCl [(c_d, .int), (c_n, .int)] t ∧ va_D (va_A (wd_X2_more a_this a_text a_d a_n a_power a_limbs c_d c_n v_thrown v_size v_used v_at v_d v_n) sz) (wd_X2_more a_this a_text a_d a_n a_power a_limbs c_d c_n v_thrown v_size v_used v_at o_d o_n)) (va_A (wd_X2_more a_this a_text a_d a_n a_power a_limbs c_d c_n v_thrown v_size v_used v_at v_d v_n) sz)) 0 0 (va_A (wd_X2_more a_this a_text a_d a_n a_power a_limbs c_d c_n v_thrown v_size v_used v_at v_d v_n) sz) := by
  refine Met.ofW (cc := cX2_more) (maxL := 3) (ret := none) (by decide) rfl ?_
  intro p e s m args below meth c s₁ B hml hv
  obtain ⟨rfl, hsz, hP, hK, hD0⟩ := hv
  have hx := B.exec
  have hb := B.bytes
  have hr := B.returns
  have hws : ∀ w ∈ wsL_law, w.before _ s = true := fun w hw => atoms_spec (ws := w_X2_more) B.pre w (List.mem_cons_of_mem _ hw)
  have hown : s.vm.findClass RX2 = some m.cls := findClass_of_methodNamed B.named
  have hlocks := B.notSynchronized
  subst hsz
  have hD := hD0.self (sz := s.heap.size)
  generalize hAe : va_A (wd_X2_more a_this a_text a_d a_n a_power a_limbs c_d c_n v_thrown v_size v_used v_at v_d v_n) s.heap.size = A at hD ⊢
  have hA : ∀ q : Nat, s.heap.size ≤ q → A q := fun q h => by rw [← hAe]; exact Or.inr h
  have hS : va_S A s.heap s.heap [] := va_S.rf
  have hl := lv_entry ([.ref a_this, .int l1, .int l2]) (n := 3) (Nat.le_of_ble_eq_true rfl)
  rw [lg_entry_eq]
  generalize (lg_sl ([.ref a_this, .int l1, .int l2]) ++ List.replicate (3 - (lg_sl ([.ref a_this, .int l1, .int l2])).length) Slot.unset).toArray = ls at hl ⊢
  have hl : lv_has ls 3 [(0, .ref a_this), (1, .int l1), (2, .int l2)] := hl
  unfold f_X2_more at h
  refine lv_aload_n hx hb dX2_more_0 rfl (lv_at hl 0 rfl) ?_
  refine va_get (D := (dC, dI)) (ci := 2) (v := .ref a_d) (C := RX2) (T := TX2) (N := 9) hx hb hws inlX2 hown hK hP 0 rfl rfl 3 (by decide) (hws _ ww_35) (fun _ h9 => h9) rfl dX2_more_1 ?_
  refine lv_iload_n hx hb dX2_more_4 rfl (lv_at hl 1 rfl) ?_
  refine lv_aload_n hx hb dX2_more_5 rfl (lv_at hl 0 rfl) ?_
  refine va_get (D := (dC, dI)) (ci := 2) (v := .ref a_n) (C := RX2) (T := TX2) (N := 9) hx hb hws inlX2 hown hK hP 0 rfl rfl 4 (by decide) (hws _ ww_36) (fun _ h9 => h9) rfl dX2_more_6 ?_
  refine lv_iload_n hx hb dX2_more_9 rfl (lv_at hl 1 rfl) ?_
  obtain ⟨hi, h⟩ := gd h
  refine va_iald hx hb hK hP 2 1 rfl rfl hi dX2_more_10 ?_
  refine lv_iadd hx hb dX2_more_11 ?_
  refine lv_iload_n hx hb dX2_more_12 rfl (lv_at hl 2 rfl) ?_
  obtain ⟨hi, h⟩ := gd h
  refine va_iast hx hb hK hP hD hS 1 0 rfl rfl hi dX2_more_13 (fun H locs hP hD hS => ?_)
  have hP : va_P (dC, dI) vwCl (wd_X2_more a_this a_text a_d a_n a_power a_limbs c_d c_n v_thrown v_size v_used v_at (upd v_d (Int32.toNatClampNeg (l1 + (v_n (Int32.toNatClampNeg l1)))) l2) v_n) H := hP
  have hD : va_D A (wd_X2_more a_this a_text a_d a_n a_power a_limbs c_d c_n v_thrown v_size v_used v_at (upd v_d (Int32.toNatClampNeg (l1 + (v_n (Int32.toNatClampNeg l1)))) l2) v_n) := hD
  refine lv_aload_n hx hb dX2_more_14 rfl (lv_at hl 0 rfl) ?_
  refine va_get (D := (dC, dI)) (ci := 2) (v := .ref a_n) (C := RX2) (T := TX2) (N := 9) hx hb hws inlX2 hown hK hP 0 rfl rfl 4 (by decide) (hws _ ww_36) (fun _ h9 => h9) rfl dX2_more_15 ?_
  refine lv_iload_n hx hb dX2_more_18 rfl (lv_at hl 1 rfl) ?_
  refine lv_dup2_11 hx hb dX2_more_19 rfl rfl ?_
  obtain ⟨hi, h⟩ := gd h
  refine va_iald hx hb hK hP 2 1 rfl rfl hi dX2_more_20 ?_
  refine lv_iconst (v := 1) hx hb dX2_more_21 (by decide) ?_
  refine lv_iadd hx hb dX2_more_22 ?_
  obtain ⟨hi, h⟩ := gd h
  refine va_iast hx hb hK hP hD hS 2 1 rfl rfl hi dX2_more_23 (fun H locs hP hD hS => ?_)
  have hP : va_P (dC, dI) vwCl (wd_X2_more a_this a_text a_d a_n a_power a_limbs c_d c_n v_thrown v_size v_used v_at (upd v_d (Int32.toNatClampNeg (l1 + (v_n (Int32.toNatClampNeg l1)))) l2) (upd v_n (Int32.toNatClampNeg l1) ((v_n (Int32.toNatClampNeg l1)) + 1))) H := hP
  have hD : va_D A (wd_X2_more a_this a_text a_d a_n a_power a_limbs c_d c_n v_thrown v_size v_used v_at (upd v_d (Int32.toNatClampNeg (l1 + (v_n (Int32.toNatClampNeg l1)))) l2) (upd v_n (Int32.toNatClampNeg l1) ((v_n (Int32.toNatClampNeg l1)) + 1))) := hD
  obtain ⟨h09, h19⟩ := rt2 h
  subst o_d
  subst o_n
  exact W.vret hx hb hr (fun t ht hW => ⟨⟨(), rfl, trivial, by rw [ht]; exact hP, va_K.moved hW.alike hK, hD⟩, hS.F ht⟩) hS.2.2 dX2_more_24
set_option maxHeartbeats 4000000 in
set_option maxRecDepth 100000 in
theorem w_X2_trim_85 (l : Launch) {p : Program} {e : Env} {s : State} {m : MethodId} {args : Array Value} {below : List Frame} {meth : Method} {c : Code} {A : Nat → Prop} {dC : Nat → ClassId} {dI : Nat → Nat → Nat} (a_this a_text a_d a_n a_power a_limbs : Nat) (c_d c_n c_power : ClassId) (hx : p.tables.exec = Jvm.exec) (hb : c.code = cX2_trim) (hr : meth.sig.returnType = none) (hml : c.maxLocals = 4) (hown : s.vm.findClass RX2 = some m.cls) (hws : ∀ w ∈ wsL_law, w.before args s = true) (hlocks : meth.locks = false) (hA : ∀ q : Nat, s.heap.size ≤ q → A q) : ∀ (n : Nat) (l1 : Int32) (v_thrown : Int32) (v_size : Int32) (v_used : Int32) (v_at : Int32) (v_d : Nat → Int32) (v_n : Nat → Int32) (v_power : Nat → Int32) (o_d : Nat → Int32) (o_n : Nat → Int32) (o_power : Nat → Int32), f_X2_trim_L85 n l1 v_d v_n v_power = some (o_d, o_n, o_power) → ∀ (H : Heap) (locs : List Loc), va_K (dC, dI) vwCl [(c_d, .int), (c_n, .int), (c_power, .int)] s → va_P (dC, dI) vwCl (wd_X2_trim a_this a_text a_d a_n a_power a_limbs c_d c_n c_power v_thrown v_size v_used v_at v_d v_n v_power) H → va_D A (wd_X2_trim a_this a_text a_d a_n a_power a_limbs c_d c_n c_power v_thrown v_size v_used v_at v_d v_n v_power) → va_S A s.heap H locs → ∀ (ls : Array Slot), lv_has ls 4 [(0, .ref a_this), (1, .int l1)] → W p l e (headSpec (w_X2_trim) ({ frames := 0, cells := 0, slots := 0, locals := 0 } : Room)).room s m args below meth c H locs 0 0 (MQ below (va_Qv (fun (_ : Unit) => True) (fun (_ : Unit) t => va_P (dC, dI) vwCl (wd_X2_trim a_this a_text a_d a_n a_power a_limbs c_d c_n c_power v_thrown v_size v_used v_at o_d o_n o_power) t.heap ∧ va_K (dC, dI) vwCl [(c_d, .int), (c_n, .int), (c_power, .int)] t ∧ va_D A (wd_X2_trim a_this a_text a_d a_n a_power a_limbs c_d c_n c_power v_thrown v_size v_used v_at o_d o_n o_power)) A) args s 0 0 A) (F0 m 85 ls []) := by
  intro n
  induction n with
  | zero =>
    intro l1 v_thrown v_size v_used v_at v_d v_n v_power o_d o_n o_power h H locs hK hP hD hS ls hl
    exact absurd h (by simp [f_X2_trim_L85])
  | succ n ih =>
    intro l1 v_thrown v_size v_used v_at v_d v_n v_power o_d o_n o_power h H locs hK hP hD hS ls hl
    unfold f_X2_trim_L85 at h
    refine lv_aload_n hx hb dX2_trim_85 rfl (lv_at hl 0 rfl) ?_
    refine va_get (D := (dC, dI)) (ci := 2) (v := .ref a_n) (C := RX2) (T := TX2) (N := 9) hx hb hws inlX2 hown hK hP 0 rfl rfl 4 (by decide) (hws _ ww_36) (fun _ h9 => h9) rfl dX2_trim_86 ?_
    refine lv_iload_n hx hb dX2_trim_89 rfl (lv_at hl 1 rfl) ?_
    obtain ⟨hi, h⟩ := gd h
    refine va_iald hx hb hK hP 2 1 rfl rfl hi dX2_trim_90 ?_
    refine lv_if_le (tgt := 125) hx hb dX2_trim_91 (by decide) (fun c9 => ?_) (fun c9 => ?_)
    · have h := (if_pos c9).symm.trans h
      obtain ⟨h09, h19, h29⟩ := rt3 h
      subst o_d
      subst o_n
      subst o_power
      exact W.vret hx hb hr (fun t ht hW => ⟨⟨(), rfl, trivial, by rw [ht]; exact hP, va_K.moved hW.alike hK, hD⟩, hS.F ht⟩) hS.2.2 dX2_trim_125
    · have h := (if_neg c9).symm.trans h
      refine lv_aload_n hx hb dX2_trim_94 rfl (lv_at hl 0 rfl) ?_
      refine va_get (D := (dC, dI)) (ci := 2) (v := .ref a_d) (C := RX2) (T := TX2) (N := 9) hx hb hws inlX2 hown hK hP 0 rfl rfl 3 (by decide) (hws _ ww_35) (fun _ h9 => h9) rfl dX2_trim_95 ?_
      refine lv_iload_n hx hb dX2_trim_98 rfl (lv_at hl 1 rfl) ?_
      refine lv_aload_n hx hb dX2_trim_99 rfl (lv_at hl 0 rfl) ?_
      refine va_get (D := (dC, dI)) (ci := 2) (v := .ref a_n) (C := RX2) (T := TX2) (N := 9) hx hb hws inlX2 hown hK hP 0 rfl rfl 4 (by decide) (hws _ ww_36) (fun _ h9 => h9) rfl dX2_trim_100 ?_
      refine lv_iload_n hx hb dX2_trim_103 rfl (lv_at hl 1 rfl) ?_
      obtain ⟨hi, h⟩ := gd h
      refine va_iald hx hb hK hP 2 1 rfl rfl hi dX2_trim_104 ?_
      refine lv_iadd hx hb dX2_trim_105 ?_
      refine lv_iconst (v := 1) hx hb dX2_trim_106 (by decide) ?_
      refine lv_isub hx hb dX2_trim_107 ?_
      obtain ⟨hi, h⟩ := gd h
      refine va_iald hx hb hK hP 1 0 rfl rfl hi dX2_trim_108 ?_
      refine lv_if_ne (tgt := 125) hx hb dX2_trim_109 (by decide) (fun c9 => ?_) (fun c9 => ?_)
      · have h := (if_neg c9).symm.trans h
        obtain ⟨h09, h19, h29⟩ := rt3 h
        subst o_d
        subst o_n
        subst o_power
        exact W.vret hx hb hr (fun t ht hW => ⟨⟨(), rfl, trivial, by rw [ht]; exact hP, va_K.moved hW.alike hK, hD⟩, hS.F ht⟩) hS.2.2 dX2_trim_125
      · have h := (if_pos c9).symm.trans h
        refine lv_aload_n hx hb dX2_trim_112 rfl (lv_at hl 0 rfl) ?_
        refine va_get (D := (dC, dI)) (ci := 2) (v := .ref a_n) (C := RX2) (T := TX2) (N := 9) hx hb hws inlX2 hown hK hP 0 rfl rfl 4 (by decide) (hws _ ww_36) (fun _ h9 => h9) rfl dX2_trim_113 ?_
        refine lv_iload_n hx hb dX2_trim_116 rfl (lv_at hl 1 rfl) ?_
        refine lv_dup2_11 hx hb dX2_trim_117 rfl rfl ?_
        obtain ⟨hi, h⟩ := gd h
        refine va_iald hx hb hK hP 2 1 rfl rfl hi dX2_trim_118 ?_
        refine lv_iconst (v := 1) hx hb dX2_trim_119 (by decide) ?_
        refine lv_isub hx hb dX2_trim_120 ?_
        obtain ⟨hi, h⟩ := gd h
        refine va_iast hx hb hK hP hD hS 2 1 rfl rfl hi dX2_trim_121 (fun H locs hP hD hS => ?_)
        have hP : va_P (dC, dI) vwCl (wd_X2_trim a_this a_text a_d a_n a_power a_limbs c_d c_n c_power v_thrown v_size v_used v_at v_d (upd v_n (Int32.toNatClampNeg l1) ((v_n (Int32.toNatClampNeg l1)) - 1)) v_power) H := hP
        have hD : va_D A (wd_X2_trim a_this a_text a_d a_n a_power a_limbs c_d c_n c_power v_thrown v_size v_used v_at v_d (upd v_n (Int32.toNatClampNeg l1) ((v_n (Int32.toNatClampNeg l1)) - 1)) v_power) := hD
        refine lv_goto (tgt := 85) hx hb dX2_trim_122 (by decide) ?_
        exact ih l1 v_thrown v_size v_used v_at v_d (upd v_n (Int32.toNatClampNeg l1) ((v_n (Int32.toNatClampNeg l1)) - 1)) v_power o_d o_n o_power h H locs hK hP hD hS ls (lv_sub hl [0, 1] rfl)
set_option maxHeartbeats 4000000 in
set_option maxRecDepth 100000 in
theorem w_X2_trim_31 (l : Launch) {p : Program} {e : Env} {s : State} {m : MethodId} {args : Array Value} {below : List Frame} {meth : Method} {c : Code} {A : Nat → Prop} {dC : Nat → ClassId} {dI : Nat → Nat → Nat} (a_this a_text a_d a_n a_power a_limbs : Nat) (c_d c_n c_power : ClassId) (hx : p.tables.exec = Jvm.exec) (hb : c.code = cX2_trim) (hr : meth.sig.returnType = none) (hml : c.maxLocals = 4) (hown : s.vm.findClass RX2 = some m.cls) (hws : ∀ w ∈ wsL_law, w.before args s = true) (hlocks : meth.locks = false) (hA : ∀ q : Nat, s.heap.size ≤ q → A q) : ∀ (n : Nat) (l1 : Int32) (l2 : Int32) (l3 : Int32) (v_thrown : Int32) (v_size : Int32) (v_used : Int32) (v_at : Int32) (v_d : Nat → Int32) (v_n : Nat → Int32) (v_power : Nat → Int32) (o_d : Nat → Int32) (o_n : Nat → Int32) (o_power : Nat → Int32), f_X2_trim_L31 n l1 l2 l3 v_d v_n v_power = some (o_d, o_n, o_power) → ∀ (H : Heap) (locs : List Loc), va_K (dC, dI) vwCl [(c_d, .int), (c_n, .int), (c_power, .int)] s → va_P (dC, dI) vwCl (wd_X2_trim a_this a_text a_d a_n a_power a_limbs c_d c_n c_power v_thrown v_size v_used v_at v_d v_n v_power) H → va_D A (wd_X2_trim a_this a_text a_d a_n a_power a_limbs c_d c_n c_power v_thrown v_size v_used v_at v_d v_n v_power) → va_S A s.heap H locs → ∀ (ls : Array Slot), lv_has ls 4 [(0, .ref a_this), (1, .int l1), (2, .int l2), (3, .int l3)] → W p l e (headSpec (w_X2_trim) ({ frames := 0, cells := 0, slots := 0, locals := 0 } : Room)).room s m args below meth c H locs 0 0 (MQ below (va_Qv (fun (_ : Unit) => True) (fun (_ : Unit) t => va_P (dC, dI) vwCl (wd_X2_trim a_this a_text a_d a_n a_power a_limbs c_d c_n c_power v_thrown v_size v_used v_at o_d o_n o_power) t.heap ∧ va_K (dC, dI) vwCl [(c_d, .int), (c_n, .int), (c_power, .int)] t ∧ va_D A (wd_X2_trim a_this a_text a_d a_n a_power a_limbs c_d c_n c_power v_thrown v_size v_used v_at o_d o_n o_power)) A) args s 0 0 A) (F0 m 31 ls []) := by
  intro n
  induction n with
  | zero =>
    intro l1 l2 l3 v_thrown v_size v_used v_at v_d v_n v_power o_d o_n o_power h H locs hK hP hD hS ls hl
    exact absurd h (by simp [f_X2_trim_L31])
  | succ n ih =>
    intro l1 l2 l3 v_thrown v_size v_used v_at v_d v_n v_power o_d o_n o_power h H locs hK hP hD hS ls hl
    unfold f_X2_trim_L31 at h
    refine lv_iload_n hx hb dX2_trim_31 rfl (lv_at hl 3 rfl) ?_
    refine lv_aload_n hx hb dX2_trim_32 rfl (lv_at hl 0 rfl) ?_
    refine va_get (D := (dC, dI)) (ci := 2) (v := .ref a_n) (C := RX2) (T := TX2) (N := 9) hx hb hws inlX2 hown hK hP 0 rfl rfl 4 (by decide) (hws _ ww_36) (fun _ h9 => h9) rfl dX2_trim_33 ?_
    refine lv_iload_n hx hb dX2_trim_36 rfl (lv_at hl 1 rfl) ?_
    obtain ⟨hi, h⟩ := gd h
    refine va_iald hx hb hK hP 2 1 rfl rfl hi dX2_trim_37 ?_
    refine lv_icmp_ge (tgt := 65) hx hb dX2_trim_38 (by decide) (fun c9 => ?_) (fun c9 => ?_)
    · have h := (if_pos c9).symm.trans h
      refine lv_aload_n hx hb dX2_trim_65 rfl (lv_at hl 0 rfl) ?_
      refine va_get (D := (dC, dI)) (ci := 2) (v := .ref a_n) (C := RX2) (T := TX2) (N := 9) hx hb hws inlX2 hown hK hP 0 rfl rfl 4 (by decide) (hws _ ww_36) (fun _ h9 => h9) rfl dX2_trim_66 ?_
      refine lv_iload_n hx hb dX2_trim_69 rfl (lv_at hl 1 rfl) ?_
      refine lv_dup2_11 hx hb dX2_trim_70 rfl rfl ?_
      obtain ⟨hi, h⟩ := gd h
      refine va_iald hx hb hK hP 2 1 rfl rfl hi dX2_trim_71 ?_
      refine lv_iload_n hx hb dX2_trim_72 rfl (lv_at hl 2 rfl) ?_
      refine lv_isub hx hb dX2_trim_73 ?_
      obtain ⟨hi, h⟩ := gd h
      refine va_iast hx hb hK hP hD hS 2 1 rfl rfl hi dX2_trim_74 (fun H locs hP hD hS => ?_)
      have hP : va_P (dC, dI) vwCl (wd_X2_trim a_this a_text a_d a_n a_power a_limbs c_d c_n c_power v_thrown v_size v_used v_at v_d (upd v_n (Int32.toNatClampNeg l1) ((v_n (Int32.toNatClampNeg l1)) - l2)) v_power) H := hP
      have hD : va_D A (wd_X2_trim a_this a_text a_d a_n a_power a_limbs c_d c_n c_power v_thrown v_size v_used v_at v_d (upd v_n (Int32.toNatClampNeg l1) ((v_n (Int32.toNatClampNeg l1)) - l2)) v_power) := hD
      refine lv_aload_n hx hb dX2_trim_75 rfl (lv_at hl 0 rfl) ?_
      refine va_get (D := (dC, dI)) (ci := 2) (v := .ref a_power) (C := RX2) (T := TX2) (N := 9) hx hb hws inlX2 hown hK hP 0 rfl rfl 5 (by decide) (hws _ ww_37) (fun _ h9 => h9) rfl dX2_trim_76 ?_
      refine lv_iload_n hx hb dX2_trim_79 rfl (lv_at hl 1 rfl) ?_
      refine lv_dup2_11 hx hb dX2_trim_80 rfl rfl ?_
      obtain ⟨hi, h⟩ := gd h
      refine va_iald hx hb hK hP 3 2 rfl rfl hi dX2_trim_81 ?_
      refine lv_iload_n hx hb dX2_trim_82 rfl (lv_at hl 2 rfl) ?_
      refine lv_isub hx hb dX2_trim_83 ?_
      obtain ⟨hi, h⟩ := gd h
      refine va_iast hx hb hK hP hD hS 3 2 rfl rfl hi dX2_trim_84 (fun H locs hP hD hS => ?_)
      have hP : va_P (dC, dI) vwCl (wd_X2_trim a_this a_text a_d a_n a_power a_limbs c_d c_n c_power v_thrown v_size v_used v_at v_d (upd v_n (Int32.toNatClampNeg l1) ((v_n (Int32.toNatClampNeg l1)) - l2)) (upd v_power (Int32.toNatClampNeg l1) ((v_power (Int32.toNatClampNeg l1)) - l2))) H := hP
      have hD : va_D A (wd_X2_trim a_this a_text a_d a_n a_power a_limbs c_d c_n c_power v_thrown v_size v_used v_at v_d (upd v_n (Int32.toNatClampNeg l1) ((v_n (Int32.toNatClampNeg l1)) - l2)) (upd v_power (Int32.toNatClampNeg l1) ((v_power (Int32.toNatClampNeg l1)) - l2))) := hD
      exact w_X2_trim_85 l a_this a_text a_d a_n a_power a_limbs c_d c_n c_power hx hb hr hml hown hws hlocks hA FU l1 v_thrown v_size v_used v_at v_d (upd v_n (Int32.toNatClampNeg l1) ((v_n (Int32.toNatClampNeg l1)) - l2)) (upd v_power (Int32.toNatClampNeg l1) ((v_power (Int32.toNatClampNeg l1)) - l2)) o_d o_n o_power h H locs hK hP hD hS ls (lv_sub hl [0, 1] rfl)
    · have h := (if_neg c9).symm.trans h
      refine lv_aload_n hx hb dX2_trim_41 rfl (lv_at hl 0 rfl) ?_
      refine va_get (D := (dC, dI)) (ci := 2) (v := .ref a_d) (C := RX2) (T := TX2) (N := 9) hx hb hws inlX2 hown hK hP 0 rfl rfl 3 (by decide) (hws _ ww_35) (fun _ h9 => h9) rfl dX2_trim_42 ?_
      refine lv_iload_n hx hb dX2_trim_45 rfl (lv_at hl 1 rfl) ?_
      refine lv_iload_n hx hb dX2_trim_46 rfl (lv_at hl 3 rfl) ?_
      refine lv_iadd hx hb dX2_trim_47 ?_
      refine lv_iload_n hx hb dX2_trim_48 rfl (lv_at hl 2 rfl) ?_
      refine lv_isub hx hb dX2_trim_49 ?_
      refine lv_aload_n hx hb dX2_trim_50 rfl (lv_at hl 0 rfl) ?_
      refine va_get (D := (dC, dI)) (ci := 2) (v := .ref a_d) (C := RX2) (T := TX2) (N := 9) hx hb hws inlX2 hown hK hP 0 rfl rfl 3 (by decide) (hws _ ww_35) (fun _ h9 => h9) rfl dX2_trim_51 ?_
      refine lv_iload_n hx hb dX2_trim_54 rfl (lv_at hl 1 rfl) ?_
      refine lv_iload_n hx hb dX2_trim_55 rfl (lv_at hl 3 rfl) ?_
      refine lv_iadd hx hb dX2_trim_56 ?_
      obtain ⟨hi, h⟩ := gd h
      refine va_iald hx hb hK hP 1 0 rfl rfl hi dX2_trim_57 ?_
      obtain ⟨hi, h⟩ := gd h
      refine va_iast hx hb hK hP hD hS 1 0 rfl rfl hi dX2_trim_58 (fun H locs hP hD hS => ?_)
      have hP : va_P (dC, dI) vwCl (wd_X2_trim a_this a_text a_d a_n a_power a_limbs c_d c_n c_power v_thrown v_size v_used v_at (upd v_d (Int32.toNatClampNeg ((l1 + l3) - l2)) (v_d (Int32.toNatClampNeg (l1 + l3)))) v_n v_power) H := hP
      have hD : va_D A (wd_X2_trim a_this a_text a_d a_n a_power a_limbs c_d c_n c_power v_thrown v_size v_used v_at (upd v_d (Int32.toNatClampNeg ((l1 + l3) - l2)) (v_d (Int32.toNatClampNeg (l1 + l3)))) v_n v_power) := hD
      refine lv_iinc (v := (l3 + 1)) (lv' := [(3, .int (l3 + 1)), (0, .ref a_this), (1, .int l1), (2, .int l2)]) hx hb dX2_trim_59 hl (k := 3) rfl rfl (by decide) rfl (fun ls hl => ?_)
      refine lv_goto (tgt := 31) hx hb dX2_trim_62 (by decide) ?_
      exact ih l1 l2 (l3 + 1) v_thrown v_size v_used v_at (upd v_d (Int32.toNatClampNeg ((l1 + l3) - l2)) (v_d (Int32.toNatClampNeg (l1 + l3)))) v_n v_power o_d o_n o_power h H locs hK hP hD hS ls (lv_sub hl [1, 2, 3, 0] rfl)
set_option maxHeartbeats 4000000 in
set_option maxRecDepth 100000 in
theorem w_X2_trim_2 (l : Launch) {p : Program} {e : Env} {s : State} {m : MethodId} {args : Array Value} {below : List Frame} {meth : Method} {c : Code} {A : Nat → Prop} {dC : Nat → ClassId} {dI : Nat → Nat → Nat} (a_this a_text a_d a_n a_power a_limbs : Nat) (c_d c_n c_power : ClassId) (hx : p.tables.exec = Jvm.exec) (hb : c.code = cX2_trim) (hr : meth.sig.returnType = none) (hml : c.maxLocals = 4) (hown : s.vm.findClass RX2 = some m.cls) (hws : ∀ w ∈ wsL_law, w.before args s = true) (hlocks : meth.locks = false) (hA : ∀ q : Nat, s.heap.size ≤ q → A q) : ∀ (n : Nat) (l1 : Int32) (l2 : Int32) (v_thrown : Int32) (v_size : Int32) (v_used : Int32) (v_at : Int32) (v_d : Nat → Int32) (v_n : Nat → Int32) (v_power : Nat → Int32) (o_d : Nat → Int32) (o_n : Nat → Int32) (o_power : Nat → Int32), f_X2_trim_L2 n l1 l2 v_d v_n v_power = some (o_d, o_n, o_power) → ∀ (H : Heap) (locs : List Loc), va_K (dC, dI) vwCl [(c_d, .int), (c_n, .int), (c_power, .int)] s → va_P (dC, dI) vwCl (wd_X2_trim a_this a_text a_d a_n a_power a_limbs c_d c_n c_power v_thrown v_size v_used v_at v_d v_n v_power) H → va_D A (wd_X2_trim a_this a_text a_d a_n a_power a_limbs c_d c_n c_power v_thrown v_size v_used v_at v_d v_n v_power) → va_S A s.heap H locs → ∀ (ls : Array Slot), lv_has ls 4 [(0, .ref a_this), (1, .int l1), (2, .int l2)] → W p l e (headSpec (w_X2_trim) ({ frames := 0, cells := 0, slots := 0, locals := 0 } : Room)).room s m args below meth c H locs 0 0 (MQ below (va_Qv (fun (_ : Unit) => True) (fun (_ : Unit) t => va_P (dC, dI) vwCl (wd_X2_trim a_this a_text a_d a_n a_power a_limbs c_d c_n c_power v_thrown v_size v_used v_at o_d o_n o_power) t.heap ∧ va_K (dC, dI) vwCl [(c_d, .int), (c_n, .int), (c_power, .int)] t ∧ va_D A (wd_X2_trim a_this a_text a_d a_n a_power a_limbs c_d c_n c_power v_thrown v_size v_used v_at o_d o_n o_power)) A) args s 0 0 A) (F0 m 2 ls []) := by
  intro n
  induction n with
  | zero =>
    intro l1 l2 v_thrown v_size v_used v_at v_d v_n v_power o_d o_n o_power h H locs hK hP hD hS ls hl
    exact absurd h (by simp [f_X2_trim_L2])
  | succ n ih =>
    intro l1 l2 v_thrown v_size v_used v_at v_d v_n v_power o_d o_n o_power h H locs hK hP hD hS ls hl
    unfold f_X2_trim_L2 at h
    refine lv_iload_n hx hb dX2_trim_2 rfl (lv_at hl 2 rfl) ?_
    refine lv_aload_n hx hb dX2_trim_3 rfl (lv_at hl 0 rfl) ?_
    refine va_get (D := (dC, dI)) (ci := 2) (v := .ref a_n) (C := RX2) (T := TX2) (N := 9) hx hb hws inlX2 hown hK hP 0 rfl rfl 4 (by decide) (hws _ ww_36) (fun _ h9 => h9) rfl dX2_trim_4 ?_
    refine lv_iload_n hx hb dX2_trim_7 rfl (lv_at hl 1 rfl) ?_
    obtain ⟨hi, h⟩ := gd h
    refine va_iald hx hb hK hP 2 1 rfl rfl hi dX2_trim_8 ?_
    refine lv_icmp_ge (tgt := 29) hx hb dX2_trim_9 (by decide) (fun c9 => ?_) (fun c9 => ?_)
    · have h := (if_pos c9).symm.trans h
      refine lv_iload_n hx hb dX2_trim_29 rfl (lv_at hl 2 rfl) ?_
      refine lv_istore_n (lv' := [(3, .int l2), (0, .ref a_this), (1, .int l1), (2, .int l2)]) hx hb dX2_trim_30 rfl hl (by decide) rfl (fun ls hl => ?_)
      exact w_X2_trim_31 l a_this a_text a_d a_n a_power a_limbs c_d c_n c_power hx hb hr hml hown hws hlocks hA FU l1 l2 l2 v_thrown v_size v_used v_at v_d v_n v_power o_d o_n o_power h H locs hK hP hD hS ls (lv_sub hl [1, 2, 3, 0] rfl)
    · have h := (if_neg c9).symm.trans h
      refine lv_aload_n hx hb dX2_trim_12 rfl (lv_at hl 0 rfl) ?_
      refine va_get (D := (dC, dI)) (ci := 2) (v := .ref a_d) (C := RX2) (T := TX2) (N := 9) hx hb hws inlX2 hown hK hP 0 rfl rfl 3 (by decide) (hws _ ww_35) (fun _ h9 => h9) rfl dX2_trim_13 ?_
      refine lv_iload_n hx hb dX2_trim_16 rfl (lv_at hl 1 rfl) ?_
      refine lv_iload_n hx hb dX2_trim_17 rfl (lv_at hl 2 rfl) ?_
      refine lv_iadd hx hb dX2_trim_18 ?_
      obtain ⟨hi, h⟩ := gd h
      refine va_iald hx hb hK hP 1 0 rfl rfl hi dX2_trim_19 ?_
      refine lv_if_ne (tgt := 29) hx hb dX2_trim_20 (by decide) (fun c9 => ?_) (fun c9 => ?_)
      · have h := (if_neg c9).symm.trans h
        refine lv_iload_n hx hb dX2_trim_29 rfl (lv_at hl 2 rfl) ?_
        refine lv_istore_n (lv' := [(3, .int l2), (0, .ref a_this), (1, .int l1), (2, .int l2)]) hx hb dX2_trim_30 rfl hl (by decide) rfl (fun ls hl => ?_)
        exact w_X2_trim_31 l a_this a_text a_d a_n a_power a_limbs c_d c_n c_power hx hb hr hml hown hws hlocks hA FU l1 l2 l2 v_thrown v_size v_used v_at v_d v_n v_power o_d o_n o_power h H locs hK hP hD hS ls (lv_sub hl [1, 2, 3, 0] rfl)
      · have h := (if_pos c9).symm.trans h
        refine lv_iinc (v := (l2 + 1)) (lv' := [(2, .int (l2 + 1)), (0, .ref a_this), (1, .int l1)]) hx hb dX2_trim_23 hl (k := 2) rfl rfl (by decide) rfl (fun ls hl => ?_)
        refine lv_goto (tgt := 2) hx hb dX2_trim_26 (by decide) ?_
        exact ih l1 (l2 + 1) v_thrown v_size v_used v_at v_d v_n v_power o_d o_n o_power h H locs hK hP hD hS ls (lv_sub hl [1, 2, 0] rfl)
set_option maxHeartbeats 4000000 in
set_option maxRecDepth 100000 in
theorem c_X2_trim (l : Launch) (dC : Nat → ClassId) (dI : Nat → Nat → Nat)  (a_this a_text a_d a_n a_power a_limbs : Nat) (c_d c_n c_power : ClassId) (sz : Nat) (l1 : Int32) (v_thrown : Int32) (v_size : Int32) (v_used : Int32) (v_at : Int32) (v_d : Nat → Int32) (v_n : Nat → Int32) (v_power : Nat → Int32) (o_d : Nat → Int32) (o_n : Nat → Int32) (o_power : Nat → Int32) (h : f_X2_trim l1 v_d v_n v_power = some (o_d, o_n, o_power)) : Met l yX2_trim w_X2_trim ({ frames := 0, cells := 0, slots := 0, locals := 0 } : Room) (va_Pc [.ref a_this, .int l1] (fun U => U.heap.size = sz ∧ va_P (dC, dI) vwCl (wd_X2_trim a_this a_text a_d a_n a_power a_limbs c_d c_n c_power v_thrown v_size v_used v_at v_d v_n v_power) U.heap ∧ va_K (dC, dI) vwCl [(c_d, .int), (c_n, .int), (c_power, .int)] U ∧ va_D (fun _ => True) (wd_X2_trim a_this a_text a_d a_n a_power a_limbs c_d c_n c_power v_thrown v_size v_used v_at v_d v_n v_power))) (va_Qv (fun (_ : Unit) => True) (fun (_ : Unit) t => va_P (dC, dI) vwCl (wd_X2_trim a_this a_text a_d a_n a_power a_limbs c_d c_n c_power v_thrown v_size v_used v_at o_d o_n o_power) t.heap ∧ va_K (dC, dI) vwCl [(c_d, .int), (c_n, .int), (c_power, .int)] t ∧ va_D (va_A (wd_X2_trim a_this a_text a_d a_n a_power a_limbs c_d c_n c_power v_thrown v_size v_used v_at v_d v_n v_power) sz) (wd_X2_trim a_this a_text a_d a_n a_power a_limbs c_d c_n c_power v_thrown v_size v_used v_at o_d o_n o_power)) (va_A (wd_X2_trim a_this a_text a_d a_n a_power a_limbs c_d c_n c_power v_thrown v_size v_used v_at v_d v_n v_power) sz)) 0 0 (va_A (wd_X2_trim a_this a_text a_d a_n a_power a_limbs c_d c_n c_power v_thrown v_size v_used v_at v_d v_n v_power) sz) := by
  refine Met.ofW (cc := cX2_trim) (maxL := 4) (ret := none) (by decide) rfl ?_
  intro p e s m args below meth c s₁ B hml hv
  obtain ⟨rfl, hsz, hP, hK, hD0⟩ := hv
  have hx := B.exec
  have hb := B.bytes
  have hr := B.returns
  have hws : ∀ w ∈ wsL_law, w.before _ s = true := fun w hw => atoms_spec (ws := w_X2_trim) B.pre w (List.mem_cons_of_mem _ hw)
  have hown : s.vm.findClass RX2 = some m.cls := findClass_of_methodNamed B.named
  have hlocks := B.notSynchronized
  subst hsz
  have hD := hD0.self (sz := s.heap.size)
  generalize hAe : va_A (wd_X2_trim a_this a_text a_d a_n a_power a_limbs c_d c_n c_power v_thrown v_size v_used v_at v_d v_n v_power) s.heap.size = A at hD ⊢
  have hA : ∀ q : Nat, s.heap.size ≤ q → A q := fun q h => by rw [← hAe]; exact Or.inr h
  have hS : va_S A s.heap s.heap [] := va_S.rf
  have hl := lv_entry ([.ref a_this, .int l1]) (n := 4) (Nat.le_of_ble_eq_true rfl)
  rw [lg_entry_eq]
  generalize (lg_sl ([.ref a_this, .int l1]) ++ List.replicate (4 - (lg_sl ([.ref a_this, .int l1])).length) Slot.unset).toArray = ls at hl ⊢
  have hl : lv_has ls 4 [(0, .ref a_this), (1, .int l1)] := hl
  unfold f_X2_trim at h
  refine lv_iconst (v := 0) hx hb dX2_trim_0 (by decide) ?_
  refine lv_istore_n (lv' := [(2, .int 0), (0, .ref a_this), (1, .int l1)]) hx hb dX2_trim_1 rfl hl (by decide) rfl (fun ls hl => ?_)
  exact w_X2_trim_2 l a_this a_text a_d a_n a_power a_limbs c_d c_n c_power hx hb hr hml hown hws hlocks hA FU l1 0 v_thrown v_size v_used v_at v_d v_n v_power o_d o_n o_power h s.heap [] hK hP hD hS ls (lv_sub hl [1, 2, 0] rfl)
