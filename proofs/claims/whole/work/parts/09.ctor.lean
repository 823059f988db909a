abbrev w_X0_init : List Cond := Cond.code yX0_init cX0_init 1 none :: wsL_law
set_option maxHeartbeats 4000000 in
set_option maxRecDepth 100000 in
theorem c_X0_init (l : Launch) (dC : Nat → ClassId) (dI : Nat → Nat → Nat) (a_this : Nat) (sz : Nat) : Met l yX0_init w_X0_init ({ frames := 1, cells := 1, slots := 160, locals := 20 } : Room) (va_Pc [.ref a_this] (fun U => U.heap.size = sz ∧ va_P (dC, dI) vwCl [(a_this, .inr (0, [.null, .int 0, .int 0]))] U.heap ∧ va_K (dC, dI) vwCl [] U ∧ va_D (fun _ => True) [(a_this, .inr (0, [.null, .int 0, .int 0]))])) (va_Qv (fun (_ : Unit) => True) (fun _ t => ∃ (q1 : Nat) (k1 : ClassId), va_P (dC, dI) vwCl [(a_this, .inr (0, [.ref q1, .int 160, .int (-1)])), (q1, .inl (k1, 160, .inr (.inl (fun _ => 0))))] t.heap ∧ va_K (dC, dI) vwCl [(k1, .long)] t ∧ va_D (va_A [(a_this, .inr (0, [.null, .int 0, .int 0]))] sz) [(a_this, .inr (0, [.ref q1, .int 160, .int (-1)])), (q1, .inl (k1, 160, .inr (.inl (fun _ => 0))))]) (va_A [(a_this, .inr (0, [.null, .int 0, .int 0]))] sz)) 1 160 (va_A [(a_this, .inr (0, [.null, .int 0, .int 0]))] sz) := by
  refine Met.ofW (cc := cX0_init) (maxL := 1) (ret := none) (by decide) rfl ?_
  intro p e s m args below meth c s₁ B hml hv
  obtain ⟨rfl, hsz, hP, hK, hD0⟩ := hv
  have hx := B.exec
  have hb := B.bytes
  have hr := B.returns
  have hws : ∀ w ∈ wsL_law, w.before _ s = true := fun w hw => atoms_spec (ws := w_X0_init) B.pre w (List.mem_cons_of_mem _ hw)
  have hown : s.vm.findClass RX0 = some m.cls := findClass_of_methodNamed B.named
  have hlocks := B.notSynchronized
  have hin : meth.name = "<init>" := (name_of_methodNamed B.named B.method).1
  subst hsz
  have hD := hD0.self (sz := s.heap.size)
  generalize hAe : va_A [(a_this, .inr (0, [.null, .int 0, .int 0]))] s.heap.size = A at hD ⊢
  have hA : ∀ q : Nat, s.heap.size ≤ q → A q := fun q h => by rw [← hAe]; exact Or.inr h
  have hS : va_S A s.heap s.heap [] := va_S.rf
  have hl := lv_entry ([.ref a_this]) (n := 1) (Nat.le_of_ble_eq_true rfl)
  rw [lg_entry_eq]
  generalize (lg_sl ([.ref a_this]) ++ List.replicate (1 - (lg_sl ([.ref a_this])).length) Slot.unset).toArray = ls at hl ⊢
  have hl : lv_has ls 1 [(0, .ref a_this)] := hl
  refine lv_aload_n hx hb dX0_init_0 rfl (lv_at hl 0 rfl) ?_
  refine W.objInit hx hb hown (hws _ ww_26) (hws _ ww_12) (hws _ ww_13) rfl (by rw [hml]; exact hl.1) rfl dX0_init_1 (Nat.le_of_ble_eq_true rfl) (Nat.le_of_ble_eq_true rfl) ?_
  refine W.eq (g2 := F0 m 4 ls []) rfl ?_
  refine lv_aload_n hx hb dX0_init_4 rfl (lv_at hl 0 rfl) ?_
  refine lv_sipush (v := 160) hx hb dX0_init_5 (by decide) ?_
  refine va_newa (atype := .long) (ty := .long) (n := 160) (a0 := (160, .inr (.inl (fun _ => 0)))) (N' := 160) hx hb (hws _ ww_6) rfl hK hP hD hS hA (fun _ => rfl) (by decide) (by decide) (by decide) (Nat.le_of_ble_eq_true rfl) (Nat.le_of_ble_eq_true rfl) dX0_init_8 (fun q1 k1 H hK hP hD hS => ?_)
  have hP : va_P (dC, dI) vwCl [(a_this, .inr (0, [.null, .int 0, .int 0])), (q1, .inl (k1, 160, .inr (.inl (fun _ => 0))))] H := hP
  have hD : va_D A [(a_this, .inr (0, [.null, .int 0, .int 0])), (q1, .inl (k1, 160, .inr (.inl (fun _ => 0))))] := hD
  have hK : va_K (dC, dI) vwCl [(k1, .long)] s := hK
  refine W.widen (k := 1) (n := 160) (by decide) (by decide) ?_
  refine va_putF (D := (dC, dI)) (ci := 0) (v := .ref q1) (ty := (.array .long)) (C := RX0) (T := TX0) (N := 3) hx hb hws inlX0 tyX0 tyX0_ok nmX0 hown hK hP hD hS 0 rfl rfl 0 (by decide) (hws _ ww_27) (fun _ h9 => h9) rfl hin rfl (by decide +kernel) rfl rfl (Nat.le_of_ble_eq_true rfl) dX0_init_10 (fun H locs hP hD hS => ?_)
  have hP : va_P (dC, dI) vwCl [(a_this, .inr (0, [.ref q1, .int 0, .int 0])), (q1, .inl (k1, 160, .inr (.inl (fun _ => 0))))] H := hP
  have hD : va_D A [(a_this, .inr (0, [.ref q1, .int 0, .int 0])), (q1, .inl (k1, 160, .inr (.inl (fun _ => 0))))] := hD
  refine lv_aload_n hx hb dX0_init_13 rfl (lv_at hl 0 rfl) ?_
  refine lv_sipush (v := 160) hx hb dX0_init_14 (by decide) ?_
  refine va_put (D := (dC, dI)) (ci := 0) (v := .int 160) (ty := .int) (C := RX0) (T := TX0) (N := 3) hx hb hws inlX0 tyX0 tyX0_ok nmX0 hown hK hP hD hS 0 rfl rfl 1 (by decide) (hws _ ww_28) (fun _ h9 => h9) rfl (by decide +kernel) rfl rfl (Nat.le_of_ble_eq_true rfl) dX0_init_17 (fun H locs hP hD hS => ?_)
  have hP : va_P (dC, dI) vwCl [(a_this, .inr (0, [.ref q1, .int 160, .int 0])), (q1, .inl (k1, 160, .inr (.inl (fun _ => 0))))] H := hP
  have hD : va_D A [(a_this, .inr (0, [.ref q1, .int 160, .int 0])), (q1, .inl (k1, 160, .inr (.inl (fun _ => 0))))] := hD
  refine lv_aload_n hx hb dX0_init_20 rfl (lv_at hl 0 rfl) ?_
  refine lv_iconst (v := (-1)) hx hb dX0_init_21 (by decide) ?_
  refine va_put (D := (dC, dI)) (ci := 0) (v := .int (-1)) (ty := .int) (C := RX0) (T := TX0) (N := 3) hx hb hws inlX0 tyX0 tyX0_ok nmX0 hown hK hP hD hS 0 rfl rfl 2 (by decide) (hws _ ww_29) (fun _ h9 => h9) rfl (by decide +kernel) rfl rfl (Nat.le_of_ble_eq_true rfl) dX0_init_22 (fun H locs hP hD hS => ?_)
  have hP : va_P (dC, dI) vwCl [(a_this, .inr (0, [.ref q1, .int 160, .int (-1)])), (q1, .inl (k1, 160, .inr (.inl (fun _ => 0))))] H := hP
  have hD : va_D A [(a_this, .inr (0, [.ref q1, .int 160, .int (-1)])), (q1, .inl (k1, 160, .inr (.inl (fun _ => 0))))] := hD
  exact W.vret hx hb hr (fun t ht hW => ⟨⟨(), rfl, trivial, q1, k1, by rw [ht]; exact hP, va_K.moved hW.alike hK, hD⟩, hS.F ht⟩) hS.2.2 dX0_init_25
abbrev w_X1_init : List Cond := Cond.code yX1_init cX1_init 1 none :: wsL_law
set_option maxHeartbeats 4000000 in
set_option maxRecDepth 100000 in
theorem c_X1_init (l : Launch) (dC : Nat → ClassId) (dI : Nat → Nat → Nat) (a_this : Nat) (sz : Nat) : Met l yX1_init w_X1_init ({ frames := 2, cells := 9, slots := 1052, locals := 40 } : Room) (va_Pc [.ref a_this] (fun U => U.heap.size = sz ∧ va_P (dC, dI) vwCl [(a_this, .inr (1, [.null, .int 0, .int 0, .int 0, .int 0, .int 0, .null, .null, .null, .null]))] U.heap ∧ va_K (dC, dI) vwCl [] U ∧ va_D (fun _ => True) [(a_this, .inr (1, [.null, .int 0, .int 0, .int 0, .int 0, .int 0, .null, .null, .null, .null]))])) (va_Qv (fun (_ : Unit) => True) (fun _ t => ∃ (q1 q2 q2l q3 q3l q4 q4l q5 q5l : Nat) (k1 k2 k3 k4 k5 : ClassId), va_P (dC, dI) vwCl [(a_this, .inr (1, [.ref q1, .int 0, .int 0, .int 0, .int 0, .int 0, .ref q2, .ref q3, .ref q4, .ref q5])), (q1, .inl (k1, 400, .inl (fun _ => 0))), (q2, .inr (0, [.ref q2l, .int 160, .int (-1)])), (q2l, .inl (k2, 160, .inr (.inl (fun _ => 0)))), (q3, .inr (0, [.ref q3l, .int 160, .int (-1)])), (q3l, .inl (k3, 160, .inr (.inl (fun _ => 0)))), (q4, .inr (0, [.ref q4l, .int 160, .int (-1)])), (q4l, .inl (k4, 160, .inr (.inl (fun _ => 0)))), (q5, .inr (0, [.ref q5l, .int 160, .int (-1)])), (q5l, .inl (k5, 160, .inr (.inl (fun _ => 0))))] t.heap ∧ va_K (dC, dI) vwCl [(k1, .int), (k2, .long), (k3, .long), (k4, .long), (k5, .long)] t ∧ va_D (va_A [(a_this, .inr (1, [.null, .int 0, .int 0, .int 0, .int 0, .int 0, .null, .null, .null, .null]))] sz) [(a_this, .inr (1, [.ref q1, .int 0, .int 0, .int 0, .int 0, .int 0, .ref q2, .ref q3, .ref q4, .ref q5])), (q1, .inl (k1, 400, .inl (fun _ => 0))), (q2, .inr (0, [.ref q2l, .int 160, .int (-1)])), (q2l, .inl (k2, 160, .inr (.inl (fun _ => 0)))), (q3, .inr (0, [.ref q3l, .int 160, .int (-1)])), (q3l, .inl (k3, 160, .inr (.inl (fun _ => 0)))), (q4, .inr (0, [.ref q4l, .int 160, .int (-1)])), (q4l, .inl (k4, 160, .inr (.inl (fun _ => 0)))), (q5, .inr (0, [.ref q5l, .int 160, .int (-1)])), (q5l, .inl (k5, 160, .inr (.inl (fun _ => 0))))]) (va_A [(a_this, .inr (1, [.null, .int 0, .int 0, .int 0, .int 0, .int 0, .null, .null, .null, .null]))] sz)) 9 1052 (va_A [(a_this, .inr (1, [.null, .int 0, .int 0, .int 0, .int 0, .int 0, .null, .null, .null, .null]))] sz) := by
  refine Met.ofW (cc := cX1_init) (maxL := 1) (ret := none) (by decide) rfl ?_
  intro p e s m args below meth c s₁ B hml hv
  obtain ⟨rfl, hsz, hP, hK, hD0⟩ := hv
  have hx := B.exec
  have hb := B.bytes
  have hr := B.returns
  have hws : ∀ w ∈ wsL_law, w.before _ s = true := fun w hw => atoms_spec (ws := w_X1_init) B.pre w (List.mem_cons_of_mem _ hw)
  have hown : s.vm.findClass RX1 = some m.cls := findClass_of_methodNamed B.named
  have hlocks := B.notSynchronized
  have hin : meth.name = "<init>" := (name_of_methodNamed B.named B.method).1
  subst hsz
  have hD := hD0.self (sz := s.heap.size)
  generalize hAe : va_A [(a_this, .inr (1, [.null, .int 0, .int 0, .int 0, .int 0, .int 0, .null, .null, .null, .null]))] s.heap.size = A at hD ⊢
  have hA : ∀ q : Nat, s.heap.size ≤ q → A q := fun q h => by rw [← hAe]; exact Or.inr h
  have hS : va_S A s.heap s.heap [] := va_S.rf
  have hl := lv_entry ([.ref a_this]) (n := 1) (Nat.le_of_ble_eq_true rfl)
  rw [lg_entry_eq]
  generalize (lg_sl ([.ref a_this]) ++ List.replicate (1 - (lg_sl ([.ref a_this])).length) Slot.unset).toArray = ls at hl ⊢
  have hl : lv_has ls 1 [(0, .ref a_this)] := hl
  refine lv_aload_n hx hb dX1_init_0 rfl (lv_at hl 0 rfl) ?_
  refine W.objInit hx hb hown (hws _ ww_11) (hws _ ww_12) (hws _ ww_13) rfl (by rw [hml]; exact hl.1) rfl dX1_init_1 (Nat.le_of_ble_eq_true rfl) (Nat.le_of_ble_eq_true rfl) ?_
  refine W.eq (g2 := F0 m 4 ls []) rfl ?_
  refine lv_aload_n hx hb dX1_init_4 rfl (lv_at hl 0 rfl) ?_
  refine lv_sipush (v := 400) hx hb dX1_init_5 (by decide) ?_
  refine va_newa (atype := .int) (ty := .int) (n := 400) (a0 := (400, .inl (fun _ => 0))) (N' := 400) hx hb (hws _ ww_14) rfl hK hP hD hS hA (fun _ => rfl) (by decide) (by decide) (by decide) (Nat.le_of_ble_eq_true rfl) (Nat.le_of_ble_eq_true rfl) dX1_init_8 (fun q1 k1 H hK hP hD hS => ?_)
  have hP : va_P (dC, dI) vwCl [(a_this, .inr (1, [.null, .int 0, .int 0, .int 0, .int 0, .int 0, .null, .null, .null, .null])), (q1, .inl (k1, 400, .inl (fun _ => 0)))] H := hP
  have hD : va_D A [(a_this, .inr (1, [.null, .int 0, .int 0, .int 0, .int 0, .int 0, .null, .null, .null, .null])), (q1, .inl (k1, 400, .inl (fun _ => 0)))] := hD
  have hK : va_K (dC, dI) vwCl [(k1, .int)] s := hK
  refine W.widen (k := 1) (n := 400) (by decide) (by decide) ?_
  refine va_putF (D := (dC, dI)) (ci := 1) (v := .ref q1) (ty := (.array .int)) (C := RX1) (T := TX1) (N := 10) hx hb hws inlX1 tyX1 tyX1_ok nmX1 hown hK hP hD hS 0 rfl rfl 0 (by decide) (hws _ ww_15) (fun _ h9 => h9) rfl hin rfl (by decide +kernel) rfl rfl (Nat.le_of_ble_eq_true rfl) dX1_init_10 (fun H locs hP hD hS => ?_)
  have hP : va_P (dC, dI) vwCl [(a_this, .inr (1, [.ref q1, .int 0, .int 0, .int 0, .int 0, .int 0, .null, .null, .null, .null])), (q1, .inl (k1, 400, .inl (fun _ => 0)))] H := hP
  have hD : va_D A [(a_this, .inr (1, [.ref q1, .int 0, .int 0, .int 0, .int 0, .int 0, .null, .null, .null, .null])), (q1, .inl (k1, 400, .inl (fun _ => 0)))] := hD
  refine lv_aload_n hx hb dX1_init_13 rfl (lv_at hl 0 rfl) ?_
  refine va_new (ci := 0) (fs := [.null, .int 0, .int 0]) (C := RX0) (T := TX0) (N := 3) hx hb hws inlX0 tyX0 tyX0_ok hown (hws _ ww_16) (hws _ ww_17) (hws _ ww_18) hK hP hD hS hA rfl (fun j hj => by rcases (show j = 0 ∨ j = 1 ∨ j = 2 by omega) with rfl | rfl | rfl <;> rfl) (Nat.le_of_ble_eq_true rfl) (Nat.le_of_ble_eq_true rfl) dX1_init_14 (fun q2 H hP hD hS => ?_)
  have hP : va_P (dC, dI) vwCl [(a_this, .inr (1, [.ref q1, .int 0, .int 0, .int 0, .int 0, .int 0, .null, .null, .null, .null])), (q1, .inl (k1, 400, .inl (fun _ => 0))), (q2, .inr (0, [.null, .int 0, .int 0]))] H := hP
  have hD : va_D A [(a_this, .inr (1, [.ref q1, .int 0, .int 0, .int 0, .int 0, .int 0, .null, .null, .null, .null])), (q1, .inl (k1, 400, .inl (fun _ => 0))), (q2, .inr (0, [.null, .int 0, .int 0]))] := hD
  refine W.widen (k := 2) (n := 403) (by decide) (by decide) ?_
  refine lv_dup hx hb dX1_init_17 rfl ?_
  have hPc := hP.sub (ws' := [(q2, .inr (0, [.null, .int 0, .int 0]))]) [2] rfl
  have hDc := hD.sub (ws' := [(q2, .inr (0, [.null, .int 0, .int 0]))]) [2] (by decide) rfl
  have hKc := hK.sub (tys' := []) [] rfl
  have hFc := va_free (wc := [(q2, .inr (0, [.null, .int 0, .int 0]))]) hD hS hA [2] rfl
  refine va_callv (va_runI (As := []) (rest := [.ref q2, .ref a_this]) ⟨hx, hb, hml, hown, hws⟩ (c_X0_init l dC dI q2 (Array.size H)) (cwI 0 hws (gI ww_25) rfl rfl rfl (hws _ ww_18) (hws _ ww_23) (hws _ ww_24) rfl (by decide +kernel) ⟨Nat.le_of_ble_eq_true rfl, Nat.le_of_ble_eq_true rfl⟩) ⟨fun a U g mk q => by obtain ⟨q0, q1, qP, qK, qD⟩ := q; exact ⟨q0, q1, qP, va_K.moved (u := U) (U := U.calling g mk a) (Vm.Alike.refl U.vm) qK, qD⟩, fun U hU hW => ⟨rfl, by rw [hU], by rw [hU]; exact hPc, va_K.moved hW.alike hKc, hDc.weaken (fun _ _ _ _ => trivial)⟩⟩ rfl rfl hl.1 rfl (lv_room (Nat.le_of_ble_eq_true rfl)) dX1_init_18 ⟨Nat.le_of_ble_eq_true rfl, Nat.le_of_ble_eq_true rfl⟩) hS (fun q _ h => hFc q h) hFc (fun u9 t H1 locs ht hvm hw hB hz1 hk1 hS => ?_)
  obtain ⟨q2l, k2, hP1, hK1, hD1⟩ := hB
  rw [ht] at hP1
  have hK1 := va_K.moved hvm.symm hK1
  obtain ⟨hP, hD⟩ := va_join (wr := [(a_this, .inr (1, [.ref q1, .int 0, .int 0, .int 0, .int 0, .int 0, .null, .null, .null, .null])), (q1, .inl (k1, 400, .inl (fun _ => 0)))]) (w1 := [(q2, .inr (0, [.ref q2l, .int 160, .int (-1)])), (q2l, .inl (k2, 160, .inr (.inl (fun _ => 0))))]) hP hD [2] [0, 1] rfl rfl (by decide) (by decide) hk1 hFc hP1 hD1
  have hK := (hK.sub (tys' := [(k1, .int)]) [0] rfl).app hK1
  generalize H1 = H at hP hS ⊢
  have hP : va_P (dC, dI) vwCl [(a_this, .inr (1, [.ref q1, .int 0, .int 0, .int 0, .int 0, .int 0, .null, .null, .null, .null])), (q1, .inl (k1, 400, .inl (fun _ => 0))), (q2, .inr (0, [.ref q2l, .int 160, .int (-1)])), (q2l, .inl (k2, 160, .inr (.inl (fun _ => 0))))] H := hP
  have hD : va_D A [(a_this, .inr (1, [.ref q1, .int 0, .int 0, .int 0, .int 0, .int 0, .null, .null, .null, .null])), (q1, .inl (k1, 400, .inl (fun _ => 0))), (q2, .inr (0, [.ref q2l, .int 160, .int (-1)])), (q2l, .inl (k2, 160, .inr (.inl (fun _ => 0))))] := hD
  have hK : va_K (dC, dI) vwCl [(k1, .int), (k2, .long)] s := hK
  refine W.widen (k := 3) (n := 563) (by decide) (by decide) ?_
  refine va_putF (D := (dC, dI)) (ci := 1) (v := .ref q2) (ty := (.object "DoubleText$Decimal")) (C := RX1) (T := TX1) (N := 10) hx hb hws inlX1 tyX1 tyX1_ok nmX1 hown hK hP hD hS 0 rfl rfl 6 (by decide) (hws _ ww_19) (fun _ h9 => h9) rfl hin rfl (by decide +kernel) rfl rfl (Nat.le_of_ble_eq_true rfl) dX1_init_21 (fun H locs hP hD hS => ?_)
  have hP : va_P (dC, dI) vwCl [(a_this, .inr (1, [.ref q1, .int 0, .int 0, .int 0, .int 0, .int 0, .ref q2, .null, .null, .null])), (q1, .inl (k1, 400, .inl (fun _ => 0))), (q2, .inr (0, [.ref q2l, .int 160, .int (-1)])), (q2l, .inl (k2, 160, .inr (.inl (fun _ => 0))))] H := hP
  have hD : va_D A [(a_this, .inr (1, [.ref q1, .int 0, .int 0, .int 0, .int 0, .int 0, .ref q2, .null, .null, .null])), (q1, .inl (k1, 400, .inl (fun _ => 0))), (q2, .inr (0, [.ref q2l, .int 160, .int (-1)])), (q2l, .inl (k2, 160, .inr (.inl (fun _ => 0))))] := hD
  refine lv_aload_n hx hb dX1_init_24 rfl (lv_at hl 0 rfl) ?_
  refine va_new (ci := 0) (fs := [.null, .int 0, .int 0]) (C := RX0) (T := TX0) (N := 3) hx hb hws inlX0 tyX0 tyX0_ok hown (hws _ ww_16) (hws _ ww_17) (hws _ ww_18) hK hP hD hS hA rfl (fun j hj => by rcases (show j = 0 ∨ j = 1 ∨ j = 2 by omega) with rfl | rfl | rfl <;> rfl) (Nat.le_of_ble_eq_true rfl) (Nat.le_of_ble_eq_true rfl) dX1_init_25 (fun q3 H hP hD hS => ?_)
  have hP : va_P (dC, dI) vwCl [(a_this, .inr (1, [.ref q1, .int 0, .int 0, .int 0, .int 0, .int 0, .ref q2, .null, .null, .null])), (q1, .inl (k1, 400, .inl (fun _ => 0))), (q2, .inr (0, [.ref q2l, .int 160, .int (-1)])), (q2l, .inl (k2, 160, .inr (.inl (fun _ => 0)))), (q3, .inr (0, [.null, .int 0, .int 0]))] H := hP
  have hD : va_D A [(a_this, .inr (1, [.ref q1, .int 0, .int 0, .int 0, .int 0, .int 0, .ref q2, .null, .null, .null])), (q1, .inl (k1, 400, .inl (fun _ => 0))), (q2, .inr (0, [.ref q2l, .int 160, .int (-1)])), (q2l, .inl (k2, 160, .inr (.inl (fun _ => 0)))), (q3, .inr (0, [.null, .int 0, .int 0]))] := hD
  refine W.widen (k := 4) (n := 566) (by decide) (by decide) ?_
  refine lv_dup hx hb dX1_init_28 rfl ?_
  have hPc := hP.sub (ws' := [(q3, .inr (0, [.null, .int 0, .int 0]))]) [4] rfl
  have hDc := hD.sub (ws' := [(q3, .inr (0, [.null, .int 0, .int 0]))]) [4] (by decide) rfl
  have hKc := hK.sub (tys' := []) [] rfl
  have hFc := va_free (wc := [(q3, .inr (0, [.null, .int 0, .int 0]))]) hD hS hA [4] rfl
  refine va_callv (va_runI (As := []) (rest := [.ref q3, .ref a_this]) ⟨hx, hb, hml, hown, hws⟩ (c_X0_init l dC dI q3 (Array.size H)) (cwI 0 hws (gI ww_25) rfl rfl rfl (hws _ ww_18) (hws _ ww_23) (hws _ ww_24) rfl (by decide +kernel) ⟨Nat.le_of_ble_eq_true rfl, Nat.le_of_ble_eq_true rfl⟩) ⟨fun a U g mk q => by obtain ⟨q0, q1, qP, qK, qD⟩ := q; exact ⟨q0, q1, qP, va_K.moved (u := U) (U := U.calling g mk a) (Vm.Alike.refl U.vm) qK, qD⟩, fun U hU hW => ⟨rfl, by rw [hU], by rw [hU]; exact hPc, va_K.moved hW.alike hKc, hDc.weaken (fun _ _ _ _ => trivial)⟩⟩ rfl rfl hl.1 rfl (lv_room (Nat.le_of_ble_eq_true rfl)) dX1_init_29 ⟨Nat.le_of_ble_eq_true rfl, Nat.le_of_ble_eq_true rfl⟩) hS (fun q _ h => hFc q h) hFc (fun u9 t H1 locs ht hvm hw hB hz1 hk1 hS => ?_)
  obtain ⟨q3l, k3, hP1, hK1, hD1⟩ := hB
  rw [ht] at hP1
  have hK1 := va_K.moved hvm.symm hK1
  obtain ⟨hP, hD⟩ := va_join (wr := [(a_this, .inr (1, [.ref q1, .int 0, .int 0, .int 0, .int 0, .int 0, .ref q2, .null, .null, .null])), (q1, .inl (k1, 400, .inl (fun _ => 0))), (q2, .inr (0, [.ref q2l, .int 160, .int (-1)])), (q2l, .inl (k2, 160, .inr (.inl (fun _ => 0))))]) (w1 := [(q3, .inr (0, [.ref q3l, .int 160, .int (-1)])), (q3l, .inl (k3, 160, .inr (.inl (fun _ => 0))))]) hP hD [4] [0, 1, 2, 3] rfl rfl (by decide) (by decide) hk1 hFc hP1 hD1
  have hK := (hK.sub (tys' := [(k1, .int), (k2, .long)]) [0, 1] rfl).app hK1
  generalize H1 = H at hP hS ⊢
  have hP : va_P (dC, dI) vwCl [(a_this, .inr (1, [.ref q1, .int 0, .int 0, .int 0, .int 0, .int 0, .ref q2, .null, .null, .null])), (q1, .inl (k1, 400, .inl (fun _ => 0))), (q2, .inr (0, [.ref q2l, .int 160, .int (-1)])), (q2l, .inl (k2, 160, .inr (.inl (fun _ => 0)))), (q3, .inr (0, [.ref q3l, .int 160, .int (-1)])), (q3l, .inl (k3, 160, .inr (.inl (fun _ => 0))))] H := hP
  have hD : va_D A [(a_this, .inr (1, [.ref q1, .int 0, .int 0, .int 0, .int 0, .int 0, .ref q2, .null, .null, .null])), (q1, .inl (k1, 400, .inl (fun _ => 0))), (q2, .inr (0, [.ref q2l, .int 160, .int (-1)])), (q2l, .inl (k2, 160, .inr (.inl (fun _ => 0)))), (q3, .inr (0, [.ref q3l, .int 160, .int (-1)])), (q3l, .inl (k3, 160, .inr (.inl (fun _ => 0))))] := hD
  have hK : va_K (dC, dI) vwCl [(k1, .int), (k2, .long), (k3, .long)] s := hK
  refine W.widen (k := 5) (n := 726) (by decide) (by decide) ?_
  refine va_putF (D := (dC, dI)) (ci := 1) (v := .ref q3) (ty := (.object "DoubleText$Decimal")) (C := RX1) (T := TX1) (N := 10) hx hb hws inlX1 tyX1 tyX1_ok nmX1 hown hK hP hD hS 0 rfl rfl 7 (by decide) (hws _ ww_20) (fun _ h9 => h9) rfl hin rfl (by decide +kernel) rfl rfl (Nat.le_of_ble_eq_true rfl) dX1_init_32 (fun H locs hP hD hS => ?_)
  have hP : va_P (dC, dI) vwCl [(a_this, .inr (1, [.ref q1, .int 0, .int 0, .int 0, .int 0, .int 0, .ref q2, .ref q3, .null, .null])), (q1, .inl (k1, 400, .inl (fun _ => 0))), (q2, .inr (0, [.ref q2l, .int 160, .int (-1)])), (q2l, .inl (k2, 160, .inr (.inl (fun _ => 0)))), (q3, .inr (0, [.ref q3l, .int 160, .int (-1)])), (q3l, .inl (k3, 160, .inr (.inl (fun _ => 0))))] H := hP
  have hD : va_D A [(a_this, .inr (1, [.ref q1, .int 0, .int 0, .int 0, .int 0, .int 0, .ref q2, .ref q3, .null, .null])), (q1, .inl (k1, 400, .inl (fun _ => 0))), (q2, .inr (0, [.ref q2l, .int 160, .int (-1)])), (q2l, .inl (k2, 160, .inr (.inl (fun _ => 0)))), (q3, .inr (0, [.ref q3l, .int 160, .int (-1)])), (q3l, .inl (k3, 160, .inr (.inl (fun _ => 0))))] := hD
  refine lv_aload_n hx hb dX1_init_35 rfl (lv_at hl 0 rfl) ?_
  refine va_new (ci := 0) (fs := [.null, .int 0, .int 0]) (C := RX0) (T := TX0) (N := 3) hx hb hws inlX0 tyX0 tyX0_ok hown (hws _ ww_16) (hws _ ww_17) (hws _ ww_18) hK hP hD hS hA rfl (fun j hj => by rcases (show j = 0 ∨ j = 1 ∨ j = 2 by omega) with rfl | rfl | rfl <;> rfl) (Nat.le_of_ble_eq_true rfl) (Nat.le_of_ble_eq_true rfl) dX1_init_36 (fun q4 H hP hD hS => ?_)
  have hP : va_P (dC, dI) vwCl [(a_this, .inr (1, [.ref q1, .int 0, .int 0, .int 0, .int 0, .int 0, .ref q2, .ref q3, .null, .null])), (q1, .inl (k1, 400, .inl (fun _ => 0))), (q2, .inr (0, [.ref q2l, .int 160, .int (-1)])), (q2l, .inl (k2, 160, .inr (.inl (fun _ => 0)))), (q3, .inr (0, [.ref q3l, .int 160, .int (-1)])), (q3l, .inl (k3, 160, .inr (.inl (fun _ => 0)))), (q4, .inr (0, [.null, .int 0, .int 0]))] H := hP
  have hD : va_D A [(a_this, .inr (1, [.ref q1, .int 0, .int 0, .int 0, .int 0, .int 0, .ref q2, .ref q3, .null, .null])), (q1, .inl (k1, 400, .inl (fun _ => 0))), (q2, .inr (0, [.ref q2l, .int 160, .int (-1)])), (q2l, .inl (k2, 160, .inr (.inl (fun _ => 0)))), (q3, .inr (0, [.ref q3l, .int 160, .int (-1)])), (q3l, .inl (k3, 160, .inr (.inl (fun _ => 0)))), (q4, .inr (0, [.null, .int 0, .int 0]))] := hD
  refine W.widen (k := 6) (n := 729) (by decide) (by decide) ?_
  refine lv_dup hx hb dX1_init_39 rfl ?_
  have hPc := hP.sub (ws' := [(q4, .inr (0, [.null, .int 0, .int 0]))]) [6] rfl
  have hDc := hD.sub (ws' := [(q4, .inr (0, [.null, .int 0, .int 0]))]) [6] (by decide) rfl
  have hKc := hK.sub (tys' := []) [] rfl
  have hFc := va_free (wc := [(q4, .inr (0, [.null, .int 0, .int 0]))]) hD hS hA [6] rfl
  refine va_callv (va_runI (As := []) (rest := [.ref q4, .ref a_this]) ⟨hx, hb, hml, hown, hws⟩ (c_X0_init l dC dI q4 (Array.size H)) (cwI 0 hws (gI ww_25) rfl rfl rfl (hws _ ww_18) (hws _ ww_23) (hws _ ww_24) rfl (by decide +kernel) ⟨Nat.le_of_ble_eq_true rfl, Nat.le_of_ble_eq_true rfl⟩) ⟨fun a U g mk q => by obtain ⟨q0, q1, qP, qK, qD⟩ := q; exact ⟨q0, q1, qP, va_K.moved (u := U) (U := U.calling g mk a) (Vm.Alike.refl U.vm) qK, qD⟩, fun U hU hW => ⟨rfl, by rw [hU], by rw [hU]; exact hPc, va_K.moved hW.alike hKc, hDc.weaken (fun _ _ _ _ => trivial)⟩⟩ rfl rfl hl.1 rfl (lv_room (Nat.le_of_ble_eq_true rfl)) dX1_init_40 ⟨Nat.le_of_ble_eq_true rfl, Nat.le_of_ble_eq_true rfl⟩) hS (fun q _ h => hFc q h) hFc (fun u9 t H1 locs ht hvm hw hB hz1 hk1 hS => ?_)
  obtain ⟨q4l, k4, hP1, hK1, hD1⟩ := hB
  rw [ht] at hP1
  have hK1 := va_K.moved hvm.symm hK1
  obtain ⟨hP, hD⟩ := va_join (wr := [(a_this, .inr (1, [.ref q1, .int 0, .int 0, .int 0, .int 0, .int 0, .ref q2, .ref q3, .null, .null])), (q1, .inl (k1, 400, .inl (fun _ => 0))), (q2, .inr (0, [.ref q2l, .int 160, .int (-1)])), (q2l, .inl (k2, 160, .inr (.inl (fun _ => 0)))), (q3, .inr (0, [.ref q3l, .int 160, .int (-1)])), (q3l, .inl (k3, 160, .inr (.inl (fun _ => 0))))]) (w1 := [(q4, .inr (0, [.ref q4l, .int 160, .int (-1)])), (q4l, .inl (k4, 160, .inr (.inl (fun _ => 0))))]) hP hD [6] [0, 1, 2, 3, 4, 5] rfl rfl (by decide) (by decide) hk1 hFc hP1 hD1
  have hK := (hK.sub (tys' := [(k1, .int), (k2, .long), (k3, .long)]) [0, 1, 2] rfl).app hK1
  generalize H1 = H at hP hS ⊢
  have hP : va_P (dC, dI) vwCl [(a_this, .inr (1, [.ref q1, .int 0, .int 0, .int 0, .int 0, .int 0, .ref q2, .ref q3, .null, .null])), (q1, .inl (k1, 400, .inl (fun _ => 0))), (q2, .inr (0, [.ref q2l, .int 160, .int (-1)])), (q2l, .inl (k2, 160, .inr (.inl (fun _ => 0)))), (q3, .inr (0, [.ref q3l, .int 160, .int (-1)])), (q3l, .inl (k3, 160, .inr (.inl (fun _ => 0)))), (q4, .inr (0, [.ref q4l, .int 160, .int (-1)])), (q4l, .inl (k4, 160, .inr (.inl (fun _ => 0))))] H := hP
  have hD : va_D A [(a_this, .inr (1, [.ref q1, .int 0, .int 0, .int 0, .int 0, .int 0, .ref q2, .ref q3, .null, .null])), (q1, .inl (k1, 400, .inl (fun _ => 0))), (q2, .inr (0, [.ref q2l, .int 160, .int (-1)])), (q2l, .inl (k2, 160, .inr (.inl (fun _ => 0)))), (q3, .inr (0, [.ref q3l, .int 160, .int (-1)])), (q3l, .inl (k3, 160, .inr (.inl (fun _ => 0)))), (q4, .inr (0, [.ref q4l, .int 160, .int (-1)])), (q4l, .inl (k4, 160, .inr (.inl (fun _ => 0))))] := hD
  have hK : va_K (dC, dI) vwCl [(k1, .int), (k2, .long), (k3, .long), (k4, .long)] s := hK
  refine W.widen (k := 7) (n := 889) (by decide) (by decide) ?_
  refine va_putF (D := (dC, dI)) (ci := 1) (v := .ref q4) (ty := (.object "DoubleText$Decimal")) (C := RX1) (T := TX1) (N := 10) hx hb hws inlX1 tyX1 tyX1_ok nmX1 hown hK hP hD hS 0 rfl rfl 8 (by decide) (hws _ ww_21) (fun _ h9 => h9) rfl hin rfl (by decide +kernel) rfl rfl (Nat.le_of_ble_eq_true rfl) dX1_init_43 (fun H locs hP hD hS => ?_)
  have hP : va_P (dC, dI) vwCl [(a_this, .inr (1, [.ref q1, .int 0, .int 0, .int 0, .int 0, .int 0, .ref q2, .ref q3, .ref q4, .null])), (q1, .inl (k1, 400, .inl (fun _ => 0))), (q2, .inr (0, [.ref q2l, .int 160, .int (-1)])), (q2l, .inl (k2, 160, .inr (.inl (fun _ => 0)))), (q3, .inr (0, [.ref q3l, .int 160, .int (-1)])), (q3l, .inl (k3, 160, .inr (.inl (fun _ => 0)))), (q4, .inr (0, [.ref q4l, .int 160, .int (-1)])), (q4l, .inl (k4, 160, .inr (.inl (fun _ => 0))))] H := hP
  have hD : va_D A [(a_this, .inr (1, [.ref q1, .int 0, .int 0, .int 0, .int 0, .int 0, .ref q2, .ref q3, .ref q4, .null])), (q1, .inl (k1, 400, .inl (fun _ => 0))), (q2, .inr (0, [.ref q2l, .int 160, .int (-1)])), (q2l, .inl (k2, 160, .inr (.inl (fun _ => 0)))), (q3, .inr (0, [.ref q3l, .int 160, .int (-1)])), (q3l, .inl (k3, 160, .inr (.inl (fun _ => 0)))), (q4, .inr (0, [.ref q4l, .int 160, .int (-1)])), (q4l, .inl (k4, 160, .inr (.inl (fun _ => 0))))] := hD
  refine lv_aload_n hx hb dX1_init_46 rfl (lv_at hl 0 rfl) ?_
  refine va_new (ci := 0) (fs := [.null, .int 0, .int 0]) (C := RX0) (T := TX0) (N := 3) hx hb hws inlX0 tyX0 tyX0_ok hown (hws _ ww_16) (hws _ ww_17) (hws _ ww_18) hK hP hD hS hA rfl (fun j hj => by rcases (show j = 0 ∨ j = 1 ∨ j = 2 by omega) with rfl | rfl | rfl <;> rfl) (Nat.le_of_ble_eq_true rfl) (Nat.le_of_ble_eq_true rfl) dX1_init_47 (fun q5 H hP hD hS => ?_)
  have hP : va_P (dC, dI) vwCl [(a_this, .inr (1, [.ref q1, .int 0, .int 0, .int 0, .int 0, .int 0, .ref q2, .ref q3, .ref q4, .null])), (q1, .inl (k1, 400, .inl (fun _ => 0))), (q2, .inr (0, [.ref q2l, .int 160, .int (-1)])), (q2l, .inl (k2, 160, .inr (.inl (fun _ => 0)))), (q3, .inr (0, [.ref q3l, .int 160, .int (-1)])), (q3l, .inl (k3, 160, .inr (.inl (fun _ => 0)))), (q4, .inr (0, [.ref q4l, .int 160, .int (-1)])), (q4l, .inl (k4, 160, .inr (.inl (fun _ => 0)))), (q5, .inr (0, [.null, .int 0, .int 0]))] H := hP
  have hD : va_D A [(a_this, .inr (1, [.ref q1, .int 0, .int 0, .int 0, .int 0, .int 0, .ref q2, .ref q3, .ref q4, .null])), (q1, .inl (k1, 400, .inl (fun _ => 0))), (q2, .inr (0, [.ref q2l, .int 160, .int (-1)])), (q2l, .inl (k2, 160, .inr (.inl (fun _ => 0)))), (q3, .inr (0, [.ref q3l, .int 160, .int (-1)])), (q3l, .inl (k3, 160, .inr (.inl (fun _ => 0)))), (q4, .inr (0, [.ref q4l, .int 160, .int (-1)])), (q4l, .inl (k4, 160, .inr (.inl (fun _ => 0)))), (q5, .inr (0, [.null, .int 0, .int 0]))] := hD
  refine W.widen (k := 8) (n := 892) (by decide) (by decide) ?_
  refine lv_dup hx hb dX1_init_50 rfl ?_
  have hPc := hP.sub (ws' := [(q5, .inr (0, [.null, .int 0, .int 0]))]) [8] rfl
  have hDc := hD.sub (ws' := [(q5, .inr (0, [.null, .int 0, .int 0]))]) [8] (by decide) rfl
  have hKc := hK.sub (tys' := []) [] rfl
  have hFc := va_free (wc := [(q5, .inr (0, [.null, .int 0, .int 0]))]) hD hS hA [8] rfl
  refine va_callv (va_runI (As := []) (rest := [.ref q5, .ref a_this]) ⟨hx, hb, hml, hown, hws⟩ (c_X0_init l dC dI q5 (Array.size H)) (cwI 0 hws (gI ww_25) rfl rfl rfl (hws _ ww_18) (hws _ ww_23) (hws _ ww_24) rfl (by decide +kernel) ⟨Nat.le_of_ble_eq_true rfl, Nat.le_of_ble_eq_true rfl⟩) ⟨fun a U g mk q => by obtain ⟨q0, q1, qP, qK, qD⟩ := q; exact ⟨q0, q1, qP, va_K.moved (u := U) (U := U.calling g mk a) (Vm.Alike.refl U.vm) qK, qD⟩, fun U hU hW => ⟨rfl, by rw [hU], by rw [hU]; exact hPc, va_K.moved hW.alike hKc, hDc.weaken (fun _ _ _ _ => trivial)⟩⟩ rfl rfl hl.1 rfl (lv_room (Nat.le_of_ble_eq_true rfl)) dX1_init_51 ⟨Nat.le_of_ble_eq_true rfl, Nat.le_of_ble_eq_true rfl⟩) hS (fun q _ h => hFc q h) hFc (fun u9 t H1 locs ht hvm hw hB hz1 hk1 hS => ?_)
  obtain ⟨q5l, k5, hP1, hK1, hD1⟩ := hB
  rw [ht] at hP1
  have hK1 := va_K.moved hvm.symm hK1
  obtain ⟨hP, hD⟩ := va_join (wr := [(a_this, .inr (1, [.ref q1, .int 0, .int 0, .int 0, .int 0, .int 0, .ref q2, .ref q3, .ref q4, .null])), (q1, .inl (k1, 400, .inl (fun _ => 0))), (q2, .inr (0, [.ref q2l, .int 160, .int (-1)])), (q2l, .inl (k2, 160, .inr (.inl (fun _ => 0)))), (q3, .inr (0, [.ref q3l, .int 160, .int (-1)])), (q3l, .inl (k3, 160, .inr (.inl (fun _ => 0)))), (q4, .inr (0, [.ref q4l, .int 160, .int (-1)])), (q4l, .inl (k4, 160, .inr (.inl (fun _ => 0))))]) (w1 := [(q5, .inr (0, [.ref q5l, .int 160, .int (-1)])), (q5l, .inl (k5, 160, .inr (.inl (fun _ => 0))))]) hP hD [8] [0, 1, 2, 3, 4, 5, 6, 7] rfl rfl (by decide) (by decide) hk1 hFc hP1 hD1
  have hK := (hK.sub (tys' := [(k1, .int), (k2, .long), (k3, .long), (k4, .long)]) [0, 1, 2, 3] rfl).app hK1
  generalize H1 = H at hP hS ⊢
  have hP : va_P (dC, dI) vwCl [(a_this, .inr (1, [.ref q1, .int 0, .int 0, .int 0, .int 0, .int 0, .ref q2, .ref q3, .ref q4, .null])), (q1, .inl (k1, 400, .inl (fun _ => 0))), (q2, .inr (0, [.ref q2l, .int 160, .int (-1)])), (q2l, .inl (k2, 160, .inr (.inl (fun _ => 0)))), (q3, .inr (0, [.ref q3l, .int 160, .int (-1)])), (q3l, .inl (k3, 160, .inr (.inl (fun _ => 0)))), (q4, .inr (0, [.ref q4l, .int 160, .int (-1)])), (q4l, .inl (k4, 160, .inr (.inl (fun _ => 0)))), (q5, .inr (0, [.ref q5l, .int 160, .int (-1)])), (q5l, .inl (k5, 160, .inr (.inl (fun _ => 0))))] H := hP
  have hD : va_D A [(a_this, .inr (1, [.ref q1, .int 0, .int 0, .int 0, .int 0, .int 0, .ref q2, .ref q3, .ref q4, .null])), (q1, .inl (k1, 400, .inl (fun _ => 0))), (q2, .inr (0, [.ref q2l, .int 160, .int (-1)])), (q2l, .inl (k2, 160, .inr (.inl (fun _ => 0)))), (q3, .inr (0, [.ref q3l, .int 160, .int (-1)])), (q3l, .inl (k3, 160, .inr (.inl (fun _ => 0)))), (q4, .inr (0, [.ref q4l, .int 160, .int (-1)])), (q4l, .inl (k4, 160, .inr (.inl (fun _ => 0)))), (q5, .inr (0, [.ref q5l, .int 160, .int (-1)])), (q5l, .inl (k5, 160, .inr (.inl (fun _ => 0))))] := hD
  have hK : va_K (dC, dI) vwCl [(k1, .int), (k2, .long), (k3, .long), (k4, .long), (k5, .long)] s := hK
  refine W.widen (k := 9) (n := 1052) (by decide) (by decide) ?_
  refine va_putF (D := (dC, dI)) (ci := 1) (v := .ref q5) (ty := (.object "DoubleText$Decimal")) (C := RX1) (T := TX1) (N := 10) hx hb hws inlX1 tyX1 tyX1_ok nmX1 hown hK hP hD hS 0 rfl rfl 9 (by decide) (hws _ ww_22) (fun _ h9 => h9) rfl hin rfl (by decide +kernel) rfl rfl (Nat.le_of_ble_eq_true rfl) dX1_init_54 (fun H locs hP hD hS => ?_)
  have hP : va_P (dC, dI) vwCl [(a_this, .inr (1, [.ref q1, .int 0, .int 0, .int 0, .int 0, .int 0, .ref q2, .ref q3, .ref q4, .ref q5])), (q1, .inl (k1, 400, .inl (fun _ => 0))), (q2, .inr (0, [.ref q2l, .int 160, .int (-1)])), (q2l, .inl (k2, 160, .inr (.inl (fun _ => 0)))), (q3, .inr (0, [.ref q3l, .int 160, .int (-1)])), (q3l, .inl (k3, 160, .inr (.inl (fun _ => 0)))), (q4, .inr (0, [.ref q4l, .int 160, .int (-1)])), (q4l, .inl (k4, 160, .inr (.inl (fun _ => 0)))), (q5, .inr (0, [.ref q5l, .int 160, .int (-1)])), (q5l, .inl (k5, 160, .inr (.inl (fun _ => 0))))] H := hP
  have hD : va_D A [(a_this, .inr (1, [.ref q1, .int 0, .int 0, .int 0, .int 0, .int 0, .ref q2, .ref q3, .ref q4, .ref q5])), (q1, .inl (k1, 400, .inl (fun _ => 0))), (q2, .inr (0, [.ref q2l, .int 160, .int (-1)])), (q2l, .inl (k2, 160, .inr (.inl (fun _ => 0)))), (q3, .inr (0, [.ref q3l, .int 160, .int (-1)])), (q3l, .inl (k3, 160, .inr (.inl (fun _ => 0)))), (q4, .inr (0, [.ref q4l, .int 160, .int (-1)])), (q4l, .inl (k4, 160, .inr (.inl (fun _ => 0)))), (q5, .inr (0, [.ref q5l, .int 160, .int (-1)])), (q5l, .inl (k5, 160, .inr (.inl (fun _ => 0))))] := hD
  exact W.vret hx hb hr (fun t ht hW => ⟨⟨(), rfl, trivial, q1, q2, q2l, q3, q3l, q4, q4l, q5, q5l, k1, k2, k3, k4, k5, by rw [ht]; exact hP, va_K.moved hW.alike hK, hD⟩, hS.F ht⟩) hS.2.2 dX1_init_57
abbrev w_X2_init : List Cond := Cond.code yX2_init cX2_init 1 none :: wsL_law
set_option maxHeartbeats 4000000 in
set_option maxRecDepth 100000 in
theorem c_X2_init (l : Launch) (dC : Nat → ClassId) (dI : Nat → Nat → Nat) (a_this : Nat) (sz : Nat) : Met l yX2_init w_X2_init ({ frames := 1, cells := 5, slots := 21560, locals := 20 } : Room) (va_Pc [.ref a_this] (fun U => U.heap.size = sz ∧ va_P (dC, dI) vwCl [(a_this, .inr (2, [.int 0, .null, .int 0, .null, .null, .null, .null, .int 0, .int 0]))] U.heap ∧ va_K (dC, dI) vwCl [] U ∧ va_D (fun _ => True) [(a_this, .inr (2, [.int 0, .null, .int 0, .null, .null, .null, .null, .int 0, .int 0]))])) (va_Qv (fun (_ : Unit) => True) (fun _ t => ∃ (q1 q2 q3 q4 q5 : Nat) (k1 k2 k3 k4 k5 : ClassId), va_P (dC, dI) vwCl [(a_this, .inr (2, [.int 0, .ref q1, .int 0, .ref q2, .ref q3, .ref q4, .ref q5, .int 0, .int 0])), (q1, .inl (k1, 400, .inl (fun _ => 0))), (q2, .inl (k2, 7000, .inl (fun _ => 0))), (q3, .inl (k3, 7000, .inl (fun _ => 0))), (q4, .inl (k4, 7000, .inl (fun _ => 0))), (q5, .inl (k5, 160, .inr (.inl (fun _ => 0))))] t.heap ∧ va_K (dC, dI) vwCl [(k1, .int), (k2, .int), (k3, .int), (k4, .int), (k5, .long)] t ∧ va_D (va_A [(a_this, .inr (2, [.int 0, .null, .int 0, .null, .null, .null, .null, .int 0, .int 0]))] sz) [(a_this, .inr (2, [.int 0, .ref q1, .int 0, .ref q2, .ref q3, .ref q4, .ref q5, .int 0, .int 0])), (q1, .inl (k1, 400, .inl (fun _ => 0))), (q2, .inl (k2, 7000, .inl (fun _ => 0))), (q3, .inl (k3, 7000, .inl (fun _ => 0))), (q4, .inl (k4, 7000, .inl (fun _ => 0))), (q5, .inl (k5, 160, .inr (.inl (fun _ => 0))))]) (va_A [(a_this, .inr (2, [.int 0, .null, .int 0, .null, .null, .null, .null, .int 0, .int 0]))] sz)) 5 21560 (va_A [(a_this, .inr (2, [.int 0, .null, .int 0, .null, .null, .null, .null, .int 0, .int 0]))] sz) := by
  refine Met.ofW (cc := cX2_init) (maxL := 1) (ret := none) (by decide) rfl ?_
  intro p e s m args below meth c s₁ B hml hv
  obtain ⟨rfl, hsz, hP, hK, hD0⟩ := hv
  have hx := B.exec
  have hb := B.bytes
  have hr := B.returns
  have hws : ∀ w ∈ wsL_law, w.before _ s = true := fun w hw => atoms_spec (ws := w_X2_init) B.pre w (List.mem_cons_of_mem _ hw)
  have hown : s.vm.findClass RX2 = some m.cls := findClass_of_methodNamed B.named
  have hlocks := B.notSynchronized
  have hin : meth.name = "<init>" := (name_of_methodNamed B.named B.method).1
  subst hsz
  have hD := hD0.self (sz := s.heap.size)
  generalize hAe : va_A [(a_this, .inr (2, [.int 0, .null, .int 0, .null, .null, .null, .null, .int 0, .int 0]))] s.heap.size = A at hD ⊢
  have hA : ∀ q : Nat, s.heap.size ≤ q → A q := fun q h => by rw [← hAe]; exact Or.inr h
  have hS : va_S A s.heap s.heap [] := va_S.rf
  have hl := lv_entry ([.ref a_this]) (n := 1) (Nat.le_of_ble_eq_true rfl)
  rw [lg_entry_eq]
  generalize (lg_sl ([.ref a_this]) ++ List.replicate (1 - (lg_sl ([.ref a_this])).length) Slot.unset).toArray = ls at hl ⊢
  have hl : lv_has ls 1 [(0, .ref a_this)] := hl
  refine lv_aload_n hx hb dX2_init_0 rfl (lv_at hl 0 rfl) ?_
  refine W.objInit hx hb hown (hws _ ww_33) (hws _ ww_12) (hws _ ww_13) rfl (by rw [hml]; exact hl.1) rfl dX2_init_1 (Nat.le_of_ble_eq_true rfl) (Nat.le_of_ble_eq_true rfl) ?_
  refine W.eq (g2 := F0 m 4 ls []) rfl ?_
  refine lv_aload_n hx hb dX2_init_4 rfl (lv_at hl 0 rfl) ?_
  refine lv_sipush (v := 400) hx hb dX2_init_5 (by decide) ?_
  refine va_newa (atype := .int) (ty := .int) (n := 400) (a0 := (400, .inl (fun _ => 0))) (N' := 400) hx hb (hws _ ww_14) rfl hK hP hD hS hA (fun _ => rfl) (by decide) (by decide) (by decide) (Nat.le_of_ble_eq_true rfl) (Nat.le_of_ble_eq_true rfl) dX2_init_8 (fun q1 k1 H hK hP hD hS => ?_)
  have hP : va_P (dC, dI) vwCl [(a_this, .inr (2, [.int 0, .null, .int 0, .null, .null, .null, .null, .int 0, .int 0])), (q1, .inl (k1, 400, .inl (fun _ => 0)))] H := hP
  have hD : va_D A [(a_this, .inr (2, [.int 0, .null, .int 0, .null, .null, .null, .null, .int 0, .int 0])), (q1, .inl (k1, 400, .inl (fun _ => 0)))] := hD
  have hK : va_K (dC, dI) vwCl [(k1, .int)] s := hK
  refine W.widen (k := 1) (n := 400) (by decide) (by decide) ?_
  refine va_putF (D := (dC, dI)) (ci := 2) (v := .ref q1) (ty := (.array .int)) (C := RX2) (T := TX2) (N := 9) hx hb hws inlX2 tyX2 tyX2_ok nmX2 hown hK hP hD hS 0 rfl rfl 1 (by decide) (hws _ ww_34) (fun _ h9 => h9) rfl hin rfl (by decide +kernel) rfl rfl (Nat.le_of_ble_eq_true rfl) dX2_init_10 (fun H locs hP hD hS => ?_)
  have hP : va_P (dC, dI) vwCl [(a_this, .inr (2, [.int 0, .ref q1, .int 0, .null, .null, .null, .null, .int 0, .int 0])), (q1, .inl (k1, 400, .inl (fun _ => 0)))] H := hP
  have hD : va_D A [(a_this, .inr (2, [.int 0, .ref q1, .int 0, .null, .null, .null, .null, .int 0, .int 0])), (q1, .inl (k1, 400, .inl (fun _ => 0)))] := hD
  refine lv_aload_n hx hb dX2_init_13 rfl (lv_at hl 0 rfl) ?_
  refine lv_sipush (v := 7000) hx hb dX2_init_14 (by decide) ?_
  refine va_newa (atype := .int) (ty := .int) (n := 7000) (a0 := (7000, .inl (fun _ => 0))) (N' := 7000) hx hb (hws _ ww_14) rfl hK hP hD hS hA (fun _ => rfl) (by decide) (by decide) (by decide) (Nat.le_of_ble_eq_true rfl) (Nat.le_of_ble_eq_true rfl) dX2_init_17 (fun q2 k2 H hK hP hD hS => ?_)
  have hP : va_P (dC, dI) vwCl [(a_this, .inr (2, [.int 0, .ref q1, .int 0, .null, .null, .null, .null, .int 0, .int 0])), (q1, .inl (k1, 400, .inl (fun _ => 0))), (q2, .inl (k2, 7000, .inl (fun _ => 0)))] H := hP
  have hD : va_D A [(a_this, .inr (2, [.int 0, .ref q1, .int 0, .null, .null, .null, .null, .int 0, .int 0])), (q1, .inl (k1, 400, .inl (fun _ => 0))), (q2, .inl (k2, 7000, .inl (fun _ => 0)))] := hD
  have hK : va_K (dC, dI) vwCl [(k1, .int), (k2, .int)] s := hK
  refine W.widen (k := 2) (n := 7400) (by decide) (by decide) ?_
  refine va_putF (D := (dC, dI)) (ci := 2) (v := .ref q2) (ty := (.array .int)) (C := RX2) (T := TX2) (N := 9) hx hb hws inlX2 tyX2 tyX2_ok nmX2 hown hK hP hD hS 0 rfl rfl 3 (by decide) (hws _ ww_35) (fun _ h9 => h9) rfl hin rfl (by decide +kernel) rfl rfl (Nat.le_of_ble_eq_true rfl) dX2_init_19 (fun H locs hP hD hS => ?_)
  have hP : va_P (dC, dI) vwCl [(a_this, .inr (2, [.int 0, .ref q1, .int 0, .ref q2, .null, .null, .null, .int 0, .int 0])), (q1, .inl (k1, 400, .inl (fun _ => 0))), (q2, .inl (k2, 7000, .inl (fun _ => 0)))] H := hP
  have hD : va_D A [(a_this, .inr (2, [.int 0, .ref q1, .int 0, .ref q2, .null, .null, .null, .int 0, .int 0])), (q1, .inl (k1, 400, .inl (fun _ => 0))), (q2, .inl (k2, 7000, .inl (fun _ => 0)))] := hD
  refine lv_aload_n hx hb dX2_init_22 rfl (lv_at hl 0 rfl) ?_
  refine lv_sipush (v := 7000) hx hb dX2_init_23 (by decide) ?_
  refine va_newa (atype := .int) (ty := .int) (n := 7000) (a0 := (7000, .inl (fun _ => 0))) (N' := 7000) hx hb (hws _ ww_14) rfl hK hP hD hS hA (fun _ => rfl) (by decide) (by decide) (by decide) (Nat.le_of_ble_eq_true rfl) (Nat.le_of_ble_eq_true rfl) dX2_init_26 (fun q3 k3 H hK hP hD hS => ?_)
  have hP : va_P (dC, dI) vwCl [(a_this, .inr (2, [.int 0, .ref q1, .int 0, .ref q2, .null, .null, .null, .int 0, .int 0])), (q1, .inl (k1, 400, .inl (fun _ => 0))), (q2, .inl (k2, 7000, .inl (fun _ => 0))), (q3, .inl (k3, 7000, .inl (fun _ => 0)))] H := hP
  have hD : va_D A [(a_this, .inr (2, [.int 0, .ref q1, .int 0, .ref q2, .null, .null, .null, .int 0, .int 0])), (q1, .inl (k1, 400, .inl (fun _ => 0))), (q2, .inl (k2, 7000, .inl (fun _ => 0))), (q3, .inl (k3, 7000, .inl (fun _ => 0)))] := hD
  have hK : va_K (dC, dI) vwCl [(k1, .int), (k2, .int), (k3, .int)] s := hK
  refine W.widen (k := 3) (n := 14400) (by decide) (by decide) ?_
  refine va_putF (D := (dC, dI)) (ci := 2) (v := .ref q3) (ty := (.array .int)) (C := RX2) (T := TX2) (N := 9) hx hb hws inlX2 tyX2 tyX2_ok nmX2 hown hK hP hD hS 0 rfl rfl 4 (by decide) (hws _ ww_36) (fun _ h9 => h9) rfl hin rfl (by decide +kernel) rfl rfl (Nat.le_of_ble_eq_true rfl) dX2_init_28 (fun H locs hP hD hS => ?_)
  have hP : va_P (dC, dI) vwCl [(a_this, .inr (2, [.int 0, .ref q1, .int 0, .ref q2, .ref q3, .null, .null, .int 0, .int 0])), (q1, .inl (k1, 400, .inl (fun _ => 0))), (q2, .inl (k2, 7000, .inl (fun _ => 0))), (q3, .inl (k3, 7000, .inl (fun _ => 0)))] H := hP
  have hD : va_D A [(a_this, .inr (2, [.int 0, .ref q1, .int 0, .ref q2, .ref q3, .null, .null, .int 0, .int 0])), (q1, .inl (k1, 400, .inl (fun _ => 0))), (q2, .inl (k2, 7000, .inl (fun _ => 0))), (q3, .inl (k3, 7000, .inl (fun _ => 0)))] := hD
  refine lv_aload_n hx hb dX2_init_31 rfl (lv_at hl 0 rfl) ?_
  refine lv_sipush (v := 7000) hx hb dX2_init_32 (by decide) ?_
  refine va_newa (atype := .int) (ty := .int) (n := 7000) (a0 := (7000, .inl (fun _ => 0))) (N' := 7000) hx hb (hws _ ww_14) rfl hK hP hD hS hA (fun _ => rfl) (by decide) (by decide) (by decide) (Nat.le_of_ble_eq_true rfl) (Nat.le_of_ble_eq_true rfl) dX2_init_35 (fun q4 k4 H hK hP hD hS => ?_)
  have hP : va_P (dC, dI) vwCl [(a_this, .inr (2, [.int 0, .ref q1, .int 0, .ref q2, .ref q3, .null, .null, .int 0, .int 0])), (q1, .inl (k1, 400, .inl (fun _ => 0))), (q2, .inl (k2, 7000, .inl (fun _ => 0))), (q3, .inl (k3, 7000, .inl (fun _ => 0))), (q4, .inl (k4, 7000, .inl (fun _ => 0)))] H := hP
  have hD : va_D A [(a_this, .inr (2, [.int 0, .ref q1, .int 0, .ref q2, .ref q3, .null, .null, .int 0, .int 0])), (q1, .inl (k1, 400, .inl (fun _ => 0))), (q2, .inl (k2, 7000, .inl (fun _ => 0))), (q3, .inl (k3, 7000, .inl (fun _ => 0))), (q4, .inl (k4, 7000, .inl (fun _ => 0)))] := hD
  have hK : va_K (dC, dI) vwCl [(k1, .int), (k2, .int), (k3, .int), (k4, .int)] s := hK
  refine W.widen (k := 4) (n := 21400) (by decide) (by decide) ?_
  refine va_putF (D := (dC, dI)) (ci := 2) (v := .ref q4) (ty := (.array .int)) (C := RX2) (T := TX2) (N := 9) hx hb hws inlX2 tyX2 tyX2_ok nmX2 hown hK hP hD hS 0 rfl rfl 5 (by decide) (hws _ ww_37) (fun _ h9 => h9) rfl hin rfl (by decide +kernel) rfl rfl (Nat.le_of_ble_eq_true rfl) dX2_init_37 (fun H locs hP hD hS => ?_)
  have hP : va_P (dC, dI) vwCl [(a_this, .inr (2, [.int 0, .ref q1, .int 0, .ref q2, .ref q3, .ref q4, .null, .int 0, .int 0])), (q1, .inl (k1, 400, .inl (fun _ => 0))), (q2, .inl (k2, 7000, .inl (fun _ => 0))), (q3, .inl (k3, 7000, .inl (fun _ => 0))), (q4, .inl (k4, 7000, .inl (fun _ => 0)))] H := hP
  have hD : va_D A [(a_this, .inr (2, [.int 0, .ref q1, .int 0, .ref q2, .ref q3, .ref q4, .null, .int 0, .int 0])), (q1, .inl (k1, 400, .inl (fun _ => 0))), (q2, .inl (k2, 7000, .inl (fun _ => 0))), (q3, .inl (k3, 7000, .inl (fun _ => 0))), (q4, .inl (k4, 7000, .inl (fun _ => 0)))] := hD
  refine lv_aload_n hx hb dX2_init_40 rfl (lv_at hl 0 rfl) ?_
  refine lv_sipush (v := 160) hx hb dX2_init_41 (by decide) ?_
  refine va_newa (atype := .long) (ty := .long) (n := 160) (a0 := (160, .inr (.inl (fun _ => 0)))) (N' := 160) hx hb (hws _ ww_6) rfl hK hP hD hS hA (fun _ => rfl) (by decide) (by decide) (by decide) (Nat.le_of_ble_eq_true rfl) (Nat.le_of_ble_eq_true rfl) dX2_init_44 (fun q5 k5 H hK hP hD hS => ?_)
  have hP : va_P (dC, dI) vwCl [(a_this, .inr (2, [.int 0, .ref q1, .int 0, .ref q2, .ref q3, .ref q4, .null, .int 0, .int 0])), (q1, .inl (k1, 400, .inl (fun _ => 0))), (q2, .inl (k2, 7000, .inl (fun _ => 0))), (q3, .inl (k3, 7000, .inl (fun _ => 0))), (q4, .inl (k4, 7000, .inl (fun _ => 0))), (q5, .inl (k5, 160, .inr (.inl (fun _ => 0))))] H := hP
  have hD : va_D A [(a_this, .inr (2, [.int 0, .ref q1, .int 0, .ref q2, .ref q3, .ref q4, .null, .int 0, .int 0])), (q1, .inl (k1, 400, .inl (fun _ => 0))), (q2, .inl (k2, 7000, .inl (fun _ => 0))), (q3, .inl (k3, 7000, .inl (fun _ => 0))), (q4, .inl (k4, 7000, .inl (fun _ => 0))), (q5, .inl (k5, 160, .inr (.inl (fun _ => 0))))] := hD
  have hK : va_K (dC, dI) vwCl [(k1, .int), (k2, .int), (k3, .int), (k4, .int), (k5, .long)] s := hK
  refine W.widen (k := 5) (n := 21560) (by decide) (by decide) ?_
  refine va_putF (D := (dC, dI)) (ci := 2) (v := .ref q5) (ty := (.array .long)) (C := RX2) (T := TX2) (N := 9) hx hb hws inlX2 tyX2 tyX2_ok nmX2 hown hK hP hD hS 0 rfl rfl 6 (by decide) (hws _ ww_38) (fun _ h9 => h9) rfl hin rfl (by decide +kernel) rfl rfl (Nat.le_of_ble_eq_true rfl) dX2_init_46 (fun H locs hP hD hS => ?_)
  have hP : va_P (dC, dI) vwCl [(a_this, .inr (2, [.int 0, .ref q1, .int 0, .ref q2, .ref q3, .ref q4, .ref q5, .int 0, .int 0])), (q1, .inl (k1, 400, .inl (fun _ => 0))), (q2, .inl (k2, 7000, .inl (fun _ => 0))), (q3, .inl (k3, 7000, .inl (fun _ => 0))), (q4, .inl (k4, 7000, .inl (fun _ => 0))), (q5, .inl (k5, 160, .inr (.inl (fun _ => 0))))] H := hP
  have hD : va_D A [(a_this, .inr (2, [.int 0, .ref q1, .int 0, .ref q2, .ref q3, .ref q4, .ref q5, .int 0, .int 0])), (q1, .inl (k1, 400, .inl (fun _ => 0))), (q2, .inl (k2, 7000, .inl (fun _ => 0))), (q3, .inl (k3, 7000, .inl (fun _ => 0))), (q4, .inl (k4, 7000, .inl (fun _ => 0))), (q5, .inl (k5, 160, .inr (.inl (fun _ => 0))))] := hD
  exact W.vret hx hb hr (fun t ht hW => ⟨⟨(), rfl, trivial, q1, q2, q3, q4, q5, k1, k2, k3, k4, k5, by rw [ht]; exact hP, va_K.moved hW.alike hK, hD⟩, hS.F ht⟩) hS.2.2 dX2_init_49
