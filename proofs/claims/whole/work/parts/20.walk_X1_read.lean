set_option maxHeartbeats 4000000 in
set_option maxRecDepth 100000 in
theorem c_X1_read (l : Launch) (hst : l.stackTraces = false) (dC : Nat → ClassId) (dI : Nat → Nat → Nat) (a_TENS : Nat) (a_this a_text a_number a_number_limbs a_rounded a_rounded_limbs a_lowEdge a_highEdge : Nat) (c_text c_number_limbs c_rounded_limbs : ClassId) (sz : Nat)  (v_length : Int32) (v_digitsStart : Int32) (v_digitsEnd : Int32) (v_unitsAt : Int32) (v_tenPower : Int32) (v_text : Nat → Int32) (v_number_first : Int32) (v_number_last : Int32) (v_number_limbs : Nat → Int64) (v_rounded_first : Int32) (v_rounded_last : Int32) (v_rounded_limbs : Nat → Int64) (out : ((Int64) × ((Int32) × (Int32) × (Int32) × (Int32) × (Int32) × (Int32) × (Nat → Int64) × (Int32) × (Int32) × (Nat → Int64))) ⊕ (Nat × ((Int32) × (Int32) × (Int32) × (Int32) × (Int32) × (Int32) × (Nat → Int64) × (Int32) × (Int32) × (Nat → Int64)))) (h : f_X1_read v_length v_digitsStart v_digitsEnd v_unitsAt v_tenPower v_text v_number_first v_number_last v_number_limbs v_rounded_first v_rounded_last v_rounded_limbs = some out) : vx_Met l yX1_read w_X1_read ({ frames := 6, cells := 1, slots := 6, locals := 144 } : Room) (va_Pc [.ref a_this] (fun U => U.heap.size = sz ∧ va_P (dC, dI) vwCl (wd_X1_read a_this a_text a_number a_number_limbs a_rounded a_rounded_limbs a_lowEdge a_highEdge c_text c_number_limbs c_rounded_limbs v_length v_digitsStart v_digitsEnd v_unitsAt v_tenPower v_text v_number_first v_number_last v_number_limbs v_rounded_first v_rounded_last v_rounded_limbs) U.heap ∧ va_K (dC, dI) vwCl [(c_text, .int), (c_number_limbs, .long), (c_rounded_limbs, .long)] U ∧ va_D (fun _ => True) (wd_X1_read a_this a_text a_number a_number_limbs a_rounded a_rounded_limbs a_lowEdge a_highEdge c_text c_number_limbs c_rounded_limbs v_length v_digitsStart v_digitsEnd v_unitsAt v_tenPower v_text v_number_first v_number_last v_number_limbs v_rounded_first v_rounded_last v_rounded_limbs) ∧ EX (va_A (wd_X1_read a_this a_text a_number a_number_limbs a_rounded a_rounded_limbs a_lowEdge a_highEdge c_text c_number_limbs c_rounded_limbs v_length v_digitsStart v_digitsEnd v_unitsAt v_tenPower v_text v_number_first v_number_last v_number_limbs v_rounded_first v_rounded_last v_rounded_limbs) sz) U U.heap ∧ va_Z "DoubleText$Decimal" "TENS" "[J" (.ref a_TENS) (va_A (wd_X1_read a_this a_text a_number a_number_limbs a_rounded a_rounded_limbs a_lowEdge a_highEdge c_text c_number_limbs c_rounded_limbs v_length v_digitsStart v_digitsEnd v_unitsAt v_tenPower v_text v_number_first v_number_last v_number_limbs v_rounded_first v_rounded_last v_rounded_limbs) sz) U U.heap ∧ va_T .long a_TENS 9 TENS_v (va_A (wd_X1_read a_this a_text a_number a_number_limbs a_rounded a_rounded_limbs a_lowEdge a_highEdge c_text c_number_limbs c_rounded_limbs v_length v_digitsStart v_digitsEnd v_unitsAt v_tenPower v_text v_number_first v_number_last v_number_limbs v_rounded_first v_rounded_last v_rounded_limbs) sz) U U.heap)) (va_Ql (fun r9 (u9 : (Int32) × (Int32) × (Int32) × (Int32) × (Int32) × (Int32) × (Nat → Int64) × (Int32) × (Int32) × (Nat → Int64)) => out = .inl (r9, u9)) (fun u9 t => va_P (dC, dI) vwCl (wd_X1_read a_this a_text a_number a_number_limbs a_rounded a_rounded_limbs a_lowEdge a_highEdge c_text c_number_limbs c_rounded_limbs v_length u9.1 u9.2.1 u9.2.2.1 u9.2.2.2.1 v_text u9.2.2.2.2.1 u9.2.2.2.2.2.1 u9.2.2.2.2.2.2.1 u9.2.2.2.2.2.2.2.1 u9.2.2.2.2.2.2.2.2.1 u9.2.2.2.2.2.2.2.2.2) t.heap ∧ va_K (dC, dI) vwCl [(c_text, .int), (c_number_limbs, .long), (c_rounded_limbs, .long)] t ∧ va_D (va_A (wd_X1_read a_this a_text a_number a_number_limbs a_rounded a_rounded_limbs a_lowEdge a_highEdge c_text c_number_limbs c_rounded_limbs v_length v_digitsStart v_digitsEnd v_unitsAt v_tenPower v_text v_number_first v_number_last v_number_limbs v_rounded_first v_rounded_last v_rounded_limbs) sz) (wd_X1_read a_this a_text a_number a_number_limbs a_rounded a_rounded_limbs a_lowEdge a_highEdge c_text c_number_limbs c_rounded_limbs v_length u9.1 u9.2.1 u9.2.2.1 u9.2.2.2.1 v_text u9.2.2.2.2.1 u9.2.2.2.2.2.1 u9.2.2.2.2.2.2.1 u9.2.2.2.2.2.2.2.1 u9.2.2.2.2.2.2.2.2.1 u9.2.2.2.2.2.2.2.2.2)) (va_A (wd_X1_read a_this a_text a_number a_number_limbs a_rounded a_rounded_limbs a_lowEdge a_highEdge c_text c_number_limbs c_rounded_limbs v_length v_digitsStart v_digitsEnd v_unitsAt v_tenPower v_text v_number_first v_number_last v_number_limbs v_rounded_first v_rounded_last v_rounded_limbs) sz)) (vx_X (fun (u9 : Nat × ((Int32) × (Int32) × (Int32) × (Int32) × (Int32) × (Int32) × (Nat → Int64) × (Int32) × (Int32) × (Nat → Int64))) => out = .inr u9) (fun E u9 t => E = exn u9.1 ∧ va_P (dC, dI) vwCl (wd_X1_read a_this a_text a_number a_number_limbs a_rounded a_rounded_limbs a_lowEdge a_highEdge c_text c_number_limbs c_rounded_limbs v_length u9.2.1 u9.2.2.1 u9.2.2.2.1 u9.2.2.2.2.1 v_text u9.2.2.2.2.2.1 u9.2.2.2.2.2.2.1 u9.2.2.2.2.2.2.2.1 u9.2.2.2.2.2.2.2.2.1 u9.2.2.2.2.2.2.2.2.2.1 u9.2.2.2.2.2.2.2.2.2.2) t.heap ∧ va_K (dC, dI) vwCl [(c_text, .int), (c_number_limbs, .long), (c_rounded_limbs, .long)] t ∧ va_D (va_A (wd_X1_read a_this a_text a_number a_number_limbs a_rounded a_rounded_limbs a_lowEdge a_highEdge c_text c_number_limbs c_rounded_limbs v_length v_digitsStart v_digitsEnd v_unitsAt v_tenPower v_text v_number_first v_number_last v_number_limbs v_rounded_first v_rounded_last v_rounded_limbs) sz) (wd_X1_read a_this a_text a_number a_number_limbs a_rounded a_rounded_limbs a_lowEdge a_highEdge c_text c_number_limbs c_rounded_limbs v_length u9.2.1 u9.2.2.1 u9.2.2.2.1 u9.2.2.2.2.1 v_text u9.2.2.2.2.2.1 u9.2.2.2.2.2.2.1 u9.2.2.2.2.2.2.2.1 u9.2.2.2.2.2.2.2.2.1 u9.2.2.2.2.2.2.2.2.2.1 u9.2.2.2.2.2.2.2.2.2.2)) (va_A (wd_X1_read a_this a_text a_number a_number_limbs a_rounded a_rounded_limbs a_lowEdge a_highEdge c_text c_number_limbs c_rounded_limbs v_length v_digitsStart v_digitsEnd v_unitsAt v_tenPower v_text v_number_first v_number_last v_number_limbs v_rounded_first v_rounded_last v_rounded_limbs) sz)) 1 6 (va_A (wd_X1_read a_this a_text a_number a_number_limbs a_rounded a_rounded_limbs a_lowEdge a_highEdge c_text c_number_limbs c_rounded_limbs v_length v_digitsStart v_digitsEnd v_unitsAt v_tenPower v_text v_number_first v_number_last v_number_limbs v_rounded_first v_rounded_last v_rounded_limbs) sz) := by
  refine vx_ofW (cc := cX1_read) (maxL := 3) (ret := (some .long)) (by decide) rfl ?_
  intro p e s m args below meth c s₁ B hml htab hv
  obtain ⟨rfl, hsz, hP, hK, hD0, hEX, hZ_TENS, hT_TENS⟩ := hv
  have hx := B.exec
  have hb := B.bytes
  have hr := B.returns
  have hws : ∀ w ∈ wsL_law, w.before _ s = true := fun w hw => atoms_spec (ws := w_X1_read) B.pre w (List.mem_cons_of_mem _ hw)
  have hown : s.vm.findClass RX1 = some m.cls := findClass_of_methodNamed B.named
  have hlocks := B.notSynchronized
  subst hsz
  have hD := hD0.self (sz := s.heap.size)
  generalize hAe : va_A (wd_X1_read a_this a_text a_number a_number_limbs a_rounded a_rounded_limbs a_lowEdge a_highEdge c_text c_number_limbs c_rounded_limbs v_length v_digitsStart v_digitsEnd v_unitsAt v_tenPower v_text v_number_first v_number_last v_number_limbs v_rounded_first v_rounded_last v_rounded_limbs) s.heap.size = A at hD hEX hZ_TENS hT_TENS ⊢
  have hA : ∀ q : Nat, s.heap.size ≤ q → A q := fun q h => by rw [← hAe]; exact Or.inr h
  have hS : va_S A s.heap s.heap [] := va_S.rf
  have hl := lv_entry ([.ref a_this]) (n := 3) (Nat.le_of_ble_eq_true rfl)
  rw [lg_entry_eq]
  generalize (lg_sl ([.ref a_this]) ++ List.replicate (3 - (lg_sl ([.ref a_this])).length) Slot.unset).toArray = ls at hl ⊢
  have hl : lv_has ls 3 [(0, .ref a_this)] := hl
  unfold f_X1_read at h
  refine lv_aload_n hx hb dX1_read_0 rfl (lv_at hl 0 rfl) ?_
  obtain ⟨⟨r1, v_digitsStart_1, v_digitsEnd_1, v_unitsAt_1, v_tenPower_1⟩, hc, h⟩ := bd h
  dsimp only at h
  have hPc := hP.sub (ws' := (wd_X1_scanNumeral a_this a_text a_number a_rounded a_lowEdge a_highEdge c_text v_length v_digitsStart v_digitsEnd v_unitsAt v_tenPower v_text)) [0, 1] rfl
  have hDc := hD.sub (ws' := (wd_X1_scanNumeral a_this a_text a_number a_rounded a_lowEdge a_highEdge c_text v_length v_digitsStart v_digitsEnd v_unitsAt v_tenPower v_text)) [0, 1] (by decide) rfl
  have hKc := hK.sub (tys' := [(c_text, .int)]) [0] rfl
  have hFc := va_free (wc := (wd_X1_scanNumeral a_this a_text a_number a_rounded a_lowEdge a_highEdge c_text v_length v_digitsStart v_digitsEnd v_unitsAt v_tenPower v_text)) hD hS hA [0, 1] rfl
  refine va_calli (va_runV (As := []) (rest := []) ⟨hx, hb, hml, hown, hws⟩ (c_X1_scanNumeral l dC dI  a_this a_text a_number a_rounded a_lowEdge a_highEdge c_text (Array.size s.heap)  v_length v_digitsStart v_digitsEnd v_unitsAt v_tenPower v_text r1 v_digitsStart_1 v_digitsEnd_1 v_unitsAt_1 v_tenPower_1 hc) (cwV 0 hws (gV ww_84 ww_85 ww_86 ww_2 ww_87) rfl rfl rfl (by decide +kernel) ⟨Nat.le_of_ble_eq_true rfl, Nat.le_of_ble_eq_true rfl⟩) ⟨(fun a U g mk q => by obtain ⟨q0, q1, qP, qK, qD⟩ := q; exact ⟨q0, q1, qP, va_K.moved (u := U) (U := U.calling g mk a) (Vm.Alike.refl U.vm) qK, qD⟩), va_recv hKc hPc (ci := 1) (q0 := 0) rfl rfl, (fun U hU hW => ⟨rfl, by rw [hU], by rw [hU]; exact hPc, va_K.moved hW.alike hKc, hDc.weaken (fun _ _ _ _ => trivial)⟩)⟩ rfl rfl hl.1 rfl (lv_room (Nat.le_of_ble_eq_true rfl)) dX1_read_1 ⟨Nat.zero_le _, Nat.zero_le _⟩) hS (fun q _ h => hFc q h) hFc (fun r9 u9 t H1 locs ht hvm hw hB hz1 hk1 hS => ?_)
  obtain ⟨hP1, hK1, hD1⟩ := hB
  rw [ht] at hP1
  subst r9
  obtain ⟨hP, hD⟩ := va_join (wr := [(a_number, .inr (0, [.ref a_number_limbs, .int v_number_first, .int v_number_last])), (a_number_limbs, .inl (c_number_limbs, 160, .inr (.inl v_number_limbs))), (a_rounded, .inr (0, [.ref a_rounded_limbs, .int v_rounded_first, .int v_rounded_last])), (a_rounded_limbs, .inl (c_rounded_limbs, 160, .inr (.inl v_rounded_limbs)))]) (w1 := (wd_X1_scanNumeral a_this a_text a_number a_rounded a_lowEdge a_highEdge c_text v_length v_digitsStart_1 v_digitsEnd_1 v_unitsAt_1 v_tenPower_1 v_text)) hP hD [0, 1] [2, 3, 4, 5] rfl rfl (by decide) (by decide) hk1 hFc hP1 hD1
  generalize H1 = H at hP hS ⊢
  have hP : va_P (dC, dI) vwCl (wd_X1_read a_this a_text a_number a_number_limbs a_rounded a_rounded_limbs a_lowEdge a_highEdge c_text c_number_limbs c_rounded_limbs v_length v_digitsStart_1 v_digitsEnd_1 v_unitsAt_1 v_tenPower_1 v_text v_number_first v_number_last v_number_limbs v_rounded_first v_rounded_last v_rounded_limbs) H := hP.sub [4, 5, 0, 1, 2, 3] rfl
  have hD : va_D A (wd_X1_read a_this a_text a_number a_number_limbs a_rounded a_rounded_limbs a_lowEdge a_highEdge c_text c_number_limbs c_rounded_limbs v_length v_digitsStart_1 v_digitsEnd_1 v_unitsAt_1 v_tenPower_1 v_text v_number_first v_number_last v_number_limbs v_rounded_first v_rounded_last v_rounded_limbs) := hD.sub [4, 5, 0, 1, 2, 3] (by decide) rfl
  clear hP1 hK1 hD1 hPc hDc hKc hFc hk1 hz1 ht hvm
  refine lv_if_ne (tgt := 15) hx hb dX1_read_4 (by decide) (fun c9 => ?_) (fun c9 => ?_)
  · have h := (if_neg c9).symm.trans h
    refine lv_aload_n hx hb dX1_read_15 rfl (lv_at hl 0 rfl) ?_
    obtain ⟨⟨r16, v_number_first_16, v_number_last_16, v_number_limbs_16, v_rounded_first_16, v_rounded_last_16, v_rounded_limbs_16⟩, hc, h⟩ := bd h
    dsimp only at h
    have hPc := hP.sub (ws' := (wd_X1_nearestToNumeral a_this a_text a_number a_number_limbs a_rounded a_rounded_limbs a_lowEdge a_highEdge c_text c_number_limbs c_rounded_limbs v_length v_digitsStart_1 v_digitsEnd_1 v_unitsAt_1 v_tenPower_1 v_text v_number_first v_number_last v_number_limbs v_rounded_first v_rounded_last v_rounded_limbs)) [0, 1, 2, 3, 4, 5] rfl
    have hDc := hD.sub (ws' := (wd_X1_nearestToNumeral a_this a_text a_number a_number_limbs a_rounded a_rounded_limbs a_lowEdge a_highEdge c_text c_number_limbs c_rounded_limbs v_length v_digitsStart_1 v_digitsEnd_1 v_unitsAt_1 v_tenPower_1 v_text v_number_first v_number_last v_number_limbs v_rounded_first v_rounded_last v_rounded_limbs)) [0, 1, 2, 3, 4, 5] (by decide) rfl
    have hKc := hK.sub (tys' := [(c_text, .int), (c_number_limbs, .long), (c_rounded_limbs, .long)]) [0, 1, 2] rfl
    have hFc := va_free (wc := (wd_X1_nearestToNumeral a_this a_text a_number a_number_limbs a_rounded a_rounded_limbs a_lowEdge a_highEdge c_text c_number_limbs c_rounded_limbs v_length v_digitsStart_1 v_digitsEnd_1 v_unitsAt_1 v_tenPower_1 v_text v_number_first v_number_last v_number_limbs v_rounded_first v_rounded_last v_rounded_limbs)) hD hS hA [0, 1, 2, 3, 4, 5] rfl
    refine va_calll (va_runV (As := []) (rest := []) ⟨hx, hb, hml, hown, hws⟩ (c_X1_nearestToNumeral l dC dI a_TENS a_this a_text a_number a_number_limbs a_rounded a_rounded_limbs a_lowEdge a_highEdge c_text c_number_limbs c_rounded_limbs (Array.size H)  v_length v_digitsStart_1 v_digitsEnd_1 v_unitsAt_1 v_tenPower_1 v_text v_number_first v_number_last v_number_limbs v_rounded_first v_rounded_last v_rounded_limbs r16 v_number_first_16 v_number_last_16 v_number_limbs_16 v_rounded_first_16 v_rounded_last_16 v_rounded_limbs_16 hc) (cwV 0 hws (gV ww_104 ww_105 ww_106 ww_2 ww_107) rfl rfl rfl (by decide +kernel) ⟨Nat.le_of_ble_eq_true rfl, Nat.le_of_ble_eq_true rfl⟩) ⟨(fun a U g mk q => by obtain ⟨q0, q1, qP, qK, qD, qhZ_TENS, qhT_TENS⟩ := q; exact ⟨q0, q1, qP, va_K.moved (u := U) (U := U.calling g mk a) (Vm.Alike.refl U.vm) qK, qD, qhZ_TENS.moved (u := U) (U := U.calling g mk a) (Vm.Alike.refl U.vm), qhT_TENS.moved (u := U) (U := U.calling g mk a) (Vm.Alike.refl U.vm)⟩), va_recv hKc hPc (ci := 1) (q0 := 0) rfl rfl, (fun U hU hW => ⟨rfl, by rw [hU], by rw [hU]; exact hPc, va_K.moved hW.alike hKc, hDc.weaken (fun _ _ _ _ => trivial), by rw [hU]; exact ((hZ_TENS.kept (fun q h1 h2 => hS.2.1 q h1 h2)).narrow hFc).moved hW.alike, by rw [hU]; exact ((hT_TENS.kept (fun q h1 h2 => hS.2.1 q h1 h2)).narrow hFc).moved hW.alike⟩)⟩ rfl rfl hl.1 rfl (lv_room (Nat.le_of_ble_eq_true rfl)) dX1_read_16 ⟨Nat.zero_le _, Nat.zero_le _⟩) hS (fun q _ h => hFc q h) hFc (fun r9 u9 t H1 locs ht hvm hw hB hz1 hk1 hS => ?_)
    obtain ⟨hP1, hK1, hD1⟩ := hB
    rw [ht] at hP1
    subst r9
    obtain ⟨hP, hD⟩ := va_join (wr := []) (w1 := (wd_X1_nearestToNumeral a_this a_text a_number a_number_limbs a_rounded a_rounded_limbs a_lowEdge a_highEdge c_text c_number_limbs c_rounded_limbs v_length v_digitsStart_1 v_digitsEnd_1 v_unitsAt_1 v_tenPower_1 v_text v_number_first_16 v_number_last_16 v_number_limbs_16 v_rounded_first_16 v_rounded_last_16 v_rounded_limbs_16)) hP hD [0, 1, 2, 3, 4, 5] [] rfl rfl (by decide) (by decide) hk1 hFc hP1 hD1
    generalize H1 = H at hP hS ⊢
    have hP : va_P (dC, dI) vwCl (wd_X1_read a_this a_text a_number a_number_limbs a_rounded a_rounded_limbs a_lowEdge a_highEdge c_text c_number_limbs c_rounded_limbs v_length v_digitsStart_1 v_digitsEnd_1 v_unitsAt_1 v_tenPower_1 v_text v_number_first_16 v_number_last_16 v_number_limbs_16 v_rounded_first_16 v_rounded_last_16 v_rounded_limbs_16) H := hP.sub [0, 1, 2, 3, 4, 5] rfl
    have hD : va_D A (wd_X1_read a_this a_text a_number a_number_limbs a_rounded a_rounded_limbs a_lowEdge a_highEdge c_text c_number_limbs c_rounded_limbs v_length v_digitsStart_1 v_digitsEnd_1 v_unitsAt_1 v_tenPower_1 v_text v_number_first_16 v_number_last_16 v_number_limbs_16 v_rounded_first_16 v_rounded_last_16 v_rounded_limbs_16) := hD.sub [0, 1, 2, 3, 4, 5] (by decide) rfl
    clear hP1 hK1 hD1 hPc hDc hKc hFc hk1 hz1 ht hvm
    refine lv_lstore_n (lv' := [(1, .long r16), (0, .ref a_this)]) hx hb dX1_read_19 rfl hl (by decide) rfl (fun ls hl => ?_)
    refine lv_aload_n hx hb dX1_read_20 rfl (lv_at hl 1 rfl) ?_
    refine lv_iconst (v := 0) hx hb dX1_read_21 (by decide) ?_
    refine lv_bipush (v := 45) hx hb dX1_read_22 (by decide) ?_
    obtain ⟨r24, hc, h⟩ := bd h
    have hPc := hP.sub (ws' := (wd_X1_isAt a_this a_text a_number a_rounded a_lowEdge a_highEdge c_text v_length v_digitsStart_1 v_digitsEnd_1 v_unitsAt_1 v_tenPower_1 v_text)) [0, 1] rfl
    have hDc := hD.sub (ws' := (wd_X1_isAt a_this a_text a_number a_rounded a_lowEdge a_highEdge c_text v_length v_digitsStart_1 v_digitsEnd_1 v_unitsAt_1 v_tenPower_1 v_text)) [0, 1] (by decide) rfl
    have hKc := hK.sub (tys' := [(c_text, .int)]) [0] rfl
    have hFc := va_free (wc := (wd_X1_isAt a_this a_text a_number a_rounded a_lowEdge a_highEdge c_text v_length v_digitsStart_1 v_digitsEnd_1 v_unitsAt_1 v_tenPower_1 v_text)) hD hS hA [0, 1] rfl
    refine va_calli (va_runV (As := [.int 0, .int 45]) (rest := []) ⟨hx, hb, hml, hown, hws⟩ (c_X1_isAt l dC dI  a_this a_text a_number a_rounded a_lowEdge a_highEdge c_text (Array.size H) 0 45 v_length v_digitsStart_1 v_digitsEnd_1 v_unitsAt_1 v_tenPower_1 v_text r24 hc) (cwV 2 hws (gV ww_92 ww_93 ww_94 ww_2 ww_95) rfl rfl rfl (by decide +kernel) ⟨Nat.le_of_ble_eq_true rfl, Nat.le_of_ble_eq_true rfl⟩) ⟨(fun a U g mk q => by obtain ⟨q0, q1, qP, qK, qD⟩ := q; exact ⟨q0, q1, qP, va_K.moved (u := U) (U := U.calling g mk a) (Vm.Alike.refl U.vm) qK, qD⟩), va_recv hKc hPc (ci := 1) (q0 := 0) rfl rfl, (fun U hU hW => ⟨rfl, by rw [hU], by rw [hU]; exact hPc, va_K.moved hW.alike hKc, hDc.weaken (fun _ _ _ _ => trivial)⟩)⟩ rfl rfl hl.1 rfl (lv_room (Nat.le_of_ble_eq_true rfl)) dX1_read_24 ⟨Nat.zero_le _, Nat.zero_le _⟩) hS (fun q _ h => hFc q h) hFc (fun r9 u9 t H1 locs ht hvm hw hB hz1 hk1 hS => ?_)
    obtain ⟨hP1, hK1, hD1⟩ := hB
    rw [ht] at hP1
    subst r9
    obtain ⟨hP, hD⟩ := va_join (wr := [(a_number, .inr (0, [.ref a_number_limbs, .int v_number_first_16, .int v_number_last_16])), (a_number_limbs, .inl (c_number_limbs, 160, .inr (.inl v_number_limbs_16))), (a_rounded, .inr (0, [.ref a_rounded_limbs, .int v_rounded_first_16, .int v_rounded_last_16])), (a_rounded_limbs, .inl (c_rounded_limbs, 160, .inr (.inl v_rounded_limbs_16)))]) (w1 := (wd_X1_isAt a_this a_text a_number a_rounded a_lowEdge a_highEdge c_text v_length v_digitsStart_1 v_digitsEnd_1 v_unitsAt_1 v_tenPower_1 v_text)) hP hD [0, 1] [2, 3, 4, 5] rfl rfl (by decide) (by decide) hk1 hFc hP1 hD1
    generalize H1 = H at hP hS ⊢
    have hP : va_P (dC, dI) vwCl (wd_X1_read a_this a_text a_number a_number_limbs a_rounded a_rounded_limbs a_lowEdge a_highEdge c_text c_number_limbs c_rounded_limbs v_length v_digitsStart_1 v_digitsEnd_1 v_unitsAt_1 v_tenPower_1 v_text v_number_first_16 v_number_last_16 v_number_limbs_16 v_rounded_first_16 v_rounded_last_16 v_rounded_limbs_16) H := hP.sub [4, 5, 0, 1, 2, 3] rfl
    have hD : va_D A (wd_X1_read a_this a_text a_number a_number_limbs a_rounded a_rounded_limbs a_lowEdge a_highEdge c_text c_number_limbs c_rounded_limbs v_length v_digitsStart_1 v_digitsEnd_1 v_unitsAt_1 v_tenPower_1 v_text v_number_first_16 v_number_last_16 v_number_limbs_16 v_rounded_first_16 v_rounded_last_16 v_rounded_limbs_16) := hD.sub [4, 5, 0, 1, 2, 3] (by decide) rfl
    clear hP1 hK1 hD1 hPc hDc hKc hFc hk1 hz1 ht hvm
    refine lv_if_eq (tgt := 38) hx hb dX1_read_27 (by decide) (fun c9 => ?_) (fun c9 => ?_)
    · have h := (if_pos c9).symm.trans h
      refine lv_lload_n hx hb dX1_read_38 rfl (lv_at hl 0 rfl) ?_
      obtain rfl := rt1 h
      refine W.widen (k := 1) (n := 6) (by decide) (by decide) ?_
      exact vx_ret (W.lret hx hb hr (fun t ht hW => ⟨⟨_, (v_digitsStart_1, v_digitsEnd_1, v_unitsAt_1, v_tenPower_1, v_number_first_16, v_number_last_16, v_number_limbs_16, v_rounded_first_16, v_rounded_last_16, v_rounded_limbs_16), rfl, rfl, by rw [ht]; exact hP, va_K.moved hW.alike hK, hD⟩, hS.F ht⟩) hS.2.2 dX1_read_39)
    · have h := (if_neg c9).symm.trans h
      refine lv_lload_n hx hb dX1_read_30 rfl (lv_at hl 0 rfl) ?_
      refine lv_ldc2 (v := (-9223372036854775808)) hx hb hown (hws _ ww_83) dX1_read_31 ?_
      refine lv_lor hx hb dX1_read_34 ?_
      refine lv_goto (tgt := 39) hx hb dX1_read_35 (by decide) ?_
      obtain rfl := rt1 h
      refine W.widen (k := 1) (n := 6) (by decide) (by decide) ?_
      exact vx_ret (W.lret hx hb hr (fun t ht hW => ⟨⟨_, (v_digitsStart_1, v_digitsEnd_1, v_unitsAt_1, v_tenPower_1, v_number_first_16, v_number_last_16, v_number_limbs_16, v_rounded_first_16, v_rounded_last_16, v_rounded_limbs_16), rfl, rfl, by rw [ht]; exact hP, va_K.moved hW.alike hK, hD⟩, hS.F ht⟩) hS.2.2 dX1_read_39)
  · have h := (if_pos c9).symm.trans h
    obtain rfl := rt1 h
    refine vx_throw0 (cls := "java/lang/IllegalStateException") (names := exNames) (A := A) hx hb hst hown (by decide +kernel) (by decide +kernel) (hws _ ww_62) (hws _ ww_63) (ex_at2 hEX hws) ex_g2 hEX.1.1 hEX.1.2 hS (hl.1.trans hml.symm) dX1_read_7 dX1_read_10 dX1_read_11 dX1_read_14 (fun x9 h9 => (htab x9 h9).elim) (Nat.le_of_ble_eq_true rfl) (Nat.le_of_ble_eq_true rfl) (Nat.le_of_ble_eq_true rfl) (Nat.le_of_ble_eq_true rfl) hlocks (fun t ha hz hq => ?_) hS.2.2 (Nat.le_of_ble_eq_true rfl) (Nat.le_of_ble_eq_true rfl)
    exact ⟨(2, (v_digitsStart_1, v_digitsEnd_1, v_unitsAt_1, v_tenPower_1, v_number_first, v_number_last, v_number_limbs, v_rounded_first, v_rounded_last, v_rounded_limbs)), rfl, ⟨rfl, hP.kept (fun k9 q9 h9 => hq q9.1 (hP k9 q9 h9).lt), va_K.moved ha hK, hD⟩, Nat.le_trans hS.1 hz, fun q9 h1 h2 => (hq q9 (Nat.lt_of_lt_of_le h1 hS.1)).trans (hS.2.1 q9 h1 h2)⟩
set_option maxHeartbeats 4000000 in
set_option maxRecDepth 100000 in
theorem c_X1_isNone (l : Launch) (dC : Nat → ClassId) (dI : Nat → Nat → Nat)   (sz : Nat) (l0 : Int64)  (o_r : Int32) (h : f_X1_isNone l0 = some o_r) : Met l yX1_isNone w_X1_isNone ({ frames := 0, cells := 0, slots := 0, locals := 0 } : Room) (va_Pc [.long l0] (fun U => U.heap.size = sz ∧ va_P (dC, dI) vwCl ([] : va_W) U.heap ∧ va_K (dC, dI) vwCl [] U ∧ va_D (fun _ => True) ([] : va_W))) (va_Qi (fun r9 (_ : Unit) => r9 = o_r) (fun (_ : Unit) t => va_P (dC, dI) vwCl ([] : va_W) t.heap ∧ va_K (dC, dI) vwCl [] t ∧ va_D (va_A ([] : va_W) sz) ([] : va_W)) (va_A ([] : va_W) sz)) 0 0 (va_A ([] : va_W) sz) := by
  refine Met.ofW (cc := cX1_isNone) (maxL := 2) (ret := (some .boolean)) (by decide) rfl ?_
  intro p e s m args below meth c s₁ B hml hv
  obtain ⟨rfl, hsz, hP, hK, hD0⟩ := hv
  have hx := B.exec
  have hb := B.bytes
  have hr := B.returns
  have hws : ∀ w ∈ wsL_law, w.before _ s = true := fun w hw => atoms_spec (ws := w_X1_isNone) B.pre w (List.mem_cons_of_mem _ hw)
  have hown : s.vm.findClass RX1 = some m.cls := findClass_of_methodNamed B.named
  have hlocks := B.notSynchronized
  subst hsz
  have hD := hD0.self (sz := s.heap.size)
  generalize hAe : va_A ([] : va_W) s.heap.size = A at hD ⊢
  have hA : ∀ q : Nat, s.heap.size ≤ q → A q := fun q h => by rw [← hAe]; exact Or.inr h
  have hS : va_S A s.heap s.heap [] := va_S.rf
  have hl := lv_entry ([.long l0]) (n := 2) (Nat.le_of_ble_eq_true rfl)
  rw [lg_entry_eq]
  generalize (lg_sl ([.long l0]) ++ List.replicate (2 - (lg_sl ([.long l0])).length) Slot.unset).toArray = ls at hl ⊢
  have hl : lv_has ls 2 [(0, .long l0)] := hl
  unfold f_X1_isNone at h
  refine lv_lload_n hx hb dX1_isNone_0 rfl (lv_at hl 0 rfl) ?_
  refine lv_ldc2 (v := 9218868437227405312) hx hb hown (hws _ ww_108) dX1_isNone_1 ?_
  refine lv_land hx hb dX1_isNone_4 ?_
  refine lv_ldc2 (v := 9218868437227405312) hx hb hown (hws _ ww_108) dX1_isNone_5 ?_
  refine W.lcmp hx hb dX1_isNone_8 ?_
  refine lv_if_ne (tgt := 16) hx hb dX1_isNone_9 (by decide) (fun c9 => ?_) (fun c9 => ?_)
  · have h := (if_neg c9).symm.trans h
    refine lv_iconst (v := 0) hx hb dX1_isNone_16 (by decide) ?_
    obtain h09 := rt1 h
    subst o_r
    exact W.zret hx hb hr rfl (fun t ht hW => ⟨⟨_, (), rfl, rfl, by rw [ht]; exact hP, va_K.moved hW.alike hK, hD⟩, hS.F ht⟩) hS.2.2 dX1_isNone_17
  · have h := (if_pos c9).symm.trans h
    refine lv_iconst (v := 1) hx hb dX1_isNone_12 (by decide) ?_
    refine lv_goto (tgt := 17) hx hb dX1_isNone_13 (by decide) ?_
    obtain h09 := rt1 h
    subst o_r
    exact W.zret hx hb hr rfl (fun t ht hW => ⟨⟨_, (), rfl, rfl, by rw [ht]; exact hP, va_K.moved hW.alike hK, hD⟩, hS.F ht⟩) hS.2.2 dX1_isNone_17
set_option maxHeartbeats 4000000 in
set_option maxRecDepth 100000 in
theorem c_X1_mantissaOf (l : Launch) (dC : Nat → ClassId) (dI : Nat → Nat → Nat)   (sz : Nat) (l0 : Int64)  (o_r : Int64) (h : f_X1_mantissaOf l0 = some o_r) : Met l yX1_mantissaOf w_X1_mantissaOf ({ frames := 0, cells := 0, slots := 0, locals := 0 } : Room) (va_Pc [.long l0] (fun U => U.heap.size = sz ∧ va_P (dC, dI) vwCl ([] : va_W) U.heap ∧ va_K (dC, dI) vwCl [] U ∧ va_D (fun _ => True) ([] : va_W))) (va_Ql (fun r9 (_ : Unit) => r9 = o_r) (fun (_ : Unit) t => va_P (dC, dI) vwCl ([] : va_W) t.heap ∧ va_K (dC, dI) vwCl [] t ∧ va_D (va_A ([] : va_W) sz) ([] : va_W)) (va_A ([] : va_W) sz)) 0 0 (va_A ([] : va_W) sz) := by
  refine Met.ofW (cc := cX1_mantissaOf) (maxL := 4) (ret := (some .long)) (by decide) rfl ?_
  intro p e s m args below meth c s₁ B hml hv
  obtain ⟨rfl, hsz, hP, hK, hD0⟩ := hv
  have hx := B.exec
  have hb := B.bytes
  have hr := B.returns
  have hws : ∀ w ∈ wsL_law, w.before _ s = true := fun w hw => atoms_spec (ws := w_X1_mantissaOf) B.pre w (List.mem_cons_of_mem _ hw)
  have hown : s.vm.findClass RX1 = some m.cls := findClass_of_methodNamed B.named
  have hlocks := B.notSynchronized
  subst hsz
  have hD := hD0.self (sz := s.heap.size)
  generalize hAe : va_A ([] : va_W) s.heap.size = A at hD ⊢
  have hA : ∀ q : Nat, s.heap.size ≤ q → A q := fun q h => by rw [← hAe]; exact Or.inr h
  have hS : va_S A s.heap s.heap [] := va_S.rf
  have hl := lv_entry ([.long l0]) (n := 4) (Nat.le_of_ble_eq_true rfl)
  rw [lg_entry_eq]
  generalize (lg_sl ([.long l0]) ++ List.replicate (4 - (lg_sl ([.long l0])).length) Slot.unset).toArray = ls at hl ⊢
  have hl : lv_has ls 4 [(0, .long l0)] := hl
  unfold f_X1_mantissaOf at h
  refine lv_lload_n hx hb dX1_mantissaOf_0 rfl (lv_at hl 0 rfl) ?_
  refine lv_ldc2 (v := 4503599627370495) hx hb hown (hws _ ww_299) dX1_mantissaOf_1 ?_
  refine lv_land hx hb dX1_mantissaOf_4 ?_
  refine lv_lstore_n (lv' := [(2, .long (l0 &&& 4503599627370495)), (0, .long l0)]) hx hb dX1_mantissaOf_5 rfl hl (by decide) rfl (fun ls hl => ?_)
  refine lv_lload_n hx hb dX1_mantissaOf_6 rfl (lv_at hl 1 rfl) ?_
  refine lv_ldc2 (v := 9218868437227405312) hx hb hown (hws _ ww_108) dX1_mantissaOf_7 ?_
  refine lv_land hx hb dX1_mantissaOf_10 ?_
  refine lv_lconst (v := 0) hx hb dX1_mantissaOf_11 (by decide) ?_
  refine W.lcmp hx hb dX1_mantissaOf_12 ?_
  refine lv_if_ne (tgt := 20) hx hb dX1_mantissaOf_13 (by decide) (fun c9 => ?_) (fun c9 => ?_)
  · have h := (if_neg c9).symm.trans h
    refine lv_lload_n hx hb dX1_mantissaOf_20 rfl (lv_at hl 0 rfl) ?_
    refine lv_ldc2 (v := 4503599627370496) hx hb hown (hws _ ww_300) dX1_mantissaOf_21 ?_
    refine lv_ladd hx hb dX1_mantissaOf_24 ?_
    obtain h09 := rt1 h
    subst o_r
    exact W.lret hx hb hr (fun t ht hW => ⟨⟨_, (), rfl, rfl, by rw [ht]; exact hP, va_K.moved hW.alike hK, hD⟩, hS.F ht⟩) hS.2.2 dX1_mantissaOf_25
  · have h := (if_pos c9).symm.trans h
    refine lv_lload_n hx hb dX1_mantissaOf_16 rfl (lv_at hl 0 rfl) ?_
    refine lv_goto (tgt := 25) hx hb dX1_mantissaOf_17 (by decide) ?_
    obtain h09 := rt1 h
    subst o_r
    exact W.lret hx hb hr (fun t ht hW => ⟨⟨_, (), rfl, rfl, by rw [ht]; exact hP, va_K.moved hW.alike hK, hD⟩, hS.F ht⟩) hS.2.2 dX1_mantissaOf_25
set_option maxHeartbeats 4000000 in
set_option maxRecDepth 100000 in
theorem c_X1_powerOf (l : Launch) (dC : Nat → ClassId) (dI : Nat → Nat → Nat)   (sz : Nat) (l0 : Int64)  (o_r : Int32) (h : f_X1_powerOf l0 = some o_r) : Met l yX1_powerOf w_X1_powerOf ({ frames := 1, cells := 0, slots := 0, locals := 21 } : Room) (va_Pc [.long l0] (fun U => U.heap.size = sz ∧ va_P (dC, dI) vwCl ([] : va_W) U.heap ∧ va_K (dC, dI) vwCl [] U ∧ va_D (fun _ => True) ([] : va_W))) (va_Qi (fun r9 (_ : Unit) => r9 = o_r) (fun (_ : Unit) t => va_P (dC, dI) vwCl ([] : va_W) t.heap ∧ va_K (dC, dI) vwCl [] t ∧ va_D (va_A ([] : va_W) sz) ([] : va_W)) (va_A ([] : va_W) sz)) 0 0 (va_A ([] : va_W) sz) := by
  refine Met.ofW (cc := cX1_powerOf) (maxL := 3) (ret := (some .int)) (by decide) rfl ?_
  intro p e s m args below meth c s₁ B hml hv
  obtain ⟨rfl, hsz, hP, hK, hD0⟩ := hv
  have hx := B.exec
  have hb := B.bytes
  have hr := B.returns
  have hws : ∀ w ∈ wsL_law, w.before _ s = true := fun w hw => atoms_spec (ws := w_X1_powerOf) B.pre w (List.mem_cons_of_mem _ hw)
  have hown : s.vm.findClass RX1 = some m.cls := findClass_of_methodNamed B.named
  have hlocks := B.notSynchronized
  subst hsz
  have hD := hD0.self (sz := s.heap.size)
  generalize hAe : va_A ([] : va_W) s.heap.size = A at hD ⊢
  have hA : ∀ q : Nat, s.heap.size ≤ q → A q := fun q h => by rw [← hAe]; exact Or.inr h
  have hS : va_S A s.heap s.heap [] := va_S.rf
  have hl := lv_entry ([.long l0]) (n := 3) (Nat.le_of_ble_eq_true rfl)
  rw [lg_entry_eq]
  generalize (lg_sl ([.long l0]) ++ List.replicate (3 - (lg_sl ([.long l0])).length) Slot.unset).toArray = ls at hl ⊢
  have hl : lv_has ls 3 [(0, .long l0)] := hl
  unfold f_X1_powerOf at h
  refine lv_lload_n hx hb dX1_powerOf_0 rfl (lv_at hl 0 rfl) ?_
  refine lv_ldc2 (v := 9218868437227405312) hx hb hown (hws _ ww_108) dX1_powerOf_1 ?_
  refine lv_land hx hb dX1_powerOf_4 ?_
  refine lv_bipush (v := 52) hx hb dX1_powerOf_5 (by decide) ?_
  refine lv_lushr hx hb dX1_powerOf_7 rfl ?_
  refine lv_l2i hx hb dX1_powerOf_8 rfl ?_
  refine lv_istore_n (lv' := [(2, .int (Int64.toInt32 ((Int64.toUInt64 (l0 &&& 9218868437227405312) >>> (Int64.toUInt64 (Int32.toInt64 52) &&& Int64.toUInt64 63)).toInt64))), (0, .long l0)]) hx hb dX1_powerOf_9 rfl hl (by decide) rfl (fun ls hl => ?_)
  refine lv_iload_n hx hb dX1_powerOf_10 rfl (lv_at hl 0 rfl) ?_
  refine lv_iconst (v := 1) hx hb dX1_powerOf_11 (by decide) ?_
  refine va_mmax hx hb (hml.trans hl.1.symm) hown (hws _ ww_292) (hws _ ww_130) (hws _ ww_127) (hws _ ww_131) (Nat.le_of_ble_eq_true rfl) (Nat.le_of_ble_eq_true rfl) (Nat.le_of_ble_eq_true rfl) (Nat.le_of_ble_eq_true rfl) dX1_powerOf_12 ?_
  refine lv_iconst (v := 1) hx hb dX1_powerOf_15 (by decide) ?_
  refine lv_isub hx hb dX1_powerOf_16 ?_
  refine lv_sipush (v := (-1074)) hx hb dX1_powerOf_17 (by decide) ?_
  refine lv_iadd hx hb dX1_powerOf_20 ?_
  obtain h09 := rt1 h
  subst o_r
  exact W.iret hx hb hr (fun t ht hW => ⟨⟨_, (), rfl, rfl, by rw [ht]; exact hP, va_K.moved hW.alike hK, hD⟩, hS.F ht⟩) hS.2.2 dX1_powerOf_21
set_option maxHeartbeats 4000000 in
set_option maxRecDepth 100000 in
theorem c_X1_startText (l : Launch) (dC : Nat → ClassId) (dI : Nat → Nat → Nat)  (a_this a_text a_number a_rounded a_lowEdge a_highEdge : Nat) (c_text : ClassId) (sz : Nat) (l1 : Int64) (v_length : Int32) (v_digitsStart : Int32) (v_digitsEnd : Int32) (v_unitsAt : Int32) (v_tenPower : Int32) (v_text : Nat → Int32) (o_length : Int32) (o_text : Nat → Int32) (h : f_X1_startText l1 v_length v_text = some (o_length, o_text)) : Met l yX1_startText w_X1_startText ({ frames := 1, cells := 0, slots := 0, locals := 21 } : Room) (va_Pc [.ref a_this, .long l1] (fun U => U.heap.size = sz ∧ va_P (dC, dI) vwCl (wd_X1_startText a_this a_text a_number a_rounded a_lowEdge a_highEdge c_text v_length v_digitsStart v_digitsEnd v_unitsAt v_tenPower v_text) U.heap ∧ va_K (dC, dI) vwCl [(c_text, .int)] U ∧ va_D (fun _ => True) (wd_X1_startText a_this a_text a_number a_rounded a_lowEdge a_highEdge c_text v_length v_digitsStart v_digitsEnd v_unitsAt v_tenPower v_text))) (va_Qv (fun (_ : Unit) => True) (fun (_ : Unit) t => va_P (dC, dI) vwCl (wd_X1_startText a_this a_text a_number a_rounded a_lowEdge a_highEdge c_text o_length v_digitsStart v_digitsEnd v_unitsAt v_tenPower o_text) t.heap ∧ va_K (dC, dI) vwCl [(c_text, .int)] t ∧ va_D (va_A (wd_X1_startText a_this a_text a_number a_rounded a_lowEdge a_highEdge c_text v_length v_digitsStart v_digitsEnd v_unitsAt v_tenPower v_text) sz) (wd_X1_startText a_this a_text a_number a_rounded a_lowEdge a_highEdge c_text o_length v_digitsStart v_digitsEnd v_unitsAt v_tenPower o_text)) (va_A (wd_X1_startText a_this a_text a_number a_rounded a_lowEdge a_highEdge c_text v_length v_digitsStart v_digitsEnd v_unitsAt v_tenPower v_text) sz)) 0 0 (va_A (wd_X1_startText a_this a_text a_number a_rounded a_lowEdge a_highEdge c_text v_length v_digitsStart v_digitsEnd v_unitsAt v_tenPower v_text) sz) := by
  refine Met.ofW (cc := cX1_startText) (maxL := 3) (ret := none) (by decide) rfl ?_
  intro p e s m args below meth c s₁ B hml hv
  obtain ⟨rfl, hsz, hP, hK, hD0⟩ := hv
  have hx := B.exec
  have hb := B.bytes
  have hr := B.returns
  have hws : ∀ w ∈ wsL_law, w.before _ s = true := fun w hw => atoms_spec (ws := w_X1_startText) B.pre w (List.mem_cons_of_mem _ hw)
  have hown : s.vm.findClass RX1 = some m.cls := findClass_of_methodNamed B.named
  have hlocks := B.notSynchronized
  subst hsz
  have hD := hD0.self (sz := s.heap.size)
  generalize hAe : va_A (wd_X1_startText a_this a_text a_number a_rounded a_lowEdge a_highEdge c_text v_length v_digitsStart v_digitsEnd v_unitsAt v_tenPower v_text) s.heap.size = A at hD ⊢
  have hA : ∀ q : Nat, s.heap.size ≤ q → A q := fun q h => by rw [← hAe]; exact Or.inr h
  have hS : va_S A s.heap s.heap [] := va_S.rf
  have hl := lv_entry ([.ref a_this, .long l1]) (n := 3) (Nat.le_of_ble_eq_true rfl)
  rw [lg_entry_eq]
  generalize (lg_sl ([.ref a_this, .long l1]) ++ List.replicate (3 - (lg_sl ([.ref a_this, .long l1])).length) Slot.unset).toArray = ls at hl ⊢
  have hl : lv_has ls 3 [(0, .ref a_this), (1, .long l1)] := hl
  unfold f_X1_startText at h
  refine lv_aload_n hx hb dX1_startText_0 rfl (lv_at hl 0 rfl) ?_
  refine lv_iconst (v := 0) hx hb dX1_startText_1 (by decide) ?_
  refine va_put (D := (dC, dI)) (ci := 1) (v := .int 0) (ty := .int) (C := RX1) (T := TX1) (N := 10) hx hb hws inlX1 tyX1 tyX1_ok nmX1 hown hK hP hD hS 0 rfl rfl 1 (by decide) (hws _ ww_43) (fun _ h9 => h9) rfl (by decide +kernel) rfl rfl (Nat.le_of_ble_eq_true rfl) dX1_startText_2 (fun H locs hP hD hS => ?_)
  have hP : va_P (dC, dI) vwCl (wd_X1_startText a_this a_text a_number a_rounded a_lowEdge a_highEdge c_text 0 v_digitsStart v_digitsEnd v_unitsAt v_tenPower v_text) H := hP
  have hD : va_D A (wd_X1_startText a_this a_text a_number a_rounded a_lowEdge a_highEdge c_text 0 v_digitsStart v_digitsEnd v_unitsAt v_tenPower v_text) := hD
  refine lv_lload_n hx hb dX1_startText_5 rfl (lv_at hl 1 rfl) ?_
  refine lv_lconst (v := 0) hx hb dX1_startText_6 (by decide) ?_
  refine W.lcmp hx hb dX1_startText_7 ?_
  refine lv_if_ge (tgt := 17) hx hb dX1_startText_8 (by decide) (fun c9 => ?_) (fun c9 => ?_)
  · have h := (if_pos c9).symm.trans h
    obtain ⟨h09, h19⟩ := rt2 h
    subst o_length
    subst o_text
    exact W.vret hx hb hr (fun t ht hW => ⟨⟨(), rfl, trivial, by rw [ht]; exact hP, va_K.moved hW.alike hK, hD⟩, hS.F ht⟩) hS.2.2 dX1_startText_17
  · have h := (if_neg c9).symm.trans h
    refine lv_aload_n hx hb dX1_startText_11 rfl (lv_at hl 0 rfl) ?_
    refine lv_bipush (v := 45) hx hb dX1_startText_12 (by decide) ?_
    obtain ⟨⟨v_length_14, v_text_14⟩, hc, h⟩ := bd h
    dsimp only at h
    have hPc := hP.sub (ws' := (wd_X1_put a_this a_text a_number a_rounded a_lowEdge a_highEdge c_text 0 v_digitsStart v_digitsEnd v_unitsAt v_tenPower v_text)) [0, 1] rfl
    have hDc := hD.sub (ws' := (wd_X1_put a_this a_text a_number a_rounded a_lowEdge a_highEdge c_text 0 v_digitsStart v_digitsEnd v_unitsAt v_tenPower v_text)) [0, 1] (by decide) rfl
    have hKc := hK.sub (tys' := [(c_text, .int)]) [0] rfl
    have hFc := va_free (wc := (wd_X1_put a_this a_text a_number a_rounded a_lowEdge a_highEdge c_text 0 v_digitsStart v_digitsEnd v_unitsAt v_tenPower v_text)) hD hS hA [0, 1] rfl
    refine va_callv (va_runV (As := [.int 45]) (rest := []) ⟨hx, hb, hml, hown, hws⟩ (c_X1_put l dC dI  a_this a_text a_number a_rounded a_lowEdge a_highEdge c_text (Array.size H) 45 0 v_digitsStart v_digitsEnd v_unitsAt v_tenPower v_text v_length_14 v_text_14 hc) (cwV 1 hws (gV ww_64 ww_65 ww_66 ww_2 ww_67) rfl rfl rfl (by decide +kernel) ⟨Nat.le_of_ble_eq_true rfl, Nat.le_of_ble_eq_true rfl⟩) ⟨(fun a U g mk q => by obtain ⟨q0, q1, qP, qK, qD⟩ := q; exact ⟨q0, q1, qP, va_K.moved (u := U) (U := U.calling g mk a) (Vm.Alike.refl U.vm) qK, qD⟩), va_recv hKc hPc (ci := 1) (q0 := 0) rfl rfl, (fun U hU hW => ⟨rfl, by rw [hU], by rw [hU]; exact hPc, va_K.moved hW.alike hKc, hDc.weaken (fun _ _ _ _ => trivial)⟩)⟩ rfl rfl hl.1 rfl (lv_room (Nat.le_of_ble_eq_true rfl)) dX1_startText_14 ⟨Nat.zero_le _, Nat.zero_le _⟩) hS (fun q _ h => hFc q h) hFc (fun u9 t H1 locs ht hvm hw hB hz1 hk1 hS => ?_)
    obtain ⟨hP1, hK1, hD1⟩ := hB
    rw [ht] at hP1
    obtain ⟨hP, hD⟩ := va_join (wr := []) (w1 := (wd_X1_put a_this a_text a_number a_rounded a_lowEdge a_highEdge c_text v_length_14 v_digitsStart v_digitsEnd v_unitsAt v_tenPower v_text_14)) hP hD [0, 1] [] rfl rfl (by decide) (by decide) hk1 hFc hP1 hD1
    generalize H1 = H at hP hS ⊢
    have hP : va_P (dC, dI) vwCl (wd_X1_startText a_this a_text a_number a_rounded a_lowEdge a_highEdge c_text v_length_14 v_digitsStart v_digitsEnd v_unitsAt v_tenPower v_text_14) H := hP.sub [0, 1] rfl
    have hD : va_D A (wd_X1_startText a_this a_text a_number a_rounded a_lowEdge a_highEdge c_text v_length_14 v_digitsStart v_digitsEnd v_unitsAt v_tenPower v_text_14) := hD.sub [0, 1] (by decide) rfl
    clear hP1 hK1 hD1 hPc hDc hKc hFc hk1 hz1 ht hvm
    obtain ⟨h09, h19⟩ := rt2 h
    subst o_length
    subst o_text
    exact W.vret hx hb hr (fun t ht hW => ⟨⟨(), rfl, trivial, by rw [ht]; exact hP, va_K.moved hW.alike hK, hD⟩, hS.F ht⟩) hS.2.2 dX1_startText_17
set_option maxHeartbeats 4000000 in
set_option maxRecDepth 100000 in
theorem w_X1_putDigits_2 (l : Launch) {p : Program} {e : Env} {s : State} {m : MethodId} {args : Array Value} {below : List Frame} {meth : Method} {c : Code} {A : Nat → Prop} {dC : Nat → ClassId} {dI : Nat → Nat → Nat} (a_this a_text a_number a_rounded a_rounded_limbs a_lowEdge a_highEdge : Nat) (c_text c_rounded_limbs : ClassId) (hx : p.tables.exec = Jvm.exec) (hb : c.code = cX1_putDigits) (hr : meth.sig.returnType = none) (hml : c.maxLocals = 4) (hown : s.vm.findClass RX1 = some m.cls) (hws : ∀ w ∈ wsL_law, w.before args s = true) (hlocks : meth.locks = false) (hA : ∀ q : Nat, s.heap.size ≤ q → A q) {a_TENS : Nat} (hZ_TENS : va_Z "DoubleText$Decimal" "TENS" "[J" (.ref a_TENS) A s s.heap) (hT_TENS : va_T .long a_TENS 9 TENS_v A s s.heap) : ∀ (n : Nat) (l2 : Int32) (l3 : Int32) (v_length : Int32) (v_digitsStart : Int32) (v_digitsEnd : Int32) (v_unitsAt : Int32) (v_tenPower : Int32) (v_text : Nat → Int32) (v_rounded_first : Int32) (v_rounded_last : Int32) (v_rounded_limbs : Nat → Int64) (o_length : Int32) (o_text : Nat → Int32), f_X1_putDigits_L2 n l2 l3 v_length v_text v_rounded_limbs = some (o_length, o_text) → ∀ (H : Heap) (locs : List Loc), va_K (dC, dI) vwCl [(c_text, .int), (c_rounded_limbs, .long)] s → va_P (dC, dI) vwCl (wd_X1_putDigits a_this a_text a_number a_rounded a_rounded_limbs a_lowEdge a_highEdge c_text c_rounded_limbs v_length v_digitsStart v_digitsEnd v_unitsAt v_tenPower v_text v_rounded_first v_rounded_last v_rounded_limbs) H → va_D A (wd_X1_putDigits a_this a_text a_number a_rounded a_rounded_limbs a_lowEdge a_highEdge c_text c_rounded_limbs v_length v_digitsStart v_digitsEnd v_unitsAt v_tenPower v_text v_rounded_first v_rounded_last v_rounded_limbs) → va_S A s.heap H locs → ∀ (ls : Array Slot), lv_has ls 4 [(0, .ref a_this), (2, .int l2), (3, .int l3)] → W p l e (headSpec (w_X1_putDigits) ({ frames := 3, cells := 0, slots := 0, locals := 63 } : Room)).room s m args below meth c H locs 0 0 (MQ below (va_Qv (fun (_ : Unit) => True) (fun (_ : Unit) t => va_P (dC, dI) vwCl (wd_X1_putDigits a_this a_text a_number a_rounded a_rounded_limbs a_lowEdge a_highEdge c_text c_rounded_limbs o_length v_digitsStart v_digitsEnd v_unitsAt v_tenPower o_text v_rounded_first v_rounded_last v_rounded_limbs) t.heap ∧ va_K (dC, dI) vwCl [(c_text, .int), (c_rounded_limbs, .long)] t ∧ va_D A (wd_X1_putDigits a_this a_text a_number a_rounded a_rounded_limbs a_lowEdge a_highEdge c_text c_rounded_limbs o_length v_digitsStart v_digitsEnd v_unitsAt v_tenPower o_text v_rounded_first v_rounded_last v_rounded_limbs)) A) args s 0 0 A) (F0 m 2 ls []) := by
  intro n
  induction n with
  | zero =>
    intro l2 l3 v_length v_digitsStart v_digitsEnd v_unitsAt v_tenPower v_text v_rounded_first v_rounded_last v_rounded_limbs o_length o_text h H locs hK hP hD hS ls hl
    exact absurd h (by simp [f_X1_putDigits_L2])
  | succ n ih =>
    intro l2 l3 v_length v_digitsStart v_digitsEnd v_unitsAt v_tenPower v_text v_rounded_first v_rounded_last v_rounded_limbs o_length o_text h H locs hK hP hD hS ls hl
    unfold f_X1_putDigits_L2 at h
    refine lv_iload_n hx hb dX1_putDigits_2 rfl (lv_at hl 2 rfl) ?_
    refine lv_iload_n hx hb dX1_putDigits_3 rfl (lv_at hl 1 rfl) ?_
    refine lv_icmp_lt (tgt := 28) hx hb dX1_putDigits_4 (by decide) (fun c9 => ?_) (fun c9 => ?_)
    · have h := (if_pos c9).symm.trans h
      obtain ⟨h09, h19⟩ := rt2 h
      subst o_length
      subst o_text
      exact W.vret hx hb hr (fun t ht hW => ⟨⟨(), rfl, trivial, by rw [ht]; exact hP, va_K.moved hW.alike hK, hD⟩, hS.F ht⟩) hS.2.2 dX1_putDigits_28
    · have h := (if_neg c9).symm.trans h
      refine lv_aload_n hx hb dX1_putDigits_7 rfl (lv_at hl 0 rfl) ?_
      refine lv_bipush (v := 48) hx hb dX1_putDigits_8 (by decide) ?_
      refine lv_aload_n hx hb dX1_putDigits_10 rfl (lv_at hl 0 rfl) ?_
      refine va_get (D := (dC, dI)) (ci := 1) (v := .ref a_rounded) (C := RX1) (T := TX1) (N := 10) hx hb hws inlX1 hown hK hP 0 rfl rfl 7 (by decide) (hws _ ww_20) (fun _ h9 => h9) rfl dX1_putDigits_11 ?_
      refine lv_iload_n hx hb dX1_putDigits_14 rfl (lv_at hl 2 rfl) ?_
      obtain ⟨r15, hc, h⟩ := bd h
      have hPc := hP.sub (ws' := (wd_X0_digit a_rounded a_rounded_limbs c_rounded_limbs v_rounded_first v_rounded_last v_rounded_limbs)) [2, 3] rfl
      have hDc := hD.sub (ws' := (wd_X0_digit a_rounded a_rounded_limbs c_rounded_limbs v_rounded_first v_rounded_last v_rounded_limbs)) [2, 3] (by decide) rfl
      have hKc := hK.sub (tys' := [(c_rounded_limbs, .long)]) [1] rfl
      have hFc := va_free (wc := (wd_X0_digit a_rounded a_rounded_limbs c_rounded_limbs v_rounded_first v_rounded_last v_rounded_limbs)) hD hS hA [2, 3] rfl
      refine va_calli (va_runV (As := [.int l3]) (rest := [.int 48, .ref a_this]) ⟨hx, hb, hml, hown, hws⟩ (c_X0_digit l dC dI a_TENS a_rounded a_rounded_limbs c_rounded_limbs (Array.size H) l3 v_rounded_first v_rounded_last v_rounded_limbs r15 hc) (cwV 1 hws (gV ww_321 ww_322 ww_323 ww_18 ww_324) rfl rfl rfl (by decide +kernel) ⟨Nat.le_of_ble_eq_true rfl, Nat.le_of_ble_eq_true rfl⟩) ⟨(fun a U g mk q => by obtain ⟨q0, q1, qP, qK, qD, qhZ_TENS, qhT_TENS⟩ := q; exact ⟨q0, q1, qP, va_K.moved (u := U) (U := U.calling g mk a) (Vm.Alike.refl U.vm) qK, qD, qhZ_TENS.moved (u := U) (U := U.calling g mk a) (Vm.Alike.refl U.vm), qhT_TENS.moved (u := U) (U := U.calling g mk a) (Vm.Alike.refl U.vm)⟩), va_recv hKc hPc (ci := 0) (q0 := 0) rfl rfl, (fun U hU hW => ⟨rfl, by rw [hU], by rw [hU]; exact hPc, va_K.moved hW.alike hKc, hDc.weaken (fun _ _ _ _ => trivial), by rw [hU]; exact ((hZ_TENS.kept (fun q h1 h2 => hS.2.1 q h1 h2)).narrow hFc).moved hW.alike, by rw [hU]; exact ((hT_TENS.kept (fun q h1 h2 => hS.2.1 q h1 h2)).narrow hFc).moved hW.alike⟩)⟩ rfl rfl hl.1 rfl (lv_room (Nat.le_of_ble_eq_true rfl)) dX1_putDigits_15 ⟨Nat.zero_le _, Nat.zero_le _⟩) hS (fun q _ h => hFc q h) hFc (fun r9 u9 t H1 locs ht hvm hw hB hz1 hk1 hS => ?_)
      obtain ⟨hP1, hK1, hD1⟩ := hB
      rw [ht] at hP1
      subst r9
      obtain ⟨hP, hD⟩ := va_join (wr := [(a_this, .inr (1, [.ref a_text, .int v_length, .int v_digitsStart, .int v_digitsEnd, .int v_unitsAt, .int v_tenPower, .ref a_number, .ref a_rounded, .ref a_lowEdge, .ref a_highEdge])), (a_text, .inl (c_text, 400, .inl v_text))]) (w1 := (wd_X0_digit a_rounded a_rounded_limbs c_rounded_limbs v_rounded_first v_rounded_last v_rounded_limbs)) hP hD [2, 3] [0, 1] rfl rfl (by decide) (by decide) hk1 hFc hP1 hD1
      generalize H1 = H at hP hS ⊢
      have hP : va_P (dC, dI) vwCl (wd_X1_putDigits a_this a_text a_number a_rounded a_rounded_limbs a_lowEdge a_highEdge c_text c_rounded_limbs v_length v_digitsStart v_digitsEnd v_unitsAt v_tenPower v_text v_rounded_first v_rounded_last v_rounded_limbs) H := hP.sub [0, 1, 2, 3] rfl
      have hD : va_D A (wd_X1_putDigits a_this a_text a_number a_rounded a_rounded_limbs a_lowEdge a_highEdge c_text c_rounded_limbs v_length v_digitsStart v_digitsEnd v_unitsAt v_tenPower v_text v_rounded_first v_rounded_last v_rounded_limbs) := hD.sub [0, 1, 2, 3] (by decide) rfl
      clear hP1 hK1 hD1 hPc hDc hKc hFc hk1 hz1 ht hvm
      refine lv_iadd hx hb dX1_putDigits_18 ?_
      obtain ⟨⟨v_length_19, v_text_19⟩, hc, h⟩ := bd h
      dsimp only at h
      have hPc := hP.sub (ws' := (wd_X1_put a_this a_text a_number a_rounded a_lowEdge a_highEdge c_text v_length v_digitsStart v_digitsEnd v_unitsAt v_tenPower v_text)) [0, 1] rfl
      have hDc := hD.sub (ws' := (wd_X1_put a_this a_text a_number a_rounded a_lowEdge a_highEdge c_text v_length v_digitsStart v_digitsEnd v_unitsAt v_tenPower v_text)) [0, 1] (by decide) rfl
      have hKc := hK.sub (tys' := [(c_text, .int)]) [0] rfl
      have hFc := va_free (wc := (wd_X1_put a_this a_text a_number a_rounded a_lowEdge a_highEdge c_text v_length v_digitsStart v_digitsEnd v_unitsAt v_tenPower v_text)) hD hS hA [0, 1] rfl
      refine va_callv (va_runV (As := [.int (48 + r15)]) (rest := []) ⟨hx, hb, hml, hown, hws⟩ (c_X1_put l dC dI  a_this a_text a_number a_rounded a_lowEdge a_highEdge c_text (Array.size H) (48 + r15) v_length v_digitsStart v_digitsEnd v_unitsAt v_tenPower v_text v_length_19 v_text_19 hc) (cwV 1 hws (gV ww_64 ww_65 ww_66 ww_2 ww_67) rfl rfl rfl (by decide +kernel) ⟨Nat.le_of_ble_eq_true rfl, Nat.le_of_ble_eq_true rfl⟩) ⟨(fun a U g mk q => by obtain ⟨q0, q1, qP, qK, qD⟩ := q; exact ⟨q0, q1, qP, va_K.moved (u := U) (U := U.calling g mk a) (Vm.Alike.refl U.vm) qK, qD⟩), va_recv hKc hPc (ci := 1) (q0 := 0) rfl rfl, (fun U hU hW => ⟨rfl, by rw [hU], by rw [hU]; exact hPc, va_K.moved hW.alike hKc, hDc.weaken (fun _ _ _ _ => trivial)⟩)⟩ rfl rfl hl.1 rfl (lv_room (Nat.le_of_ble_eq_true rfl)) dX1_putDigits_19 ⟨Nat.zero_le _, Nat.zero_le _⟩) hS (fun q _ h => hFc q h) hFc (fun u9 t H1 locs ht hvm hw hB hz1 hk1 hS => ?_)
      obtain ⟨hP1, hK1, hD1⟩ := hB
      rw [ht] at hP1
      obtain ⟨hP, hD⟩ := va_join (wr := [(a_rounded, .inr (0, [.ref a_rounded_limbs, .int v_rounded_first, .int v_rounded_last])), (a_rounded_limbs, .inl (c_rounded_limbs, 160, .inr (.inl v_rounded_limbs)))]) (w1 := (wd_X1_put a_this a_text a_number a_rounded a_lowEdge a_highEdge c_text v_length_19 v_digitsStart v_digitsEnd v_unitsAt v_tenPower v_text_19)) hP hD [0, 1] [2, 3] rfl rfl (by decide) (by decide) hk1 hFc hP1 hD1
      generalize H1 = H at hP hS ⊢
      have hP : va_P (dC, dI) vwCl (wd_X1_putDigits a_this a_text a_number a_rounded a_rounded_limbs a_lowEdge a_highEdge c_text c_rounded_limbs v_length_19 v_digitsStart v_digitsEnd v_unitsAt v_tenPower v_text_19 v_rounded_first v_rounded_last v_rounded_limbs) H := hP.sub [2, 3, 0, 1] rfl
      have hD : va_D A (wd_X1_putDigits a_this a_text a_number a_rounded a_rounded_limbs a_lowEdge a_highEdge c_text c_rounded_limbs v_length_19 v_digitsStart v_digitsEnd v_unitsAt v_tenPower v_text_19 v_rounded_first v_rounded_last v_rounded_limbs) := hD.sub [2, 3, 0, 1] (by decide) rfl
      clear hP1 hK1 hD1 hPc hDc hKc hFc hk1 hz1 ht hvm
      refine lv_iinc (v := (l3 + (-1))) (lv' := [(3, .int (l3 + (-1))), (0, .ref a_this), (2, .int l2)]) hx hb dX1_putDigits_22 hl (k := 2) rfl rfl (by decide) rfl (fun ls hl => ?_)
      refine lv_goto (tgt := 2) hx hb dX1_putDigits_25 (by decide) ?_
      exact ih l2 (l3 + (-1)) v_length_19 v_digitsStart v_digitsEnd v_unitsAt v_tenPower v_text_19 v_rounded_first v_rounded_last v_rounded_limbs o_length o_text h H locs hK hP hD hS ls (lv_sub hl [1, 2, 0] rfl)
set_option maxHeartbeats 4000000 in
set_option maxRecDepth 100000 in
theorem c_X1_putDigits (l : Launch) (dC : Nat → ClassId) (dI : Nat → Nat → Nat) (a_TENS : Nat) (a_this a_text a_number a_rounded a_rounded_limbs a_lowEdge a_highEdge : Nat) (c_text c_rounded_limbs : ClassId) (sz : Nat) (l1 : Int32) (l2 : Int32) (v_length : Int32) (v_digitsStart : Int32) (v_digitsEnd : Int32) (v_unitsAt : Int32) (v_tenPower : Int32) (v_text : Nat → Int32) (v_rounded_first : Int32) (v_rounded_last : Int32) (v_rounded_limbs : Nat → Int64) (o_length : Int32) (o_text : Nat → Int32) (h : f_X1_putDigits l1 l2 v_length v_text v_rounded_limbs = some (o_length, o_text)) : Met l yX1_putDigits w_X1_putDigits ({ frames := 3, cells := 0, slots := 0, locals := 63 } : Room) (va_Pc [.ref a_this, .int l1, .int l2] (fun U => U.heap.size = sz ∧ va_P (dC, dI) vwCl (wd_X1_putDigits a_this a_text a_number a_rounded a_rounded_limbs a_lowEdge a_highEdge c_text c_rounded_limbs v_length v_digitsStart v_digitsEnd v_unitsAt v_tenPower v_text v_rounded_first v_rounded_last v_rounded_limbs) U.heap ∧ va_K (dC, dI) vwCl [(c_text, .int), (c_rounded_limbs, .long)] U ∧ va_D (fun _ => True) (wd_X1_putDigits a_this a_text a_number a_rounded a_rounded_limbs a_lowEdge a_highEdge c_text c_rounded_limbs v_length v_digitsStart v_digitsEnd v_unitsAt v_tenPower v_text v_rounded_first v_rounded_last v_rounded_limbs) ∧ va_Z "DoubleText$Decimal" "TENS" "[J" (.ref a_TENS) (va_A (wd_X1_putDigits a_this a_text a_number a_rounded a_rounded_limbs a_lowEdge a_highEdge c_text c_rounded_limbs v_length v_digitsStart v_digitsEnd v_unitsAt v_tenPower v_text v_rounded_first v_rounded_last v_rounded_limbs) sz) U U.heap ∧ va_T .long a_TENS 9 TENS_v (va_A (wd_X1_putDigits a_this a_text a_number a_rounded a_rounded_limbs a_lowEdge a_highEdge c_text c_rounded_limbs v_length v_digitsStart v_digitsEnd v_unitsAt v_tenPower v_text v_rounded_first v_rounded_last v_rounded_limbs) sz) U U.heap)) (va_Qv (fun (_ : Unit) => True) (fun (_ : Unit) t => va_P (dC, dI) vwCl (wd_X1_putDigits a_this a_text a_number a_rounded a_rounded_limbs a_lowEdge a_highEdge c_text c_rounded_limbs o_length v_digitsStart v_digitsEnd v_unitsAt v_tenPower o_text v_rounded_first v_rounded_last v_rounded_limbs) t.heap ∧ va_K (dC, dI) vwCl [(c_text, .int), (c_rounded_limbs, .long)] t ∧ va_D (va_A (wd_X1_putDigits a_this a_text a_number a_rounded a_rounded_limbs a_lowEdge a_highEdge c_text c_rounded_limbs v_length v_digitsStart v_digitsEnd v_unitsAt v_tenPower v_text v_rounded_first v_rounded_last v_rounded_limbs) sz) (wd_X1_putDigits a_this a_text a_number a_rounded a_rounded_limbs a_lowEdge a_highEdge c_text c_rounded_limbs o_length v_digitsStart v_digitsEnd v_unitsAt v_tenPower o_text v_rounded_first v_rounded_last v_rounded_limbs)) (va_A (wd_X1_putDigits a_this a_text a_number a_rounded a_rounded_limbs a_lowEdge a_highEdge c_text c_rounded_limbs v_length v_digitsStart v_digitsEnd v_unitsAt v_tenPower v_text v_rounded_first v_rounded_last v_rounded_limbs) sz)) 0 0 (va_A (wd_X1_putDigits a_this a_text a_number a_rounded a_rounded_limbs a_lowEdge a_highEdge c_text c_rounded_limbs v_length v_digitsStart v_digitsEnd v_unitsAt v_tenPower v_text v_rounded_first v_rounded_last v_rounded_limbs) sz) := by
  refine Met.ofW (cc := cX1_putDigits) (maxL := 4) (ret := none) (by decide) rfl ?_
  intro p e s m args below meth c s₁ B hml hv
  obtain ⟨rfl, hsz, hP, hK, hD0, hZ_TENS, hT_TENS⟩ := hv
  have hx := B.exec
  have hb := B.bytes
  have hr := B.returns
  have hws : ∀ w ∈ wsL_law, w.before _ s = true := fun w hw => atoms_spec (ws := w_X1_putDigits) B.pre w (List.mem_cons_of_mem _ hw)
  have hown : s.vm.findClass RX1 = some m.cls := findClass_of_methodNamed B.named
  have hlocks := B.notSynchronized
  subst hsz
  have hD := hD0.self (sz := s.heap.size)
  generalize hAe : va_A (wd_X1_putDigits a_this a_text a_number a_rounded a_rounded_limbs a_lowEdge a_highEdge c_text c_rounded_limbs v_length v_digitsStart v_digitsEnd v_unitsAt v_tenPower v_text v_rounded_first v_rounded_last v_rounded_limbs) s.heap.size = A at hD hZ_TENS hT_TENS ⊢
  have hA : ∀ q : Nat, s.heap.size ≤ q → A q := fun q h => by rw [← hAe]; exact Or.inr h
  have hS : va_S A s.heap s.heap [] := va_S.rf
  have hl := lv_entry ([.ref a_this, .int l1, .int l2]) (n := 4) (Nat.le_of_ble_eq_true rfl)
  rw [lg_entry_eq]
  generalize (lg_sl ([.ref a_this, .int l1, .int l2]) ++ List.replicate (4 - (lg_sl ([.ref a_this, .int l1, .int l2])).length) Slot.unset).toArray = ls at hl ⊢
  have hl : lv_has ls 4 [(0, .ref a_this), (1, .int l1), (2, .int l2)] := hl
  unfold f_X1_putDigits at h
  refine lv_iload_n hx hb dX1_putDigits_0 rfl (lv_at hl 1 rfl) ?_
  refine lv_istore_n (lv' := [(3, .int l1), (0, .ref a_this), (1, .int l1), (2, .int l2)]) hx hb dX1_putDigits_1 rfl hl (by decide) rfl (fun ls hl => ?_)
  exact w_X1_putDigits_2 l a_this a_text a_number a_rounded a_rounded_limbs a_lowEdge a_highEdge c_text c_rounded_limbs hx hb hr hml hown hws hlocks hA hZ_TENS hT_TENS FU l2 l1 v_length v_digitsStart v_digitsEnd v_unitsAt v_tenPower v_text v_rounded_first v_rounded_last v_rounded_limbs o_length o_text h s.heap [] hK hP hD hS ls (lv_sub hl [1, 3, 0] rfl)
