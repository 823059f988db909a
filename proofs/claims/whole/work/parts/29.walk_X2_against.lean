set_option maxHeartbeats 4000000 in
set_option maxRecDepth 100000 in
theorem w_X2_against_84 (l : Launch) {p : Program} {e : Env} {s : State} {m : MethodId} {args : Array Value} {below : List Frame} {meth : Method} {c : Code} {A : Nat → Prop} {dC : Nat → ClassId} {dI : Nat → Nat → Nat} (a_this a_text a_d a_n a_power a_limbs : Nat) (c_d c_n c_power : ClassId) (hx : p.tables.exec = Jvm.exec) (hb : c.code = cX2_against) (hr : meth.sig.returnType = (some .int)) (hml : c.maxLocals = 4) (hown : s.vm.findClass RX2 = some m.cls) (hws : ∀ w ∈ wsL_law, w.before args s = true) (hlocks : meth.locks = false) (hA : ∀ q : Nat, s.heap.size ≤ q → A q) : ∀ (n : Nat) (l1 : Int32) (l2 : Int32) (l3 : Int32) (v_thrown : Int32) (v_size : Int32) (v_used : Int32) (v_at : Int32) (v_d : Nat → Int32) (v_n : Nat → Int32) (v_power : Nat → Int32) (o_r : Int32), f_X2_against_L84 n l1 l2 l3 v_d v_n v_power = some o_r → ∀ (H : Heap) (locs : List Loc), va_K (dC, dI) vwCl [(c_d, .int), (c_n, .int), (c_power, .int)] s → va_P (dC, dI) vwCl (wd_X2_against a_this a_text a_d a_n a_power a_limbs c_d c_n c_power v_thrown v_size v_used v_at v_d v_n v_power) H → va_D A (wd_X2_against a_this a_text a_d a_n a_power a_limbs c_d c_n c_power v_thrown v_size v_used v_at v_d v_n v_power) → va_S A s.heap H locs → ∀ (ls : Array Slot), lv_has ls 4 [(0, .ref a_this), (1, .int l1), (2, .int l2), (3, .int l3)] → W p l e (headSpec (w_X2_against) ({ frames := 1, cells := 0, slots := 0, locals := 22 } : Room)).room s m args below meth c H locs 0 0 (MQ below (va_Qi (fun r9 (_ : Unit) => r9 = o_r) (fun (_ : Unit) t => va_P (dC, dI) vwCl (wd_X2_against a_this a_text a_d a_n a_power a_limbs c_d c_n c_power v_thrown v_size v_used v_at v_d v_n v_power) t.heap ∧ va_K (dC, dI) vwCl [(c_d, .int), (c_n, .int), (c_power, .int)] t ∧ va_D A (wd_X2_against a_this a_text a_d a_n a_power a_limbs c_d c_n c_power v_thrown v_size v_used v_at v_d v_n v_power)) A) args s 0 0 A) (F0 m 84 ls []) := by
  intro n
  induction n with
  | zero =>
    intro l1 l2 l3 v_thrown v_size v_used v_at v_d v_n v_power o_r h H locs hK hP hD hS ls hl
    exact absurd h (by simp [f_X2_against_L84])
  | succ n ih =>
    intro l1 l2 l3 v_thrown v_size v_used v_at v_d v_n v_power o_r h H locs hK hP hD hS ls hl
    unfold f_X2_against_L84 at h
    refine lv_iload_n hx hb dX2_against_84 rfl (lv_at hl 3 rfl) ?_
    refine lv_aload_n hx hb dX2_against_85 rfl (lv_at hl 0 rfl) ?_
    refine va_get (D := (dC, dI)) (ci := 2) (v := .ref a_n) (C := RX2) (T := TX2) (N := 9) hx hb hws inlX2 hown hK hP 0 rfl rfl 4 (by decide) (hws _ ww_36) (fun _ h9 => h9) rfl dX2_against_86 ?_
    refine lv_iload_n hx hb dX2_against_89 rfl (lv_at hl 1 rfl) ?_
    obtain ⟨hi, h⟩ := gd h
    refine va_iald hx hb hK hP 2 1 rfl rfl hi dX2_against_90 ?_
    refine lv_icmp_lt (tgt := 104) hx hb dX2_against_91 (by decide) (fun c9 => ?_) (fun c9 => ?_)
    · have h := (if_pos c9).symm.trans h
      refine lv_aload_n hx hb dX2_against_104 rfl (lv_at hl 0 rfl) ?_
      refine lv_iload_n hx hb dX2_against_105 rfl (lv_at hl 1 rfl) ?_
      refine lv_iload_n hx hb dX2_against_106 rfl (lv_at hl 3 rfl) ?_
      obtain ⟨r107, hc, h⟩ := bd h
      have hPc := hP.sub (ws' := (wd_X2_digit a_this a_text a_d a_n a_power a_limbs c_d c_n v_thrown v_size v_used v_at v_d v_n)) [0, 1, 2] rfl
      have hDc := hD.sub (ws' := (wd_X2_digit a_this a_text a_d a_n a_power a_limbs c_d c_n v_thrown v_size v_used v_at v_d v_n)) [0, 1, 2] (by decide) rfl
      have hKc := hK.sub (tys' := [(c_d, .int), (c_n, .int)]) [0, 1] rfl
      have hFc := va_free (wc := (wd_X2_digit a_this a_text a_d a_n a_power a_limbs c_d c_n v_thrown v_size v_used v_at v_d v_n)) hD hS hA [0, 1, 2] rfl
      refine va_calli (va_runV (As := [.int l1, .int l3]) (rest := []) ⟨hx, hb, hml, hown, hws⟩ (c_X2_digit l dC dI  a_this a_text a_d a_n a_power a_limbs c_d c_n (Array.size H) l1 l3 v_thrown v_size v_used v_at v_d v_n r107 hc) (cwV 2 hws (gV ww_281 ww_282 ww_283 ww_5 ww_284) rfl rfl rfl (by decide +kernel) ⟨Nat.le_of_ble_eq_true rfl, Nat.le_of_ble_eq_true rfl⟩) ⟨(fun a U g mk q => by obtain ⟨q0, q1, qP, qK, qD⟩ := q; exact ⟨q0, q1, qP, va_K.moved (u := U) (U := U.calling g mk a) (Vm.Alike.refl U.vm) qK, qD⟩), va_recv hKc hPc (ci := 2) (q0 := 0) rfl rfl, (fun U hU hW => ⟨rfl, by rw [hU], by rw [hU]; exact hPc, va_K.moved hW.alike hKc, hDc.weaken (fun _ _ _ _ => trivial)⟩)⟩ rfl rfl hl.1 rfl (lv_room (Nat.le_of_ble_eq_true rfl)) dX2_against_107 ⟨Nat.zero_le _, Nat.zero_le _⟩) hS (fun q _ h => hFc q h) hFc (fun r9 u9 t H1 locs ht hvm hw hB hz1 hk1 hS => ?_)
      obtain ⟨hP1, hK1, hD1⟩ := hB
      rw [ht] at hP1
      subst r9
      obtain ⟨hP, hD⟩ := va_join (wr := [(a_power, .inl (c_power, 7000, .inl v_power))]) (w1 := (wd_X2_digit a_this a_text a_d a_n a_power a_limbs c_d c_n v_thrown v_size v_used v_at v_d v_n)) hP hD [0, 1, 2] [3] rfl rfl (by decide) (by decide) hk1 hFc hP1 hD1
      generalize H1 = H at hP hS ⊢
      have hP : va_P (dC, dI) vwCl (wd_X2_against a_this a_text a_d a_n a_power a_limbs c_d c_n c_power v_thrown v_size v_used v_at v_d v_n v_power) H := hP.sub [1, 2, 3, 0] rfl
      have hD : va_D A (wd_X2_against a_this a_text a_d a_n a_power a_limbs c_d c_n c_power v_thrown v_size v_used v_at v_d v_n v_power) := hD.sub [1, 2, 3, 0] (by decide) rfl
      clear hP1 hK1 hD1 hPc hDc hKc hFc hk1 hz1 ht hvm
      refine lv_aload_n hx hb dX2_against_110 rfl (lv_at hl 0 rfl) ?_
      refine lv_iload_n hx hb dX2_against_111 rfl (lv_at hl 2 rfl) ?_
      refine lv_iload_n hx hb dX2_against_112 rfl (lv_at hl 3 rfl) ?_
      obtain ⟨r113, hc, h⟩ := bd h
      have hPc := hP.sub (ws' := (wd_X2_digit a_this a_text a_d a_n a_power a_limbs c_d c_n v_thrown v_size v_used v_at v_d v_n)) [0, 1, 2] rfl
      have hDc := hD.sub (ws' := (wd_X2_digit a_this a_text a_d a_n a_power a_limbs c_d c_n v_thrown v_size v_used v_at v_d v_n)) [0, 1, 2] (by decide) rfl
      have hKc := hK.sub (tys' := [(c_d, .int), (c_n, .int)]) [0, 1] rfl
      have hFc := va_free (wc := (wd_X2_digit a_this a_text a_d a_n a_power a_limbs c_d c_n v_thrown v_size v_used v_at v_d v_n)) hD hS hA [0, 1, 2] rfl
      refine va_calli (va_runV (As := [.int l2, .int l3]) (rest := [.int r107]) ⟨hx, hb, hml, hown, hws⟩ (c_X2_digit l dC dI  a_this a_text a_d a_n a_power a_limbs c_d c_n (Array.size H) l2 l3 v_thrown v_size v_used v_at v_d v_n r113 hc) (cwV 2 hws (gV ww_281 ww_282 ww_283 ww_5 ww_284) rfl rfl rfl (by decide +kernel) ⟨Nat.le_of_ble_eq_true rfl, Nat.le_of_ble_eq_true rfl⟩) ⟨(fun a U g mk q => by obtain ⟨q0, q1, qP, qK, qD⟩ := q; exact ⟨q0, q1, qP, va_K.moved (u := U) (U := U.calling g mk a) (Vm.Alike.refl U.vm) qK, qD⟩), va_recv hKc hPc (ci := 2) (q0 := 0) rfl rfl, (fun U hU hW => ⟨rfl, by rw [hU], by rw [hU]; exact hPc, va_K.moved hW.alike hKc, hDc.weaken (fun _ _ _ _ => trivial)⟩)⟩ rfl rfl hl.1 rfl (lv_room (Nat.le_of_ble_eq_true rfl)) dX2_against_113 ⟨Nat.zero_le _, Nat.zero_le _⟩) hS (fun q _ h => hFc q h) hFc (fun r9 u9 t H1 locs ht hvm hw hB hz1 hk1 hS => ?_)
      obtain ⟨hP1, hK1, hD1⟩ := hB
      rw [ht] at hP1
      subst r9
      obtain ⟨hP, hD⟩ := va_join (wr := [(a_power, .inl (c_power, 7000, .inl v_power))]) (w1 := (wd_X2_digit a_this a_text a_d a_n a_power a_limbs c_d c_n v_thrown v_size v_used v_at v_d v_n)) hP hD [0, 1, 2] [3] rfl rfl (by decide) (by decide) hk1 hFc hP1 hD1
      generalize H1 = H at hP hS ⊢
      have hP : va_P (dC, dI) vwCl (wd_X2_against a_this a_text a_d a_n a_power a_limbs c_d c_n c_power v_thrown v_size v_used v_at v_d v_n v_power) H := hP.sub [1, 2, 3, 0] rfl
      have hD : va_D A (wd_X2_against a_this a_text a_d a_n a_power a_limbs c_d c_n c_power v_thrown v_size v_used v_at v_d v_n v_power) := hD.sub [1, 2, 3, 0] (by decide) rfl
      clear hP1 hK1 hD1 hPc hDc hKc hFc hk1 hz1 ht hvm
      refine lv_icmp_eq (tgt := 140) hx hb dX2_against_116 (by decide) (fun c9 => ?_) (fun c9 => ?_)
      · have h := (if_pos c9).symm.trans h
        refine lv_iinc (v := (l3 + 1)) (lv' := [(3, .int (l3 + 1)), (0, .ref a_this), (1, .int l1), (2, .int l2)]) hx hb dX2_against_140 hl (k := 3) rfl rfl (by decide) rfl (fun ls hl => ?_)
        refine lv_goto (tgt := 84) hx hb dX2_against_143 (by decide) ?_
        exact ih l1 l2 (l3 + 1) v_thrown v_size v_used v_at v_d v_n v_power o_r h H locs hK hP hD hS ls (lv_sub hl [1, 2, 3, 0] rfl)
      · have h := (if_neg c9).symm.trans h
        refine lv_aload_n hx hb dX2_against_119 rfl (lv_at hl 0 rfl) ?_
        refine lv_iload_n hx hb dX2_against_120 rfl (lv_at hl 1 rfl) ?_
        refine lv_iload_n hx hb dX2_against_121 rfl (lv_at hl 3 rfl) ?_
        obtain ⟨r122, hc, h⟩ := bd h
        have hPc := hP.sub (ws' := (wd_X2_digit a_this a_text a_d a_n a_power a_limbs c_d c_n v_thrown v_size v_used v_at v_d v_n)) [0, 1, 2] rfl
        have hDc := hD.sub (ws' := (wd_X2_digit a_this a_text a_d a_n a_power a_limbs c_d c_n v_thrown v_size v_used v_at v_d v_n)) [0, 1, 2] (by decide) rfl
        have hKc := hK.sub (tys' := [(c_d, .int), (c_n, .int)]) [0, 1] rfl
        have hFc := va_free (wc := (wd_X2_digit a_this a_text a_d a_n a_power a_limbs c_d c_n v_thrown v_size v_used v_at v_d v_n)) hD hS hA [0, 1, 2] rfl
        refine va_calli (va_runV (As := [.int l1, .int l3]) (rest := []) ⟨hx, hb, hml, hown, hws⟩ (c_X2_digit l dC dI  a_this a_text a_d a_n a_power a_limbs c_d c_n (Array.size H) l1 l3 v_thrown v_size v_used v_at v_d v_n r122 hc) (cwV 2 hws (gV ww_281 ww_282 ww_283 ww_5 ww_284) rfl rfl rfl (by decide +kernel) ⟨Nat.le_of_ble_eq_true rfl, Nat.le_of_ble_eq_true rfl⟩) ⟨(fun a U g mk q => by obtain ⟨q0, q1, qP, qK, qD⟩ := q; exact ⟨q0, q1, qP, va_K.moved (u := U) (U := U.calling g mk a) (Vm.Alike.refl U.vm) qK, qD⟩), va_recv hKc hPc (ci := 2) (q0 := 0) rfl rfl, (fun U hU hW => ⟨rfl, by rw [hU], by rw [hU]; exact hPc, va_K.moved hW.alike hKc, hDc.weaken (fun _ _ _ _ => trivial)⟩)⟩ rfl rfl hl.1 rfl (lv_room (Nat.le_of_ble_eq_true rfl)) dX2_against_122 ⟨Nat.zero_le _, Nat.zero_le _⟩) hS (fun q _ h => hFc q h) hFc (fun r9 u9 t H1 locs ht hvm hw hB hz1 hk1 hS => ?_)
        obtain ⟨hP1, hK1, hD1⟩ := hB
        rw [ht] at hP1
        subst r9
        obtain ⟨hP, hD⟩ := va_join (wr := [(a_power, .inl (c_power, 7000, .inl v_power))]) (w1 := (wd_X2_digit a_this a_text a_d a_n a_power a_limbs c_d c_n v_thrown v_size v_used v_at v_d v_n)) hP hD [0, 1, 2] [3] rfl rfl (by decide) (by decide) hk1 hFc hP1 hD1
        generalize H1 = H at hP hS ⊢
        have hP : va_P (dC, dI) vwCl (wd_X2_against a_this a_text a_d a_n a_power a_limbs c_d c_n c_power v_thrown v_size v_used v_at v_d v_n v_power) H := hP.sub [1, 2, 3, 0] rfl
        have hD : va_D A (wd_X2_against a_this a_text a_d a_n a_power a_limbs c_d c_n c_power v_thrown v_size v_used v_at v_d v_n v_power) := hD.sub [1, 2, 3, 0] (by decide) rfl
        clear hP1 hK1 hD1 hPc hDc hKc hFc hk1 hz1 ht hvm
        refine lv_aload_n hx hb dX2_against_125 rfl (lv_at hl 0 rfl) ?_
        refine lv_iload_n hx hb dX2_against_126 rfl (lv_at hl 2 rfl) ?_
        refine lv_iload_n hx hb dX2_against_127 rfl (lv_at hl 3 rfl) ?_
        obtain ⟨r128, hc, h⟩ := bd h
        have hPc := hP.sub (ws' := (wd_X2_digit a_this a_text a_d a_n a_power a_limbs c_d c_n v_thrown v_size v_used v_at v_d v_n)) [0, 1, 2] rfl
        have hDc := hD.sub (ws' := (wd_X2_digit a_this a_text a_d a_n a_power a_limbs c_d c_n v_thrown v_size v_used v_at v_d v_n)) [0, 1, 2] (by decide) rfl
        have hKc := hK.sub (tys' := [(c_d, .int), (c_n, .int)]) [0, 1] rfl
        have hFc := va_free (wc := (wd_X2_digit a_this a_text a_d a_n a_power a_limbs c_d c_n v_thrown v_size v_used v_at v_d v_n)) hD hS hA [0, 1, 2] rfl
        refine va_calli (va_runV (As := [.int l2, .int l3]) (rest := [.int r122]) ⟨hx, hb, hml, hown, hws⟩ (c_X2_digit l dC dI  a_this a_text a_d a_n a_power a_limbs c_d c_n (Array.size H) l2 l3 v_thrown v_size v_used v_at v_d v_n r128 hc) (cwV 2 hws (gV ww_281 ww_282 ww_283 ww_5 ww_284) rfl rfl rfl (by decide +kernel) ⟨Nat.le_of_ble_eq_true rfl, Nat.le_of_ble_eq_true rfl⟩) ⟨(fun a U g mk q => by obtain ⟨q0, q1, qP, qK, qD⟩ := q; exact ⟨q0, q1, qP, va_K.moved (u := U) (U := U.calling g mk a) (Vm.Alike.refl U.vm) qK, qD⟩), va_recv hKc hPc (ci := 2) (q0 := 0) rfl rfl, (fun U hU hW => ⟨rfl, by rw [hU], by rw [hU]; exact hPc, va_K.moved hW.alike hKc, hDc.weaken (fun _ _ _ _ => trivial)⟩)⟩ rfl rfl hl.1 rfl (lv_room (Nat.le_of_ble_eq_true rfl)) dX2_against_128 ⟨Nat.zero_le _, Nat.zero_le _⟩) hS (fun q _ h => hFc q h) hFc (fun r9 u9 t H1 locs ht hvm hw hB hz1 hk1 hS => ?_)
        obtain ⟨hP1, hK1, hD1⟩ := hB
        rw [ht] at hP1
        subst r9
        obtain ⟨hP, hD⟩ := va_join (wr := [(a_power, .inl (c_power, 7000, .inl v_power))]) (w1 := (wd_X2_digit a_this a_text a_d a_n a_power a_limbs c_d c_n v_thrown v_size v_used v_at v_d v_n)) hP hD [0, 1, 2] [3] rfl rfl (by decide) (by decide) hk1 hFc hP1 hD1
        generalize H1 = H at hP hS ⊢
        have hP : va_P (dC, dI) vwCl (wd_X2_against a_this a_text a_d a_n a_power a_limbs c_d c_n c_power v_thrown v_size v_used v_at v_d v_n v_power) H := hP.sub [1, 2, 3, 0] rfl
        have hD : va_D A (wd_X2_against a_this a_text a_d a_n a_power a_limbs c_d c_n c_power v_thrown v_size v_used v_at v_d v_n v_power) := hD.sub [1, 2, 3, 0] (by decide) rfl
        clear hP1 hK1 hD1 hPc hDc hKc hFc hk1 hz1 ht hvm
        refine lv_icmp_ge (tgt := 138) hx hb dX2_against_131 (by decide) (fun c9 => ?_) (fun c9 => ?_)
        · have h := (if_pos c9).symm.trans h
          refine lv_iconst (v := 1) hx hb dX2_against_138 (by decide) ?_
          obtain h09 := rt1 h
          subst o_r
          exact W.iret hx hb hr (fun t ht hW => ⟨⟨_, (), rfl, rfl, by rw [ht]; exact hP, va_K.moved hW.alike hK, hD⟩, hS.F ht⟩) hS.2.2 dX2_against_139
        · have h := (if_neg c9).symm.trans h
          refine lv_iconst (v := (-1)) hx hb dX2_against_134 (by decide) ?_
          refine lv_goto (tgt := 139) hx hb dX2_against_135 (by decide) ?_
          obtain h09 := rt1 h
          subst o_r
          exact W.iret hx hb hr (fun t ht hW => ⟨⟨_, (), rfl, rfl, by rw [ht]; exact hP, va_K.moved hW.alike hK, hD⟩, hS.F ht⟩) hS.2.2 dX2_against_139
    · have h := (if_neg c9).symm.trans h
      refine lv_iload_n hx hb dX2_against_94 rfl (lv_at hl 3 rfl) ?_
      refine lv_aload_n hx hb dX2_against_95 rfl (lv_at hl 0 rfl) ?_
      refine va_get (D := (dC, dI)) (ci := 2) (v := .ref a_n) (C := RX2) (T := TX2) (N := 9) hx hb hws inlX2 hown hK hP 0 rfl rfl 4 (by decide) (hws _ ww_36) (fun _ h9 => h9) rfl dX2_against_96 ?_
      refine lv_iload_n hx hb dX2_against_99 rfl (lv_at hl 2 rfl) ?_
      obtain ⟨hi, h⟩ := gd h
      refine va_iald hx hb hK hP 2 1 rfl rfl hi dX2_against_100 ?_
      refine lv_icmp_ge (tgt := 146) hx hb dX2_against_101 (by decide) (fun c9 => ?_) (fun c9 => ?_)
      · have h := (if_pos c9).symm.trans h
        refine lv_iconst (v := 0) hx hb dX2_against_146 (by decide) ?_
        obtain h09 := rt1 h
        subst o_r
        exact W.iret hx hb hr (fun t ht hW => ⟨⟨_, (), rfl, rfl, by rw [ht]; exact hP, va_K.moved hW.alike hK, hD⟩, hS.F ht⟩) hS.2.2 dX2_against_147
      · have h := (if_neg c9).symm.trans h
        refine lv_aload_n hx hb dX2_against_104 rfl (lv_at hl 0 rfl) ?_
        refine lv_iload_n hx hb dX2_against_105 rfl (lv_at hl 1 rfl) ?_
        refine lv_iload_n hx hb dX2_against_106 rfl (lv_at hl 3 rfl) ?_
        obtain ⟨r107, hc, h⟩ := bd h
        have hPc := hP.sub (ws' := (wd_X2_digit a_this a_text a_d a_n a_power a_limbs c_d c_n v_thrown v_size v_used v_at v_d v_n)) [0, 1, 2] rfl
        have hDc := hD.sub (ws' := (wd_X2_digit a_this a_text a_d a_n a_power a_limbs c_d c_n v_thrown v_size v_used v_at v_d v_n)) [0, 1, 2] (by decide) rfl
        have hKc := hK.sub (tys' := [(c_d, .int), (c_n, .int)]) [0, 1] rfl
        have hFc := va_free (wc := (wd_X2_digit a_this a_text a_d a_n a_power a_limbs c_d c_n v_thrown v_size v_used v_at v_d v_n)) hD hS hA [0, 1, 2] rfl
        refine va_calli (va_runV (As := [.int l1, .int l3]) (rest := []) ⟨hx, hb, hml, hown, hws⟩ (c_X2_digit l dC dI  a_this a_text a_d a_n a_power a_limbs c_d c_n (Array.size H) l1 l3 v_thrown v_size v_used v_at v_d v_n r107 hc) (cwV 2 hws (gV ww_281 ww_282 ww_283 ww_5 ww_284) rfl rfl rfl (by decide +kernel) ⟨Nat.le_of_ble_eq_true rfl, Nat.le_of_ble_eq_true rfl⟩) ⟨(fun a U g mk q => by obtain ⟨q0, q1, qP, qK, qD⟩ := q; exact ⟨q0, q1, qP, va_K.moved (u := U) (U := U.calling g mk a) (Vm.Alike.refl U.vm) qK, qD⟩), va_recv hKc hPc (ci := 2) (q0 := 0) rfl rfl, (fun U hU hW => ⟨rfl, by rw [hU], by rw [hU]; exact hPc, va_K.moved hW.alike hKc, hDc.weaken (fun _ _ _ _ => trivial)⟩)⟩ rfl rfl hl.1 rfl (lv_room (Nat.le_of_ble_eq_true rfl)) dX2_against_107 ⟨Nat.zero_le _, Nat.zero_le _⟩) hS (fun q _ h => hFc q h) hFc (fun r9 u9 t H1 locs ht hvm hw hB hz1 hk1 hS => ?_)
        obtain ⟨hP1, hK1, hD1⟩ := hB
        rw [ht] at hP1
        subst r9
        obtain ⟨hP, hD⟩ := va_join (wr := [(a_power, .inl (c_power, 7000, .inl v_power))]) (w1 := (wd_X2_digit a_this a_text a_d a_n a_power a_limbs c_d c_n v_thrown v_size v_used v_at v_d v_n)) hP hD [0, 1, 2] [3] rfl rfl (by decide) (by decide) hk1 hFc hP1 hD1
        generalize H1 = H at hP hS ⊢
        have hP : va_P (dC, dI) vwCl (wd_X2_against a_this a_text a_d a_n a_power a_limbs c_d c_n c_power v_thrown v_size v_used v_at v_d v_n v_power) H := hP.sub [1, 2, 3, 0] rfl
        have hD : va_D A (wd_X2_against a_this a_text a_d a_n a_power a_limbs c_d c_n c_power v_thrown v_size v_used v_at v_d v_n v_power) := hD.sub [1, 2, 3, 0] (by decide) rfl
        clear hP1 hK1 hD1 hPc hDc hKc hFc hk1 hz1 ht hvm
        refine lv_aload_n hx hb dX2_against_110 rfl (lv_at hl 0 rfl) ?_
        refine lv_iload_n hx hb dX2_against_111 rfl (lv_at hl 2 rfl) ?_
        refine lv_iload_n hx hb dX2_against_112 rfl (lv_at hl 3 rfl) ?_
        obtain ⟨r113, hc, h⟩ := bd h
        have hPc := hP.sub (ws' := (wd_X2_digit a_this a_text a_d a_n a_power a_limbs c_d c_n v_thrown v_size v_used v_at v_d v_n)) [0, 1, 2] rfl
        have hDc := hD.sub (ws' := (wd_X2_digit a_this a_text a_d a_n a_power a_limbs c_d c_n v_thrown v_size v_used v_at v_d v_n)) [0, 1, 2] (by decide) rfl
        have hKc := hK.sub (tys' := [(c_d, .int), (c_n, .int)]) [0, 1] rfl
        have hFc := va_free (wc := (wd_X2_digit a_this a_text a_d a_n a_power a_limbs c_d c_n v_thrown v_size v_used v_at v_d v_n)) hD hS hA [0, 1, 2] rfl
        refine va_calli (va_runV (As := [.int l2, .int l3]) (rest := [.int r107]) ⟨hx, hb, hml, hown, hws⟩ (c_X2_digit l dC dI  a_this a_text a_d a_n a_power a_limbs c_d c_n (Array.size H) l2 l3 v_thrown v_size v_used v_at v_d v_n r113 hc) (cwV 2 hws (gV ww_281 ww_282 ww_283 ww_5 ww_284) rfl rfl rfl (by decide +kernel) ⟨Nat.le_of_ble_eq_true rfl, Nat.le_of_ble_eq_true rfl⟩) ⟨(fun a U g mk q => by obtain ⟨q0, q1, qP, qK, qD⟩ := q; exact ⟨q0, q1, qP, va_K.moved (u := U) (U := U.calling g mk a) (Vm.Alike.refl U.vm) qK, qD⟩), va_recv hKc hPc (ci := 2) (q0 := 0) rfl rfl, (fun U hU hW => ⟨rfl, by rw [hU], by rw [hU]; exact hPc, va_K.moved hW.alike hKc, hDc.weaken (fun _ _ _ _ => trivial)⟩)⟩ rfl rfl hl.1 rfl (lv_room (Nat.le_of_ble_eq_true rfl)) dX2_against_113 ⟨Nat.zero_le _, Nat.zero_le _⟩) hS (fun q _ h => hFc q h) hFc (fun r9 u9 t H1 locs ht hvm hw hB hz1 hk1 hS => ?_)
        obtain ⟨hP1, hK1, hD1⟩ := hB
        rw [ht] at hP1
        subst r9
        obtain ⟨hP, hD⟩ := va_join (wr := [(a_power, .inl (c_power, 7000, .inl v_power))]) (w1 := (wd_X2_digit a_this a_text a_d a_n a_power a_limbs c_d c_n v_thrown v_size v_used v_at v_d v_n)) hP hD [0, 1, 2] [3] rfl rfl (by decide) (by decide) hk1 hFc hP1 hD1
        generalize H1 = H at hP hS ⊢
        have hP : va_P (dC, dI) vwCl (wd_X2_against a_this a_text a_d a_n a_power a_limbs c_d c_n c_power v_thrown v_size v_used v_at v_d v_n v_power) H := hP.sub [1, 2, 3, 0] rfl
        have hD : va_D A (wd_X2_against a_this a_text a_d a_n a_power a_limbs c_d c_n c_power v_thrown v_size v_used v_at v_d v_n v_power) := hD.sub [1, 2, 3, 0] (by decide) rfl
        clear hP1 hK1 hD1 hPc hDc hKc hFc hk1 hz1 ht hvm
        refine lv_icmp_eq (tgt := 140) hx hb dX2_against_116 (by decide) (fun c9 => ?_) (fun c9 => ?_)
        · have h := (if_pos c9).symm.trans h
          refine lv_iinc (v := (l3 + 1)) (lv' := [(3, .int (l3 + 1)), (0, .ref a_this), (1, .int l1), (2, .int l2)]) hx hb dX2_against_140 hl (k := 3) rfl rfl (by decide) rfl (fun ls hl => ?_)
          refine lv_goto (tgt := 84) hx hb dX2_against_143 (by decide) ?_
          exact ih l1 l2 (l3 + 1) v_thrown v_size v_used v_at v_d v_n v_power o_r h H locs hK hP hD hS ls (lv_sub hl [1, 2, 3, 0] rfl)
        · have h := (if_neg c9).symm.trans h
          refine lv_aload_n hx hb dX2_against_119 rfl (lv_at hl 0 rfl) ?_
          refine lv_iload_n hx hb dX2_against_120 rfl (lv_at hl 1 rfl) ?_
          refine lv_iload_n hx hb dX2_against_121 rfl (lv_at hl 3 rfl) ?_
          obtain ⟨r122, hc, h⟩ := bd h
          have hPc := hP.sub (ws' := (wd_X2_digit a_this a_text a_d a_n a_power a_limbs c_d c_n v_thrown v_size v_used v_at v_d v_n)) [0, 1, 2] rfl
          have hDc := hD.sub (ws' := (wd_X2_digit a_this a_text a_d a_n a_power a_limbs c_d c_n v_thrown v_size v_used v_at v_d v_n)) [0, 1, 2] (by decide) rfl
          have hKc := hK.sub (tys' := [(c_d, .int), (c_n, .int)]) [0, 1] rfl
          have hFc := va_free (wc := (wd_X2_digit a_this a_text a_d a_n a_power a_limbs c_d c_n v_thrown v_size v_used v_at v_d v_n)) hD hS hA [0, 1, 2] rfl
          refine va_calli (va_runV (As := [.int l1, .int l3]) (rest := []) ⟨hx, hb, hml, hown, hws⟩ (c_X2_digit l dC dI  a_this a_text a_d a_n a_power a_limbs c_d c_n (Array.size H) l1 l3 v_thrown v_size v_used v_at v_d v_n r122 hc) (cwV 2 hws (gV ww_281 ww_282 ww_283 ww_5 ww_284) rfl rfl rfl (by decide +kernel) ⟨Nat.le_of_ble_eq_true rfl, Nat.le_of_ble_eq_true rfl⟩) ⟨(fun a U g mk q => by obtain ⟨q0, q1, qP, qK, qD⟩ := q; exact ⟨q0, q1, qP, va_K.moved (u := U) (U := U.calling g mk a) (Vm.Alike.refl U.vm) qK, qD⟩), va_recv hKc hPc (ci := 2) (q0 := 0) rfl rfl, (fun U hU hW => ⟨rfl, by rw [hU], by rw [hU]; exact hPc, va_K.moved hW.alike hKc, hDc.weaken (fun _ _ _ _ => trivial)⟩)⟩ rfl rfl hl.1 rfl (lv_room (Nat.le_of_ble_eq_true rfl)) dX2_against_122 ⟨Nat.zero_le _, Nat.zero_le _⟩) hS (fun q _ h => hFc q h) hFc (fun r9 u9 t H1 locs ht hvm hw hB hz1 hk1 hS => ?_)
          obtain ⟨hP1, hK1, hD1⟩ := hB
          rw [ht] at hP1
          subst r9
          obtain ⟨hP, hD⟩ := va_join (wr := [(a_power, .inl (c_power, 7000, .inl v_power))]) (w1 := (wd_X2_digit a_this a_text a_d a_n a_power a_limbs c_d c_n v_thrown v_size v_used v_at v_d v_n)) hP hD [0, 1, 2] [3] rfl rfl (by decide) (by decide) hk1 hFc hP1 hD1
          generalize H1 = H at hP hS ⊢
          have hP : va_P (dC, dI) vwCl (wd_X2_against a_this a_text a_d a_n a_power a_limbs c_d c_n c_power v_thrown v_size v_used v_at v_d v_n v_power) H := hP.sub [1, 2, 3, 0] rfl
          have hD : va_D A (wd_X2_against a_this a_text a_d a_n a_power a_limbs c_d c_n c_power v_thrown v_size v_used v_at v_d v_n v_power) := hD.sub [1, 2, 3, 0] (by decide) rfl
          clear hP1 hK1 hD1 hPc hDc hKc hFc hk1 hz1 ht hvm
          refine lv_aload_n hx hb dX2_against_125 rfl (lv_at hl 0 rfl) ?_
          refine lv_iload_n hx hb dX2_against_126 rfl (lv_at hl 2 rfl) ?_
          refine lv_iload_n hx hb dX2_against_127 rfl (lv_at hl 3 rfl) ?_
          obtain ⟨r128, hc, h⟩ := bd h
          have hPc := hP.sub (ws' := (wd_X2_digit a_this a_text a_d a_n a_power a_limbs c_d c_n v_thrown v_size v_used v_at v_d v_n)) [0, 1, 2] rfl
          have hDc := hD.sub (ws' := (wd_X2_digit a_this a_text a_d a_n a_power a_limbs c_d c_n v_thrown v_size v_used v_at v_d v_n)) [0, 1, 2] (by decide) rfl
          have hKc := hK.sub (tys' := [(c_d, .int), (c_n, .int)]) [0, 1] rfl
          have hFc := va_free (wc := (wd_X2_digit a_this a_text a_d a_n a_power a_limbs c_d c_n v_thrown v_size v_used v_at v_d v_n)) hD hS hA [0, 1, 2] rfl
          refine va_calli (va_runV (As := [.int l2, .int l3]) (rest := [.int r122]) ⟨hx, hb, hml, hown, hws⟩ (c_X2_digit l dC dI  a_this a_text a_d a_n a_power a_limbs c_d c_n (Array.size H) l2 l3 v_thrown v_size v_used v_at v_d v_n r128 hc) (cwV 2 hws (gV ww_281 ww_282 ww_283 ww_5 ww_284) rfl rfl rfl (by decide +kernel) ⟨Nat.le_of_ble_eq_true rfl, Nat.le_of_ble_eq_true rfl⟩) ⟨(fun a U g mk q => by obtain ⟨q0, q1, qP, qK, qD⟩ := q; exact ⟨q0, q1, qP, va_K.moved (u := U) (U := U.calling g mk a) (Vm.Alike.refl U.vm) qK, qD⟩), va_recv hKc hPc (ci := 2) (q0 := 0) rfl rfl, (fun U hU hW => ⟨rfl, by rw [hU], by rw [hU]; exact hPc, va_K.moved hW.alike hKc, hDc.weaken (fun _ _ _ _ => trivial)⟩)⟩ rfl rfl hl.1 rfl (lv_room (Nat.le_of_ble_eq_true rfl)) dX2_against_128 ⟨Nat.zero_le _, Nat.zero_le _⟩) hS (fun q _ h => hFc q h) hFc (fun r9 u9 t H1 locs ht hvm hw hB hz1 hk1 hS => ?_)
          obtain ⟨hP1, hK1, hD1⟩ := hB
          rw [ht] at hP1
          subst r9
          obtain ⟨hP, hD⟩ := va_join (wr := [(a_power, .inl (c_power, 7000, .inl v_power))]) (w1 := (wd_X2_digit a_this a_text a_d a_n a_power a_limbs c_d c_n v_thrown v_size v_used v_at v_d v_n)) hP hD [0, 1, 2] [3] rfl rfl (by decide) (by decide) hk1 hFc hP1 hD1
          generalize H1 = H at hP hS ⊢
          have hP : va_P (dC, dI) vwCl (wd_X2_against a_this a_text a_d a_n a_power a_limbs c_d c_n c_power v_thrown v_size v_used v_at v_d v_n v_power) H := hP.sub [1, 2, 3, 0] rfl
          have hD : va_D A (wd_X2_against a_this a_text a_d a_n a_power a_limbs c_d c_n c_power v_thrown v_size v_used v_at v_d v_n v_power) := hD.sub [1, 2, 3, 0] (by decide) rfl
          clear hP1 hK1 hD1 hPc hDc hKc hFc hk1 hz1 ht hvm
          refine lv_icmp_ge (tgt := 138) hx hb dX2_against_131 (by decide) (fun c9 => ?_) (fun c9 => ?_)
          · have h := (if_pos c9).symm.trans h
            refine lv_iconst (v := 1) hx hb dX2_against_138 (by decide) ?_
            obtain h09 := rt1 h
            subst o_r
            exact W.iret hx hb hr (fun t ht hW => ⟨⟨_, (), rfl, rfl, by rw [ht]; exact hP, va_K.moved hW.alike hK, hD⟩, hS.F ht⟩) hS.2.2 dX2_against_139
          · have h := (if_neg c9).symm.trans h
            refine lv_iconst (v := (-1)) hx hb dX2_against_134 (by decide) ?_
            refine lv_goto (tgt := 139) hx hb dX2_against_135 (by decide) ?_
            obtain h09 := rt1 h
            subst o_r
            exact W.iret hx hb hr (fun t ht hW => ⟨⟨_, (), rfl, rfl, by rw [ht]; exact hP, va_K.moved hW.alike hK, hD⟩, hS.F ht⟩) hS.2.2 dX2_against_139
set_option maxHeartbeats 4000000 in
set_option maxRecDepth 100000 in
theorem w_X2_against_18 (l : Launch) {p : Program} {e : Env} {s : State} {m : MethodId} {args : Array Value} {below : List Frame} {meth : Method} {c : Code} {A : Nat → Prop} {dC : Nat → ClassId} {dI : Nat → Nat → Nat} (a_this a_text a_d a_n a_power a_limbs : Nat) (c_d c_n c_power : ClassId) (hx : p.tables.exec = Jvm.exec) (hb : c.code = cX2_against) (hr : meth.sig.returnType = (some .int)) (hml : c.maxLocals = 4) (hown : s.vm.findClass RX2 = some m.cls) (hws : ∀ w ∈ wsL_law, w.before args s = true) (hlocks : meth.locks = false) (hA : ∀ q : Nat, s.heap.size ≤ q → A q) : ∀ (l1 : Int32) (l2 : Int32) (v_thrown : Int32) (v_size : Int32) (v_used : Int32) (v_at : Int32) (v_d : Nat → Int32) (v_n : Nat → Int32) (v_power : Nat → Int32) (o_r : Int32), f_X2_against_b18 l1 l2 v_d v_n v_power = some o_r → ∀ (H : Heap) (locs : List Loc), va_K (dC, dI) vwCl [(c_d, .int), (c_n, .int), (c_power, .int)] s → va_P (dC, dI) vwCl (wd_X2_against a_this a_text a_d a_n a_power a_limbs c_d c_n c_power v_thrown v_size v_used v_at v_d v_n v_power) H → va_D A (wd_X2_against a_this a_text a_d a_n a_power a_limbs c_d c_n c_power v_thrown v_size v_used v_at v_d v_n v_power) → va_S A s.heap H locs → ∀ (ls : Array Slot), lv_has ls 4 [(0, .ref a_this), (1, .int l1), (2, .int l2)] → W p l e (headSpec (w_X2_against) ({ frames := 1, cells := 0, slots := 0, locals := 22 } : Room)).room s m args below meth c H locs 0 0 (MQ below (va_Qi (fun r9 (_ : Unit) => r9 = o_r) (fun (_ : Unit) t => va_P (dC, dI) vwCl (wd_X2_against a_this a_text a_d a_n a_power a_limbs c_d c_n c_power v_thrown v_size v_used v_at v_d v_n v_power) t.heap ∧ va_K (dC, dI) vwCl [(c_d, .int), (c_n, .int), (c_power, .int)] t ∧ va_D A (wd_X2_against a_this a_text a_d a_n a_power a_limbs c_d c_n c_power v_thrown v_size v_used v_at v_d v_n v_power)) A) args s 0 0 A) (F0 m 18 ls []) := by
  intro l1 l2 v_thrown v_size v_used v_at v_d v_n v_power o_r h H locs hK hP hD hS ls hl
  unfold f_X2_against_b18 at h
  refine lv_aload_n hx hb dX2_against_18 rfl (lv_at hl 0 rfl) ?_
  refine va_get (D := (dC, dI)) (ci := 2) (v := .ref a_n) (C := RX2) (T := TX2) (N := 9) hx hb hws inlX2 hown hK hP 0 rfl rfl 4 (by decide) (hws _ ww_36) (fun _ h9 => h9) rfl dX2_against_19 ?_
  refine lv_iload_n hx hb dX2_against_22 rfl (lv_at hl 1 rfl) ?_
  obtain ⟨hi, h⟩ := gd h
  refine va_iald hx hb hK hP 2 1 rfl rfl hi dX2_against_23 ?_
  refine lv_if_ne (tgt := 44) hx hb dX2_against_24 (by decide) (fun c9 => ?_) (fun c9 => ?_)
  · have h := (if_neg c9).symm.trans h
    refine lv_iconst (v := 1) hx hb dX2_against_44 (by decide) ?_
    obtain h09 := rt1 h
    subst o_r
    exact W.iret hx hb hr (fun t ht hW => ⟨⟨_, (), rfl, rfl, by rw [ht]; exact hP, va_K.moved hW.alike hK, hD⟩, hS.F ht⟩) hS.2.2 dX2_against_45
  · have h := (if_pos c9).symm.trans h
    refine lv_aload_n hx hb dX2_against_27 rfl (lv_at hl 0 rfl) ?_
    refine va_get (D := (dC, dI)) (ci := 2) (v := .ref a_n) (C := RX2) (T := TX2) (N := 9) hx hb hws inlX2 hown hK hP 0 rfl rfl 4 (by decide) (hws _ ww_36) (fun _ h9 => h9) rfl dX2_against_28 ?_
    refine lv_iload_n hx hb dX2_against_31 rfl (lv_at hl 2 rfl) ?_
    obtain ⟨hi, h⟩ := gd h
    refine va_iald hx hb hK hP 2 1 rfl rfl hi dX2_against_32 ?_
    refine lv_if_ne (tgt := 40) hx hb dX2_against_33 (by decide) (fun c9 => ?_) (fun c9 => ?_)
    · have h := (if_neg c9).symm.trans h
      refine lv_iconst (v := (-1)) hx hb dX2_against_40 (by decide) ?_
      refine lv_goto (tgt := 45) hx hb dX2_against_41 (by decide) ?_
      obtain h09 := rt1 h
      subst o_r
      exact W.iret hx hb hr (fun t ht hW => ⟨⟨_, (), rfl, rfl, by rw [ht]; exact hP, va_K.moved hW.alike hK, hD⟩, hS.F ht⟩) hS.2.2 dX2_against_45
    · have h := (if_pos c9).symm.trans h
      refine lv_iconst (v := 0) hx hb dX2_against_36 (by decide) ?_
      refine lv_goto (tgt := 45) hx hb dX2_against_37 (by decide) ?_
      obtain h09 := rt1 h
      subst o_r
      exact W.iret hx hb hr (fun t ht hW => ⟨⟨_, (), rfl, rfl, by rw [ht]; exact hP, va_K.moved hW.alike hK, hD⟩, hS.F ht⟩) hS.2.2 dX2_against_45
set_option maxHeartbeats 4000000 in
set_option maxRecDepth 100000 in
theorem c_X2_against (l : Launch) (dC : Nat → ClassId) (dI : Nat → Nat → Nat)  (a_this a_text a_d a_n a_power a_limbs : Nat) (c_d c_n c_power : ClassId) (sz : Nat) (l1 : Int32) (l2 : Int32) (v_thrown : Int32) (v_size : Int32) (v_used : Int32) (v_at : Int32) (v_d : Nat → Int32) (v_n : Nat → Int32) (v_power : Nat → Int32) (o_r : Int32) (h : f_X2_against l1 l2 v_d v_n v_power = some o_r) : Met l yX2_against w_X2_against ({ frames := 1, cells := 0, slots := 0, locals := 22 } : Room) (va_Pc [.ref a_this, .int l1, .int l2] (fun U => U.heap.size = sz ∧ va_P (dC, dI) vwCl (wd_X2_against a_this a_text a_d a_n a_power a_limbs c_d c_n c_power v_thrown v_size v_used v_at v_d v_n v_power) U.heap ∧ va_K (dC, dI) vwCl [(c_d, .int), (c_n, .int), (c_power, .int)] U ∧ va_D (fun _ => True) (wd_X2_against a_this a_text a_d a_n a_power a_limbs c_d c_n c_power v_thrown v_size v_used v_at v_d v_n v_power))) (va_Qi (fun r9 (_ : Unit) => r9 = o_r) (fun (_ : Unit) t => va_P (dC, dI) vwCl (wd_X2_against a_this a_text a_d a_n a_power a_limbs c_d c_n c_power v_thrown v_size v_used v_at v_d v_n v_power) t.heap ∧ va_K (dC, dI) vwCl [(c_d, .int), (c_n, .int), (c_power, .int)] t ∧ va_D (va_A (wd_X2_against a_this a_text a_d a_n a_power a_limbs c_d c_n c_power v_thrown v_size v_used v_at v_d v_n v_power) sz) (wd_X2_against a_this a_text a_d a_n a_power a_limbs c_d c_n c_power v_thrown v_size v_used v_at v_d v_n v_power)) (va_A (wd_X2_against a_this a_text a_d a_n a_power a_limbs c_d c_n c_power v_thrown v_size v_used v_at v_d v_n v_power) sz)) 0 0 (va_A (wd_X2_against a_this a_text a_d a_n a_power a_limbs c_d c_n c_power v_thrown v_size v_used v_at v_d v_n v_power) sz) := by
  refine Met.ofW (cc := cX2_against) (maxL := 4) (ret := (some .int)) (by decide) rfl ?_
  intro p e s m args below meth c s₁ B hml hv
  obtain ⟨rfl, hsz, hP, hK, hD0⟩ := hv
  have hx := B.exec
  have hb := B.bytes
  have hr := B.returns
  have hws : ∀ w ∈ wsL_law, w.before _ s = true := fun w hw => atoms_spec (ws := w_X2_against) B.pre w (List.mem_cons_of_mem _ hw)
  have hown : s.vm.findClass RX2 = some m.cls := findClass_of_methodNamed B.named
  have hlocks := B.notSynchronized
  subst hsz
  have hD := hD0.self (sz := s.heap.size)
  generalize hAe : va_A (wd_X2_against a_this a_text a_d a_n a_power a_limbs c_d c_n c_power v_thrown v_size v_used v_at v_d v_n v_power) s.heap.size = A at hD ⊢
  have hA : ∀ q : Nat, s.heap.size ≤ q → A q := fun q h => by rw [← hAe]; exact Or.inr h
  have hS : va_S A s.heap s.heap [] := va_S.rf
  have hl := lv_entry ([.ref a_this, .int l1, .int l2]) (n := 4) (Nat.le_of_ble_eq_true rfl)
  rw [lg_entry_eq]
  generalize (lg_sl ([.ref a_this, .int l1, .int l2]) ++ List.replicate (4 - (lg_sl ([.ref a_this, .int l1, .int l2])).length) Slot.unset).toArray = ls at hl ⊢
  have hl : lv_has ls 4 [(0, .ref a_this), (1, .int l1), (2, .int l2)] := hl
  unfold f_X2_against at h
  refine lv_aload_n hx hb dX2_against_0 rfl (lv_at hl 0 rfl) ?_
  refine va_get (D := (dC, dI)) (ci := 2) (v := .ref a_n) (C := RX2) (T := TX2) (N := 9) hx hb hws inlX2 hown hK hP 0 rfl rfl 4 (by decide) (hws _ ww_36) (fun _ h9 => h9) rfl dX2_against_1 ?_
  refine lv_iload_n hx hb dX2_against_4 rfl (lv_at hl 1 rfl) ?_
  obtain ⟨hi, h⟩ := gd h
  refine va_iald hx hb hK hP 2 1 rfl rfl hi dX2_against_5 ?_
  refine lv_if_eq (tgt := 18) hx hb dX2_against_6 (by decide) (fun c9 => ?_) (fun c9 => ?_)
  · have h := (if_pos c9).symm.trans h
    exact w_X2_against_18 l a_this a_text a_d a_n a_power a_limbs c_d c_n c_power hx hb hr hml hown hws hlocks hA l1 l2 v_thrown v_size v_used v_at v_d v_n v_power o_r h s.heap [] hK hP hD hS ls (lv_sub hl [0, 1, 2] rfl)
  · have h := (if_neg c9).symm.trans h
    refine lv_aload_n hx hb dX2_against_9 rfl (lv_at hl 0 rfl) ?_
    refine va_get (D := (dC, dI)) (ci := 2) (v := .ref a_n) (C := RX2) (T := TX2) (N := 9) hx hb hws inlX2 hown hK hP 0 rfl rfl 4 (by decide) (hws _ ww_36) (fun _ h9 => h9) rfl dX2_against_10 ?_
    refine lv_iload_n hx hb dX2_against_13 rfl (lv_at hl 2 rfl) ?_
    obtain ⟨hi, h⟩ := gd h
    refine va_iald hx hb hK hP 2 1 rfl rfl hi dX2_against_14 ?_
    refine lv_if_ne (tgt := 46) hx hb dX2_against_15 (by decide) (fun c9 => ?_) (fun c9 => ?_)
    · have h := (if_neg c9).symm.trans h
      refine lv_aload_n hx hb dX2_against_46 rfl (lv_at hl 0 rfl) ?_
      refine va_get (D := (dC, dI)) (ci := 2) (v := .ref a_power) (C := RX2) (T := TX2) (N := 9) hx hb hws inlX2 hown hK hP 0 rfl rfl 5 (by decide) (hws _ ww_37) (fun _ h9 => h9) rfl dX2_against_47 ?_
      refine lv_iload_n hx hb dX2_against_50 rfl (lv_at hl 1 rfl) ?_
      obtain ⟨hi, h⟩ := gd h
      refine va_iald hx hb hK hP 3 2 rfl rfl hi dX2_against_51 ?_
      refine lv_aload_n hx hb dX2_against_52 rfl (lv_at hl 0 rfl) ?_
      refine va_get (D := (dC, dI)) (ci := 2) (v := .ref a_power) (C := RX2) (T := TX2) (N := 9) hx hb hws inlX2 hown hK hP 0 rfl rfl 5 (by decide) (hws _ ww_37) (fun _ h9 => h9) rfl dX2_against_53 ?_
      refine lv_iload_n hx hb dX2_against_56 rfl (lv_at hl 2 rfl) ?_
      obtain ⟨hi, h⟩ := gd h
      refine va_iald hx hb hK hP 3 2 rfl rfl hi dX2_against_57 ?_
      refine lv_icmp_eq (tgt := 82) hx hb dX2_against_58 (by decide) (fun c9 => ?_) (fun c9 => ?_)
      · have h := (if_pos c9).symm.trans h
        refine lv_iconst (v := 0) hx hb dX2_against_82 (by decide) ?_
        refine lv_istore_n (lv' := [(3, .int 0), (0, .ref a_this), (1, .int l1), (2, .int l2)]) hx hb dX2_against_83 rfl hl (by decide) rfl (fun ls hl => ?_)
        exact w_X2_against_84 l a_this a_text a_d a_n a_power a_limbs c_d c_n c_power hx hb hr hml hown hws hlocks hA FU l1 l2 0 v_thrown v_size v_used v_at v_d v_n v_power o_r h s.heap [] hK hP hD hS ls (lv_sub hl [1, 2, 3, 0] rfl)
      · have h := (if_neg c9).symm.trans h
        refine lv_aload_n hx hb dX2_against_61 rfl (lv_at hl 0 rfl) ?_
        refine va_get (D := (dC, dI)) (ci := 2) (v := .ref a_power) (C := RX2) (T := TX2) (N := 9) hx hb hws inlX2 hown hK hP 0 rfl rfl 5 (by decide) (hws _ ww_37) (fun _ h9 => h9) rfl dX2_against_62 ?_
        refine lv_iload_n hx hb dX2_against_65 rfl (lv_at hl 1 rfl) ?_
        obtain ⟨hi, h⟩ := gd h
        refine va_iald hx hb hK hP 3 2 rfl rfl hi dX2_against_66 ?_
        refine lv_aload_n hx hb dX2_against_67 rfl (lv_at hl 0 rfl) ?_
        refine va_get (D := (dC, dI)) (ci := 2) (v := .ref a_power) (C := RX2) (T := TX2) (N := 9) hx hb hws inlX2 hown hK hP 0 rfl rfl 5 (by decide) (hws _ ww_37) (fun _ h9 => h9) rfl dX2_against_68 ?_
        refine lv_iload_n hx hb dX2_against_71 rfl (lv_at hl 2 rfl) ?_
        obtain ⟨hi, h⟩ := gd h
        refine va_iald hx hb hK hP 3 2 rfl rfl hi dX2_against_72 ?_
        refine lv_icmp_ge (tgt := 80) hx hb dX2_against_73 (by decide) (fun c9 => ?_) (fun c9 => ?_)
        · have h := (if_pos c9).symm.trans h
          refine lv_iconst (v := 1) hx hb dX2_against_80 (by decide) ?_
          obtain h09 := rt1 h
          subst o_r
          exact W.iret hx hb hr (fun t ht hW => ⟨⟨_, (), rfl, rfl, by rw [ht]; exact hP, va_K.moved hW.alike hK, hD⟩, hS.F ht⟩) hS.2.2 dX2_against_81
        · have h := (if_neg c9).symm.trans h
          refine lv_iconst (v := (-1)) hx hb dX2_against_76 (by decide) ?_
          refine lv_goto (tgt := 81) hx hb dX2_against_77 (by decide) ?_
          obtain h09 := rt1 h
          subst o_r
          exact W.iret hx hb hr (fun t ht hW => ⟨⟨_, (), rfl, rfl, by rw [ht]; exact hP, va_K.moved hW.alike hK, hD⟩, hS.F ht⟩) hS.2.2 dX2_against_81
    · have h := (if_pos c9).symm.trans h
      exact w_X2_against_18 l a_this a_text a_d a_n a_power a_limbs c_d c_n c_power hx hb hr hml hown hws hlocks hA l1 l2 v_thrown v_size v_used v_at v_d v_n v_power o_r h s.heap [] hK hP hD hS ls (lv_sub hl [0, 1, 2] rfl)
set_option maxHeartbeats 4000000 in
set_option maxRecDepth 100000 in
theorem w_X2_times_5 (l : Launch) {p : Program} {e : Env} {s : State} {m : MethodId} {args : Array Value} {below : List Frame} {meth : Method} {c : Code} {A : Nat → Prop} {dC : Nat → ClassId} {dI : Nat → Nat → Nat} (a_this a_text a_d a_n a_power a_limbs : Nat) (c_limbs : ClassId) (hx : p.tables.exec = Jvm.exec) (hb : c.code = cX2_times) (hr : meth.sig.returnType = none) (hml : c.maxLocals = 6) (hown : s.vm.findClass RX2 = some m.cls) (hws : ∀ w ∈ wsL_law, w.before args s = true) (hlocks : meth.locks = false) (hA : ∀ q : Nat, s.heap.size ≤ q → A q) : ∀ (n : Nat) (l1 : Int64) (l3 : Int64) (l5 : Int32) (v_thrown : Int32) (v_size : Int32) (v_used : Int32) (v_at : Int32) (v_limbs : Nat → Int64) (o_used : Int32) (o_limbs : Nat → Int64), f_X2_times_L5 n l1 l3 l5 v_used v_limbs = some (o_used, o_limbs) → ∀ (H : Heap) (locs : List Loc), va_K (dC, dI) vwCl [(c_limbs, .long)] s → va_P (dC, dI) vwCl (wd_X2_times a_this a_text a_d a_n a_power a_limbs c_limbs v_thrown v_size v_used v_at v_limbs) H → va_D A (wd_X2_times a_this a_text a_d a_n a_power a_limbs c_limbs v_thrown v_size v_used v_at v_limbs) → va_S A s.heap H locs → ∀ (ls : Array Slot), lv_has ls 6 [(0, .ref a_this), (1, .long l1), (3, .long l3), (5, .int l5)] → W p l e (headSpec (w_X2_times) ({ frames := 0, cells := 0, slots := 0, locals := 0 } : Room)).room s m args below meth c H locs 0 0 (MQ below (va_Qv (fun (_ : Unit) => True) (fun (_ : Unit) t => va_P (dC, dI) vwCl (wd_X2_times a_this a_text a_d a_n a_power a_limbs c_limbs v_thrown v_size o_used v_at o_limbs) t.heap ∧ va_K (dC, dI) vwCl [(c_limbs, .long)] t ∧ va_D A (wd_X2_times a_this a_text a_d a_n a_power a_limbs c_limbs v_thrown v_size o_used v_at o_limbs)) A) args s 0 0 A) (F0 m 5 ls []) := by
  intro n
  induction n with
  | zero =>
    intro l1 l3 l5 v_thrown v_size v_used v_at v_limbs o_used o_limbs h H locs hK hP hD hS ls hl
    exact absurd h (by simp [f_X2_times_L5])
  | succ n ih =>
    intro l1 l3 l5 v_thrown v_size v_used v_at v_limbs o_used o_limbs h H locs hK hP hD hS ls hl
    unfold f_X2_times_L5 at h
    refine lv_iload hx hb dX2_times_5 (lv_at hl 3 rfl) ?_
    refine lv_aload_n hx hb dX2_times_7 rfl (lv_at hl 0 rfl) ?_
    refine va_get (D := (dC, dI)) (ci := 2) (v := .int v_used) (C := RX2) (T := TX2) (N := 9) hx hb hws inlX2 hown hK hP 0 rfl rfl 7 (by decide) (hws _ ww_266) (fun _ h9 => h9) rfl dX2_times_8 ?_
    refine lv_icmp_ge (tgt := 50) hx hb dX2_times_11 (by decide) (fun c9 => ?_) (fun c9 => ?_)
    · have h := (if_pos c9).symm.trans h
      refine lv_lload_n hx hb dX2_times_50 rfl (lv_at hl 2 rfl) ?_
      refine lv_lconst (v := 0) hx hb dX2_times_51 (by decide) ?_
      refine W.lcmp hx hb dX2_times_52 ?_
      refine lv_if_le (tgt := 76) hx hb dX2_times_53 (by decide) (fun c9 => ?_) (fun c9 => ?_)
      · have h := (if_pos c9).symm.trans h
        obtain ⟨h09, h19⟩ := rt2 h
        subst o_used
        subst o_limbs
        exact W.vret hx hb hr (fun t ht hW => ⟨⟨(), rfl, trivial, by rw [ht]; exact hP, va_K.moved hW.alike hK, hD⟩, hS.F ht⟩) hS.2.2 dX2_times_76
      · have h := (if_neg c9).symm.trans h
        refine lv_aload_n hx hb dX2_times_56 rfl (lv_at hl 0 rfl) ?_
        refine va_get (D := (dC, dI)) (ci := 2) (v := .ref a_limbs) (C := RX2) (T := TX2) (N := 9) hx hb hws inlX2 hown hK hP 0 rfl rfl 6 (by decide) (hws _ ww_38) (fun _ h9 => h9) rfl dX2_times_57 ?_
        refine lv_aload_n hx hb dX2_times_60 rfl (lv_at hl 0 rfl) ?_
        refine va_get (D := (dC, dI)) (ci := 2) (v := .int v_used) (C := RX2) (T := TX2) (N := 9) hx hb hws inlX2 hown hK hP 0 rfl rfl 7 (by decide) (hws _ ww_266) (fun _ h9 => h9) rfl dX2_times_61 ?_
        refine lv_lload_n hx hb dX2_times_64 rfl (lv_at hl 2 rfl) ?_
        obtain ⟨hi, h⟩ := gd h
        refine va_last hx hb hK hP hD hS 1 0 rfl rfl hi dX2_times_65 (fun H locs hP hD hS => ?_)
        have hP : va_P (dC, dI) vwCl (wd_X2_times a_this a_text a_d a_n a_power a_limbs c_limbs v_thrown v_size v_used v_at (vp_updL v_limbs (Int32.toNatClampNeg v_used) l3)) H := hP
        have hD : va_D A (wd_X2_times a_this a_text a_d a_n a_power a_limbs c_limbs v_thrown v_size v_used v_at (vp_updL v_limbs (Int32.toNatClampNeg v_used) l3)) := hD
        refine lv_aload_n hx hb dX2_times_66 rfl (lv_at hl 0 rfl) ?_
        refine lv_dup hx hb dX2_times_67 rfl ?_
        refine va_get (D := (dC, dI)) (ci := 2) (v := .int v_used) (C := RX2) (T := TX2) (N := 9) hx hb hws inlX2 hown hK hP 0 rfl rfl 7 (by decide) (hws _ ww_266) (fun _ h9 => h9) rfl dX2_times_68 ?_
        refine lv_iconst (v := 1) hx hb dX2_times_71 (by decide) ?_
        refine lv_iadd hx hb dX2_times_72 ?_
        refine va_put (D := (dC, dI)) (ci := 2) (v := .int (v_used + 1)) (ty := .int) (C := RX2) (T := TX2) (N := 9) hx hb hws inlX2 tyX2 tyX2_ok nmX2 hown hK hP hD hS 0 rfl rfl 7 (by decide) (hws _ ww_266) (fun _ h9 => h9) rfl (by decide +kernel) rfl rfl (Nat.le_of_ble_eq_true rfl) dX2_times_73 (fun H locs hP hD hS => ?_)
        have hP : va_P (dC, dI) vwCl (wd_X2_times a_this a_text a_d a_n a_power a_limbs c_limbs v_thrown v_size (v_used + 1) v_at (vp_updL v_limbs (Int32.toNatClampNeg v_used) l3)) H := hP
        have hD : va_D A (wd_X2_times a_this a_text a_d a_n a_power a_limbs c_limbs v_thrown v_size (v_used + 1) v_at (vp_updL v_limbs (Int32.toNatClampNeg v_used) l3)) := hD
        obtain ⟨h09, h19⟩ := rt2 h
        subst o_used
        subst o_limbs
        exact W.vret hx hb hr (fun t ht hW => ⟨⟨(), rfl, trivial, by rw [ht]; exact hP, va_K.moved hW.alike hK, hD⟩, hS.F ht⟩) hS.2.2 dX2_times_76
    · have h := (if_neg c9).symm.trans h
      refine lv_lload_n hx hb dX2_times_14 rfl (lv_at hl 2 rfl) ?_
      refine lv_aload_n hx hb dX2_times_15 rfl (lv_at hl 0 rfl) ?_
      refine va_get (D := (dC, dI)) (ci := 2) (v := .ref a_limbs) (C := RX2) (T := TX2) (N := 9) hx hb hws inlX2 hown hK hP 0 rfl rfl 6 (by decide) (hws _ ww_38) (fun _ h9 => h9) rfl dX2_times_16 ?_
      refine lv_iload hx hb dX2_times_19 (lv_at hl 3 rfl) ?_
      obtain ⟨hi, h⟩ := gd h
      refine va_lald hx hb hK hP 1 0 rfl rfl hi dX2_times_21 ?_
      refine lv_lload_n hx hb dX2_times_22 rfl (lv_at hl 1 rfl) ?_
      refine lv_lmul hx hb dX2_times_23 ?_
      refine lv_ladd hx hb dX2_times_24 ?_
      refine lv_lstore_n (lv' := [(3, .long (l3 + ((v_limbs (Int32.toNatClampNeg l5)) * l1))), (0, .ref a_this), (1, .long l1), (5, .int l5)]) hx hb dX2_times_25 rfl hl (by decide) rfl (fun ls hl => ?_)
      refine lv_aload_n hx hb dX2_times_26 rfl (lv_at hl 1 rfl) ?_
      refine va_get (D := (dC, dI)) (ci := 2) (v := .ref a_limbs) (C := RX2) (T := TX2) (N := 9) hx hb hws inlX2 hown hK hP 0 rfl rfl 6 (by decide) (hws _ ww_38) (fun _ h9 => h9) rfl dX2_times_27 ?_
      refine lv_iload hx hb dX2_times_30 (lv_at hl 3 rfl) ?_
      refine lv_lload_n hx hb dX2_times_32 rfl (lv_at hl 0 rfl) ?_
      refine lv_ldc2 (v := 1000000000) hx hb hown (hws _ ww_267) dX2_times_33 ?_
      refine lv_lrem hx hb dX2_times_36 (by decide) ?_
      obtain ⟨hi, h⟩ := gd h
      refine va_last hx hb hK hP hD hS 1 0 rfl rfl hi dX2_times_37 (fun H locs hP hD hS => ?_)
      have hP : va_P (dC, dI) vwCl (wd_X2_times a_this a_text a_d a_n a_power a_limbs c_limbs v_thrown v_size v_used v_at (vp_updL v_limbs (Int32.toNatClampNeg l5) ((l3 + ((v_limbs (Int32.toNatClampNeg l5)) * l1)) - (l3 + ((v_limbs (Int32.toNatClampNeg l5)) * l1)) / 1000000000 * 1000000000))) H := hP
      have hD : va_D A (wd_X2_times a_this a_text a_d a_n a_power a_limbs c_limbs v_thrown v_size v_used v_at (vp_updL v_limbs (Int32.toNatClampNeg l5) ((l3 + ((v_limbs (Int32.toNatClampNeg l5)) * l1)) - (l3 + ((v_limbs (Int32.toNatClampNeg l5)) * l1)) / 1000000000 * 1000000000))) := hD
      refine lv_lload_n hx hb dX2_times_38 rfl (lv_at hl 0 rfl) ?_
      refine lv_ldc2 (v := 1000000000) hx hb hown (hws _ ww_267) dX2_times_39 ?_
      refine lv_ldiv hx hb dX2_times_42 (by decide) ?_
      refine lv_lstore_n (lv' := [(3, .long ((l3 + ((v_limbs (Int32.toNatClampNeg l5)) * l1)) / 1000000000)), (0, .ref a_this), (1, .long l1), (5, .int l5)]) hx hb dX2_times_43 rfl hl (by decide) rfl (fun ls hl => ?_)
      refine lv_iinc (v := (l5 + 1)) (lv' := [(5, .int (l5 + 1)), (3, .long ((l3 + ((v_limbs (Int32.toNatClampNeg l5)) * l1)) / 1000000000)), (0, .ref a_this), (1, .long l1)]) hx hb dX2_times_44 hl (k := 3) rfl rfl (by decide) rfl (fun ls hl => ?_)
      refine lv_goto (tgt := 5) hx hb dX2_times_47 (by decide) ?_
      exact ih l1 ((l3 + ((v_limbs (Int32.toNatClampNeg l5)) * l1)) / 1000000000) (l5 + 1) v_thrown v_size v_used v_at (vp_updL v_limbs (Int32.toNatClampNeg l5) ((l3 + ((v_limbs (Int32.toNatClampNeg l5)) * l1)) - (l3 + ((v_limbs (Int32.toNatClampNeg l5)) * l1)) / 1000000000 * 1000000000)) o_used o_limbs h H locs hK hP hD hS ls (lv_sub hl [2, 3, 1, 0] rfl)
set_option maxHeartbeats 4000000 in
set_option maxRecDepth 100000 in
theorem c_X2_times (l : Launch) (dC : Nat → ClassId) (dI : Nat → Nat → Nat)  (a_this a_text a_d a_n a_power a_limbs : Nat) (c_limbs : ClassId) (sz : Nat) (l1 : Int64) (v_thrown : Int32) (v_size : Int32) (v_used : Int32) (v_at : Int32) (v_limbs : Nat → Int64) (o_used : Int32) (o_limbs : Nat → Int64) (h : f_X2_times l1 v_used v_limbs = some (o_used, o_limbs)) : Met l yX2_times w_X2_times ({ frames := 0, cells := 0, slots := 0, locals := 0 } : Room) (va_Pc [.ref a_this, .long l1] (fun U => U.heap.size = sz ∧ va_P (dC, dI) vwCl (wd_X2_times a_this a_text a_d a_n a_power a_limbs c_limbs v_thrown v_size v_used v_at v_limbs) U.heap ∧ va_K (dC, dI) vwCl [(c_limbs, .long)] U ∧ va_D (fun _ => True) (wd_X2_times a_this a_text a_d a_n a_power a_limbs c_limbs v_thrown v_size v_used v_at v_limbs))) (va_Qv (fun (_ : Unit) => True) (fun (_ : Unit) t => va_P (dC, dI) vwCl (wd_X2_times a_this a_text a_d a_n a_power a_limbs c_limbs v_thrown v_size o_used v_at o_limbs) t.heap ∧ va_K (dC, dI) vwCl [(c_limbs, .long)] t ∧ va_D (va_A (wd_X2_times a_this a_text a_d a_n a_power a_limbs c_limbs v_thrown v_size v_used v_at v_limbs) sz) (wd_X2_times a_this a_text a_d a_n a_power a_limbs c_limbs v_thrown v_size o_used v_at o_limbs)) (va_A (wd_X2_times a_this a_text a_d a_n a_power a_limbs c_limbs v_thrown v_size v_used v_at v_limbs) sz)) 0 0 (va_A (wd_X2_times a_this a_text a_d a_n a_power a_limbs c_limbs v_thrown v_size v_used v_at v_limbs) sz) := by
  refine Met.ofW (cc := cX2_times) (maxL := 6) (ret := none) (by decide) rfl ?_
  intro p e s m args below meth c s₁ B hml hv
  obtain ⟨rfl, hsz, hP, hK, hD0⟩ := hv
  have hx := B.exec
  have hb := B.bytes
  have hr := B.returns
  have hws : ∀ w ∈ wsL_law, w.before _ s = true := fun w hw => atoms_spec (ws := w_X2_times) B.pre w (List.mem_cons_of_mem _ hw)
  have hown : s.vm.findClass RX2 = some m.cls := findClass_of_methodNamed B.named
  have hlocks := B.notSynchronized
  subst hsz
  have hD := hD0.self (sz := s.heap.size)
  generalize hAe : va_A (wd_X2_times a_this a_text a_d a_n a_power a_limbs c_limbs v_thrown v_size v_used v_at v_limbs) s.heap.size = A at hD ⊢
  have hA : ∀ q : Nat, s.heap.size ≤ q → A q := fun q h => by rw [← hAe]; exact Or.inr h
  have hS : va_S A s.heap s.heap [] := va_S.rf
  have hl := lv_entry ([.ref a_this, .long l1]) (n := 6) (Nat.le_of_ble_eq_true rfl)
  rw [lg_entry_eq]
  generalize (lg_sl ([.ref a_this, .long l1]) ++ List.replicate (6 - (lg_sl ([.ref a_this, .long l1])).length) Slot.unset).toArray = ls at hl ⊢
  have hl : lv_has ls 6 [(0, .ref a_this), (1, .long l1)] := hl
  unfold f_X2_times at h
  refine lv_lconst (v := 0) hx hb dX2_times_0 (by decide) ?_
  refine lv_lstore_n (lv' := [(3, .long 0), (0, .ref a_this), (1, .long l1)]) hx hb dX2_times_1 rfl hl (by decide) rfl (fun ls hl => ?_)
  refine lv_iconst (v := 0) hx hb dX2_times_2 (by decide) ?_
  refine lv_istore (lv' := [(5, .int 0), (3, .long 0), (0, .ref a_this), (1, .long l1)]) hx hb dX2_times_3 hl (by decide) rfl (fun ls hl => ?_)
  exact w_X2_times_5 l a_this a_text a_d a_n a_power a_limbs c_limbs hx hb hr hml hown hws hlocks hA FU l1 0 0 v_thrown v_size v_used v_at v_limbs o_used o_limbs h s.heap [] hK hP hD hS ls (lv_sub hl [2, 3, 1, 0] rfl)
