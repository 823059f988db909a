def f_L_add (l1 : Int32) (v_length : Int32) (v_text : Nat → Int32) (v_out : Nat → Int64) : Option (Int32 × (Nat → Int64) × (Int32) × (Nat → Int32)) :=
  (f_X1_add l1 v_length v_text).bind fun o => match o with
  | .inl (r0, (o_length, o_text)) => some (0, (vp_updL v_out 0 (Int32.toInt64 r0)), o_length, o_text)
  | .inr (k, (o_length, o_text)) => if k = 1 then some (1, v_out, o_length, o_text) else if k = 2 then some (2, v_out, o_length, o_text) else none
def f_L_read  (v_length : Int32) (v_digitsStart : Int32) (v_digitsEnd : Int32) (v_unitsAt : Int32) (v_tenPower : Int32) (v_text : Nat → Int32) (v_number_first : Int32) (v_number_last : Int32) (v_number_limbs : Nat → Int64) (v_rounded_first : Int32) (v_rounded_last : Int32) (v_rounded_limbs : Nat → Int64) (v_out : Nat → Int64) : Option (Int32 × (Nat → Int64) × (Int32) × (Int32) × (Int32) × (Int32) × (Int32) × (Int32) × (Nat → Int64) × (Int32) × (Int32) × (Nat → Int64)) :=
  (f_X1_read v_length v_digitsStart v_digitsEnd v_unitsAt v_tenPower v_text v_number_first v_number_last v_number_limbs v_rounded_first v_rounded_last v_rounded_limbs).bind fun o => match o with
  | .inl (r0, (o_digitsStart, o_digitsEnd, o_unitsAt, o_tenPower, o_number_first, o_number_last, o_number_limbs, o_rounded_first, o_rounded_last, o_rounded_limbs)) => some (0, (vp_updL v_out 0 r0), o_digitsStart, o_digitsEnd, o_unitsAt, o_tenPower, o_number_first, o_number_last, o_number_limbs, o_rounded_first, o_rounded_last, o_rounded_limbs)
  | .inr (k, (o_digitsStart, o_digitsEnd, o_unitsAt, o_tenPower, o_number_first, o_number_last, o_number_limbs, o_rounded_first, o_rounded_last, o_rounded_limbs)) => if k = 2 then some (1, v_out, o_digitsStart, o_digitsEnd, o_unitsAt, o_tenPower, o_number_first, o_number_last, o_number_limbs, o_rounded_first, o_rounded_last, o_rounded_limbs) else none
def f_L_print (l1 : Int64) (l3 : Int32) (v_length : Int32) (v_text : Nat → Int32) (v_number_first : Int32) (v_number_last : Int32) (v_number_limbs : Nat → Int64) (v_rounded_first : Int32) (v_rounded_last : Int32) (v_rounded_limbs : Nat → Int64) (v_out : Nat → Int64) : Option (Int32 × (Nat → Int64) × (Int32) × (Nat → Int32) × (Int32) × (Int32) × (Nat → Int64) × (Int32) × (Int32) × (Nat → Int64)) :=
  (f_X1_print l1 l3 v_length v_text v_number_first v_number_last v_number_limbs v_rounded_first v_rounded_last v_rounded_limbs).bind fun o => match o with
  | .inl (r0, (o_length, o_text, o_number_first, o_number_last, o_number_limbs, o_rounded_first, o_rounded_last, o_rounded_limbs)) => some (0, (vp_updL v_out 0 (Int32.toInt64 r0)), o_length, o_text, o_number_first, o_number_last, o_number_limbs, o_rounded_first, o_rounded_last, o_rounded_limbs)
  | .inr (k, (o_length, o_text, o_number_first, o_number_last, o_number_limbs, o_rounded_first, o_rounded_last, o_rounded_limbs)) => if k = 1 then some (1, v_out, o_length, o_text, o_number_first, o_number_last, o_number_limbs, o_rounded_first, o_rounded_last, o_rounded_limbs) else if k = 2 then some (2, v_out, o_length, o_text, o_number_first, o_number_last, o_number_limbs, o_rounded_first, o_rounded_last, o_rounded_limbs) else none
def f_L_shortest (l1 : Int64) (v_length : Int32) (v_text : Nat → Int32) (v_number_first : Int32) (v_number_last : Int32) (v_number_limbs : Nat → Int64) (v_rounded_first : Int32) (v_rounded_last : Int32) (v_rounded_limbs : Nat → Int64) (v_lowEdge_first : Int32) (v_lowEdge_last : Int32) (v_lowEdge_limbs : Nat → Int64) (v_highEdge_first : Int32) (v_highEdge_last : Int32) (v_highEdge_limbs : Nat → Int64) (v_out : Nat → Int64) : Option (Int32 × (Nat → Int64) × (Int32) × (Nat → Int32) × (Int32) × (Int32) × (Nat → Int64) × (Int32) × (Int32) × (Nat → Int64) × (Int32) × (Int32) × (Nat → Int64) × (Int32) × (Int32) × (Nat → Int64)) :=
  (f_X1_shortest l1 v_length v_text v_number_first v_number_last v_number_limbs v_rounded_first v_rounded_last v_rounded_limbs v_lowEdge_first v_lowEdge_last v_lowEdge_limbs v_highEdge_first v_highEdge_last v_highEdge_limbs).bind fun o => match o with
  | .inl (r0, (o_length, o_text, o_number_first, o_number_last, o_number_limbs, o_rounded_first, o_rounded_last, o_rounded_limbs, o_lowEdge_first, o_lowEdge_last, o_lowEdge_limbs, o_highEdge_first, o_highEdge_last, o_highEdge_limbs)) => some (0, (vp_updL v_out 0 (Int32.toInt64 r0)), o_length, o_text, o_number_first, o_number_last, o_number_limbs, o_rounded_first, o_rounded_last, o_rounded_limbs, o_lowEdge_first, o_lowEdge_last, o_lowEdge_limbs, o_highEdge_first, o_highEdge_last, o_highEdge_limbs)
  | .inr (k, (o_length, o_text, o_number_first, o_number_last, o_number_limbs, o_rounded_first, o_rounded_last, o_rounded_limbs, o_lowEdge_first, o_lowEdge_last, o_lowEdge_limbs, o_highEdge_first, o_highEdge_last, o_highEdge_limbs)) => if k = 2 then some (1, v_out, o_length, o_text, o_number_first, o_number_last, o_number_limbs, o_rounded_first, o_rounded_last, o_rounded_limbs, o_lowEdge_first, o_lowEdge_last, o_lowEdge_limbs, o_highEdge_first, o_highEdge_last, o_highEdge_limbs) else none
def f_L_letter (l1 : Int32) (v_length : Int32) (v_text : Nat → Int32) (v_out : Nat → Int64) : Option (Int32 × (Nat → Int64)) :=
  (f_X1_letter l1 v_length v_text).bind fun o => match o with
  | .inl (r0, _) => some (0, (vp_updL v_out 0 (Int32.toInt64 r0)))
  | .inr (k, _) => if k = 3 then some (1, v_out) else none
set_option maxHeartbeats 4000000 in
set_option maxRecDepth 100000 in
theorem c_L_add (l : Launch) (hst : l.stackTraces = false) (dC : Nat → ClassId) (dI : Nat → Nat → Nat)  (a_this a_text a_number a_rounded a_lowEdge a_highEdge : Nat) (c_text : ClassId) (a_out : Nat) (c_out : ClassId) (sz : Nat) (l1 : Int32) (v_length : Int32) (v_digitsStart : Int32) (v_digitsEnd : Int32) (v_unitsAt : Int32) (v_tenPower : Int32) (v_text : Nat → Int32) (v_out : Nat → Int64) (o_r : Int32) (o_out : Nat → Int64) (o_length : Int32) (o_text : Nat → Int32) (h : f_L_add l1 v_length v_text v_out = some (o_r, o_out, o_length, o_text)) : Met l yL_add w_L_add ({ frames := 7, cells := 1, slots := 6, locals := 102 } : Room) (va_Pc [.ref a_this, .int l1, .ref a_out] (fun U => U.heap.size = sz ∧ va_P (dC, dI) vwCl ((wd_X1_add a_this a_text a_number a_rounded a_lowEdge a_highEdge c_text v_length v_digitsStart v_digitsEnd v_unitsAt v_tenPower v_text) ++ [(a_out, .inl (c_out, 1, .inr (.inl v_out)))]) U.heap ∧ va_K (dC, dI) vwCl [(c_text, .int), (c_out, .long)] U ∧ va_D (fun _ => True) ((wd_X1_add a_this a_text a_number a_rounded a_lowEdge a_highEdge c_text v_length v_digitsStart v_digitsEnd v_unitsAt v_tenPower v_text) ++ [(a_out, .inl (c_out, 1, .inr (.inl v_out)))]) ∧ EX (va_A ((wd_X1_add a_this a_text a_number a_rounded a_lowEdge a_highEdge c_text v_length v_digitsStart v_digitsEnd v_unitsAt v_tenPower v_text) ++ [(a_out, .inl (c_out, 1, .inr (.inl v_out)))]) sz) U U.heap)) (va_Qi (fun r9 (_ : Unit) => r9 = o_r) (fun _ t => va_P (dC, dI) vwCl ((wd_X1_add a_this a_text a_number a_rounded a_lowEdge a_highEdge c_text o_length v_digitsStart v_digitsEnd v_unitsAt v_tenPower o_text) ++ [(a_out, .inl (c_out, 1, .inr (.inl o_out)))]) t.heap ∧ va_K (dC, dI) vwCl [(c_text, .int), (c_out, .long)] t ∧ va_D (va_A ((wd_X1_add a_this a_text a_number a_rounded a_lowEdge a_highEdge c_text v_length v_digitsStart v_digitsEnd v_unitsAt v_tenPower v_text) ++ [(a_out, .inl (c_out, 1, .inr (.inl v_out)))]) sz) ((wd_X1_add a_this a_text a_number a_rounded a_lowEdge a_highEdge c_text o_length v_digitsStart v_digitsEnd v_unitsAt v_tenPower o_text) ++ [(a_out, .inl (c_out, 1, .inr (.inl o_out)))])) (va_A ((wd_X1_add a_this a_text a_number a_rounded a_lowEdge a_highEdge c_text v_length v_digitsStart v_digitsEnd v_unitsAt v_tenPower v_text) ++ [(a_out, .inl (c_out, 1, .inr (.inl v_out)))]) sz)) 1 6 (va_A ((wd_X1_add a_this a_text a_number a_rounded a_lowEdge a_highEdge c_text v_length v_digitsStart v_digitsEnd v_unitsAt v_tenPower v_text) ++ [(a_out, .inl (c_out, 1, .inr (.inl v_out)))]) sz) := by
  unfold f_L_add at h
  obtain ⟨o, ho, h⟩ := bd h
  rcases o with ⟨r0, u⟩ | ⟨k, u⟩
  · obtain ⟨u0, u1⟩ := u
    dsimp only at h
    obtain ⟨h09, h19, h29, h39⟩ := rt4 h
    subst o_r
    subst o_out
    subst o_length
    subst o_text
    exact c_L_add_ret l hst dC dI  a_this a_text a_number a_rounded a_lowEdge a_highEdge c_text a_out c_out sz l1 v_length v_digitsStart v_digitsEnd v_unitsAt v_tenPower v_text v_out r0 u0 u1 ho
  · obtain ⟨u0, u1⟩ := u
    dsimp only at h
    by_cases c1 : k = 1
    · subst c1
      have h := (if_pos rfl).symm.trans h
      obtain ⟨h09, h19, h29, h39⟩ := rt4 h
      subst o_r
      subst o_out
      subst o_length
      subst o_text
      exact c_L_add_1 l hst dC dI  a_this a_text a_number a_rounded a_lowEdge a_highEdge c_text a_out c_out sz l1 v_length v_digitsStart v_digitsEnd v_unitsAt v_tenPower v_text v_out u0 u1 ho
    have h := (if_neg c1).symm.trans h
    by_cases c2 : k = 2
    · subst c2
      have h := (if_pos rfl).symm.trans h
      obtain ⟨h09, h19, h29, h39⟩ := rt4 h
      subst o_r
      subst o_out
      subst o_length
      subst o_text
      exact c_L_add_2 l hst dC dI  a_this a_text a_number a_rounded a_lowEdge a_highEdge c_text a_out c_out sz l1 v_length v_digitsStart v_digitsEnd v_unitsAt v_tenPower v_text v_out u0 u1 ho
    have h := (if_neg c2).symm.trans h
    exact nomatch h
set_option maxHeartbeats 4000000 in
set_option maxRecDepth 100000 in
theorem c_L_read (l : Launch) (hst : l.stackTraces = false) (dC : Nat → ClassId) (dI : Nat → Nat → Nat) (a_TENS : Nat) (a_this a_text a_number a_number_limbs a_rounded a_rounded_limbs a_lowEdge a_highEdge : Nat) (c_text c_number_limbs c_rounded_limbs : ClassId) (a_out : Nat) (c_out : ClassId) (sz : Nat)  (v_length : Int32) (v_digitsStart : Int32) (v_digitsEnd : Int32) (v_unitsAt : Int32) (v_tenPower : Int32) (v_text : Nat → Int32) (v_number_first : Int32) (v_number_last : Int32) (v_number_limbs : Nat → Int64) (v_rounded_first : Int32) (v_rounded_last : Int32) (v_rounded_limbs : Nat → Int64) (v_out : Nat → Int64) (o_r : Int32) (o_out : Nat → Int64) (o_digitsStart : Int32) (o_digitsEnd : Int32) (o_unitsAt : Int32) (o_tenPower : Int32) (o_number_first : Int32) (o_number_last : Int32) (o_number_limbs : Nat → Int64) (o_rounded_first : Int32) (o_rounded_last : Int32) (o_rounded_limbs : Nat → Int64) (h : f_L_read v_length v_digitsStart v_digitsEnd v_unitsAt v_tenPower v_text v_number_first v_number_last v_number_limbs v_rounded_first v_rounded_last v_rounded_limbs v_out = some (o_r, o_out, o_digitsStart, o_digitsEnd, o_unitsAt, o_tenPower, o_number_first, o_number_last, o_number_limbs, o_rounded_first, o_rounded_last, o_rounded_limbs)) : Met l yL_read w_L_read ({ frames := 7, cells := 1, slots := 6, locals := 166 } : Room) (va_Pc [.ref a_this, .ref a_out] (fun U => U.heap.size = sz ∧ va_P (dC, dI) vwCl ((wd_X1_read a_this a_text a_number a_number_limbs a_rounded a_rounded_limbs a_lowEdge a_highEdge c_text c_number_limbs c_rounded_limbs v_length v_digitsStart v_digitsEnd v_unitsAt v_tenPower v_text v_number_first v_number_last v_number_limbs v_rounded_first v_rounded_last v_rounded_limbs) ++ [(a_out, .inl (c_out, 1, .inr (.inl v_out)))]) U.heap ∧ va_K (dC, dI) vwCl [(c_text, .int), (c_number_limbs, .long), (c_rounded_limbs, .long), (c_out, .long)] U ∧ va_D (fun _ => True) ((wd_X1_read a_this a_text a_number a_number_limbs a_rounded a_rounded_limbs a_lowEdge a_highEdge c_text c_number_limbs c_rounded_limbs v_length v_digitsStart v_digitsEnd v_unitsAt v_tenPower v_text v_number_first v_number_last v_number_limbs v_rounded_first v_rounded_last v_rounded_limbs) ++ [(a_out, .inl (c_out, 1, .inr (.inl v_out)))]) ∧ EX (va_A ((wd_X1_read a_this a_text a_number a_number_limbs a_rounded a_rounded_limbs a_lowEdge a_highEdge c_text c_number_limbs c_rounded_limbs v_length v_digitsStart v_digitsEnd v_unitsAt v_tenPower v_text v_number_first v_number_last v_number_limbs v_rounded_first v_rounded_last v_rounded_limbs) ++ [(a_out, .inl (c_out, 1, .inr (.inl v_out)))]) sz) U U.heap ∧ va_Z "DoubleText$Decimal" "TENS" "[J" (.ref a_TENS) (va_A ((wd_X1_read a_this a_text a_number a_number_limbs a_rounded a_rounded_limbs a_lowEdge a_highEdge c_text c_number_limbs c_rounded_limbs v_length v_digitsStart v_digitsEnd v_unitsAt v_tenPower v_text v_number_first v_number_last v_number_limbs v_rounded_first v_rounded_last v_rounded_limbs) ++ [(a_out, .inl (c_out, 1, .inr (.inl v_out)))]) sz) U U.heap ∧ va_T .long a_TENS 9 TENS_v (va_A ((wd_X1_read a_this a_text a_number a_number_limbs a_rounded a_rounded_limbs a_lowEdge a_highEdge c_text c_number_limbs c_rounded_limbs v_length v_digitsStart v_digitsEnd v_unitsAt v_tenPower v_text v_number_first v_number_last v_number_limbs v_rounded_first v_rounded_last v_rounded_limbs) ++ [(a_out, .inl (c_out, 1, .inr (.inl v_out)))]) sz) U U.heap)) (va_Qi (fun r9 (_ : Unit) => r9 = o_r) (fun _ t => va_P (dC, dI) vwCl ((wd_X1_read a_this a_text a_number a_number_limbs a_rounded a_rounded_limbs a_lowEdge a_highEdge c_text c_number_limbs c_rounded_limbs v_length o_digitsStart o_digitsEnd o_unitsAt o_tenPower v_text o_number_first o_number_last o_number_limbs o_rounded_first o_rounded_last o_rounded_limbs) ++ [(a_out, .inl (c_out, 1, .inr (.inl o_out)))]) t.heap ∧ va_K (dC, dI) vwCl [(c_text, .int), (c_number_limbs, .long), (c_rounded_limbs, .long), (c_out, .long)] t ∧ va_D (va_A ((wd_X1_read a_this a_text a_number a_number_limbs a_rounded a_rounded_limbs a_lowEdge a_highEdge c_text c_number_limbs c_rounded_limbs v_length v_digitsStart v_digitsEnd v_unitsAt v_tenPower v_text v_number_first v_number_last v_number_limbs v_rounded_first v_rounded_last v_rounded_limbs) ++ [(a_out, .inl (c_out, 1, .inr (.inl v_out)))]) sz) ((wd_X1_read a_this a_text a_number a_number_limbs a_rounded a_rounded_limbs a_lowEdge a_highEdge c_text c_number_limbs c_rounded_limbs v_length o_digitsStart o_digitsEnd o_unitsAt o_tenPower v_text o_number_first o_number_last o_number_limbs o_rounded_first o_rounded_last o_rounded_limbs) ++ [(a_out, .inl (c_out, 1, .inr (.inl o_out)))])) (va_A ((wd_X1_read a_this a_text a_number a_number_limbs a_rounded a_rounded_limbs a_lowEdge a_highEdge c_text c_number_limbs c_rounded_limbs v_length v_digitsStart v_digitsEnd v_unitsAt v_tenPower v_text v_number_first v_number_last v_number_limbs v_rounded_first v_rounded_last v_rounded_limbs) ++ [(a_out, .inl (c_out, 1, .inr (.inl v_out)))]) sz)) 1 6 (va_A ((wd_X1_read a_this a_text a_number a_number_limbs a_rounded a_rounded_limbs a_lowEdge a_highEdge c_text c_number_limbs c_rounded_limbs v_length v_digitsStart v_digitsEnd v_unitsAt v_tenPower v_text v_number_first v_number_last v_number_limbs v_rounded_first v_rounded_last v_rounded_limbs) ++ [(a_out, .inl (c_out, 1, .inr (.inl v_out)))]) sz) := by
  unfold f_L_read at h
  obtain ⟨o, ho, h⟩ := bd h
  rcases o with ⟨r0, u⟩ | ⟨k, u⟩
  · obtain ⟨u0, u1, u2, u3, u4, u5, u6, u7, u8, u9⟩ := u
    dsimp only at h
    obtain ⟨h09, h19, h29, h39, h49, h59, h69, h79, h89, h99, h109, h119⟩ := rt12 h
    subst o_r
    subst o_out
    subst o_digitsStart
    subst o_digitsEnd
    subst o_unitsAt
    subst o_tenPower
    subst o_number_first
    subst o_number_last
    subst o_number_limbs
    subst o_rounded_first
    subst o_rounded_last
    subst o_rounded_limbs
    exact c_L_read_ret l hst dC dI a_TENS a_this a_text a_number a_number_limbs a_rounded a_rounded_limbs a_lowEdge a_highEdge c_text c_number_limbs c_rounded_limbs a_out c_out sz  v_length v_digitsStart v_digitsEnd v_unitsAt v_tenPower v_text v_number_first v_number_last v_number_limbs v_rounded_first v_rounded_last v_rounded_limbs v_out r0 u0 u1 u2 u3 u4 u5 u6 u7 u8 u9 ho
  · obtain ⟨u0, u1, u2, u3, u4, u5, u6, u7, u8, u9⟩ := u
    dsimp only at h
    by_cases c2 : k = 2
    · subst c2
      have h := (if_pos rfl).symm.trans h
      obtain ⟨h09, h19, h29, h39, h49, h59, h69, h79, h89, h99, h109, h119⟩ := rt12 h
      subst o_r
      subst o_out
      subst o_digitsStart
      subst o_digitsEnd
      subst o_unitsAt
      subst o_tenPower
      subst o_number_first
      subst o_number_last
      subst o_number_limbs
      subst o_rounded_first
      subst o_rounded_last
      subst o_rounded_limbs
      exact c_L_read_2 l hst dC dI a_TENS a_this a_text a_number a_number_limbs a_rounded a_rounded_limbs a_lowEdge a_highEdge c_text c_number_limbs c_rounded_limbs a_out c_out sz  v_length v_digitsStart v_digitsEnd v_unitsAt v_tenPower v_text v_number_first v_number_last v_number_limbs v_rounded_first v_rounded_last v_rounded_limbs v_out u0 u1 u2 u3 u4 u5 u6 u7 u8 u9 ho
    have h := (if_neg c2).symm.trans h
    exact nomatch h
set_option maxHeartbeats 4000000 in
set_option maxRecDepth 100000 in
theorem c_L_print (l : Launch) (hst : l.stackTraces = false) (dC : Nat → ClassId) (dI : Nat → Nat → Nat) (a_TENS : Nat) (a_this a_text a_number a_number_limbs a_rounded a_rounded_limbs a_lowEdge a_highEdge : Nat) (c_text c_number_limbs c_rounded_limbs : ClassId) (a_out : Nat) (c_out : ClassId) (sz : Nat) (l1 : Int64) (l3 : Int32) (v_length : Int32) (v_digitsStart : Int32) (v_digitsEnd : Int32) (v_unitsAt : Int32) (v_tenPower : Int32) (v_text : Nat → Int32) (v_number_first : Int32) (v_number_last : Int32) (v_number_limbs : Nat → Int64) (v_rounded_first : Int32) (v_rounded_last : Int32) (v_rounded_limbs : Nat → Int64) (v_out : Nat → Int64) (o_r : Int32) (o_out : Nat → Int64) (o_length : Int32) (o_text : Nat → Int32) (o_number_first : Int32) (o_number_last : Int32) (o_number_limbs : Nat → Int64) (o_rounded_first : Int32) (o_rounded_last : Int32) (o_rounded_limbs : Nat → Int64) (h : f_L_print l1 l3 v_length v_text v_number_first v_number_last v_number_limbs v_rounded_first v_rounded_last v_rounded_limbs v_out = some (o_r, o_out, o_length, o_text, o_number_first, o_number_last, o_number_limbs, o_rounded_first, o_rounded_last, o_rounded_limbs)) : Met l yL_print w_L_print ({ frames := 7, cells := 1, slots := 6, locals := 122 } : Room) (va_Pc [.ref a_this, .long l1, .int l3, .ref a_out] (fun U => U.heap.size = sz ∧ va_P (dC, dI) vwCl ((wd_X1_print a_this a_text a_number a_number_limbs a_rounded a_rounded_limbs a_lowEdge a_highEdge c_text c_number_limbs c_rounded_limbs v_length v_digitsStart v_digitsEnd v_unitsAt v_tenPower v_text v_number_first v_number_last v_number_limbs v_rounded_first v_rounded_last v_rounded_limbs) ++ [(a_out, .inl (c_out, 1, .inr (.inl v_out)))]) U.heap ∧ va_K (dC, dI) vwCl [(c_text, .int), (c_number_limbs, .long), (c_rounded_limbs, .long), (c_out, .long)] U ∧ va_D (fun _ => True) ((wd_X1_print a_this a_text a_number a_number_limbs a_rounded a_rounded_limbs a_lowEdge a_highEdge c_text c_number_limbs c_rounded_limbs v_length v_digitsStart v_digitsEnd v_unitsAt v_tenPower v_text v_number_first v_number_last v_number_limbs v_rounded_first v_rounded_last v_rounded_limbs) ++ [(a_out, .inl (c_out, 1, .inr (.inl v_out)))]) ∧ EX (va_A ((wd_X1_print a_this a_text a_number a_number_limbs a_rounded a_rounded_limbs a_lowEdge a_highEdge c_text c_number_limbs c_rounded_limbs v_length v_digitsStart v_digitsEnd v_unitsAt v_tenPower v_text v_number_first v_number_last v_number_limbs v_rounded_first v_rounded_last v_rounded_limbs) ++ [(a_out, .inl (c_out, 1, .inr (.inl v_out)))]) sz) U U.heap ∧ va_Z "DoubleText$Decimal" "TENS" "[J" (.ref a_TENS) (va_A ((wd_X1_print a_this a_text a_number a_number_limbs a_rounded a_rounded_limbs a_lowEdge a_highEdge c_text c_number_limbs c_rounded_limbs v_length v_digitsStart v_digitsEnd v_unitsAt v_tenPower v_text v_number_first v_number_last v_number_limbs v_rounded_first v_rounded_last v_rounded_limbs) ++ [(a_out, .inl (c_out, 1, .inr (.inl v_out)))]) sz) U U.heap ∧ va_T .long a_TENS 9 TENS_v (va_A ((wd_X1_print a_this a_text a_number a_number_limbs a_rounded a_rounded_limbs a_lowEdge a_highEdge c_text c_number_limbs c_rounded_limbs v_length v_digitsStart v_digitsEnd v_unitsAt v_tenPower v_text v_number_first v_number_last v_number_limbs v_rounded_first v_rounded_last v_rounded_limbs) ++ [(a_out, .inl (c_out, 1, .inr (.inl v_out)))]) sz) U U.heap)) (va_Qi (fun r9 (_ : Unit) => r9 = o_r) (fun _ t => va_P (dC, dI) vwCl ((wd_X1_print a_this a_text a_number a_number_limbs a_rounded a_rounded_limbs a_lowEdge a_highEdge c_text c_number_limbs c_rounded_limbs o_length v_digitsStart v_digitsEnd v_unitsAt v_tenPower o_text o_number_first o_number_last o_number_limbs o_rounded_first o_rounded_last o_rounded_limbs) ++ [(a_out, .inl (c_out, 1, .inr (.inl o_out)))]) t.heap ∧ va_K (dC, dI) vwCl [(c_text, .int), (c_number_limbs, .long), (c_rounded_limbs, .long), (c_out, .long)] t ∧ va_D (va_A ((wd_X1_print a_this a_text a_number a_number_limbs a_rounded a_rounded_limbs a_lowEdge a_highEdge c_text c_number_limbs c_rounded_limbs v_length v_digitsStart v_digitsEnd v_unitsAt v_tenPower v_text v_number_first v_number_last v_number_limbs v_rounded_first v_rounded_last v_rounded_limbs) ++ [(a_out, .inl (c_out, 1, .inr (.inl v_out)))]) sz) ((wd_X1_print a_this a_text a_number a_number_limbs a_rounded a_rounded_limbs a_lowEdge a_highEdge c_text c_number_limbs c_rounded_limbs o_length v_digitsStart v_digitsEnd v_unitsAt v_tenPower o_text o_number_first o_number_last o_number_limbs o_rounded_first o_rounded_last o_rounded_limbs) ++ [(a_out, .inl (c_out, 1, .inr (.inl o_out)))])) (va_A ((wd_X1_print a_this a_text a_number a_number_limbs a_rounded a_rounded_limbs a_lowEdge a_highEdge c_text c_number_limbs c_rounded_limbs v_length v_digitsStart v_digitsEnd v_unitsAt v_tenPower v_text v_number_first v_number_last v_number_limbs v_rounded_first v_rounded_last v_rounded_limbs) ++ [(a_out, .inl (c_out, 1, .inr (.inl v_out)))]) sz)) 1 6 (va_A ((wd_X1_print a_this a_text a_number a_number_limbs a_rounded a_rounded_limbs a_lowEdge a_highEdge c_text c_number_limbs c_rounded_limbs v_length v_digitsStart v_digitsEnd v_unitsAt v_tenPower v_text v_number_first v_number_last v_number_limbs v_rounded_first v_rounded_last v_rounded_limbs) ++ [(a_out, .inl (c_out, 1, .inr (.inl v_out)))]) sz) := by
  unfold f_L_print at h
  obtain ⟨o, ho, h⟩ := bd h
  rcases o with ⟨r0, u⟩ | ⟨k, u⟩
  · obtain ⟨u0, u1, u2, u3, u4, u5, u6, u7⟩ := u
    dsimp only at h
    obtain ⟨h09, h19, h29, h39, h49, h59, h69, h79, h89, h99⟩ := rt10 h
    subst o_r
    subst o_out
    subst o_length
    subst o_text
    subst o_number_first
    subst o_number_last
    subst o_number_limbs
    subst o_rounded_first
    subst o_rounded_last
    subst o_rounded_limbs
    exact c_L_print_ret l hst dC dI a_TENS a_this a_text a_number a_number_limbs a_rounded a_rounded_limbs a_lowEdge a_highEdge c_text c_number_limbs c_rounded_limbs a_out c_out sz l1 l3 v_length v_digitsStart v_digitsEnd v_unitsAt v_tenPower v_text v_number_first v_number_last v_number_limbs v_rounded_first v_rounded_last v_rounded_limbs v_out r0 u0 u1 u2 u3 u4 u5 u6 u7 ho
  · obtain ⟨u0, u1, u2, u3, u4, u5, u6, u7⟩ := u
    dsimp only at h
    by_cases c1 : k = 1
    · subst c1
      have h := (if_pos rfl).symm.trans h
      obtain ⟨h09, h19, h29, h39, h49, h59, h69, h79, h89, h99⟩ := rt10 h
      subst o_r
      subst o_out
      subst o_length
      subst o_text
      subst o_number_first
      subst o_number_last
      subst o_number_limbs
      subst o_rounded_first
      subst o_rounded_last
      subst o_rounded_limbs
      exact c_L_print_1 l hst dC dI a_TENS a_this a_text a_number a_number_limbs a_rounded a_rounded_limbs a_lowEdge a_highEdge c_text c_number_limbs c_rounded_limbs a_out c_out sz l1 l3 v_length v_digitsStart v_digitsEnd v_unitsAt v_tenPower v_text v_number_first v_number_last v_number_limbs v_rounded_first v_rounded_last v_rounded_limbs v_out u0 u1 u2 u3 u4 u5 u6 u7 ho
    have h := (if_neg c1).symm.trans h
    by_cases c2 : k = 2
    · subst c2
      have h := (if_pos rfl).symm.trans h
      obtain ⟨h09, h19, h29, h39, h49, h59, h69, h79, h89, h99⟩ := rt10 h
      subst o_r
      subst o_out
      subst o_length
      subst o_text
      subst o_number_first
      subst o_number_last
      subst o_number_limbs
      subst o_rounded_first
      subst o_rounded_last
      subst o_rounded_limbs
      exact c_L_print_2 l hst dC dI a_TENS a_this a_text a_number a_number_limbs a_rounded a_rounded_limbs a_lowEdge a_highEdge c_text c_number_limbs c_rounded_limbs a_out c_out sz l1 l3 v_length v_digitsStart v_digitsEnd v_unitsAt v_tenPower v_text v_number_first v_number_last v_number_limbs v_rounded_first v_rounded_last v_rounded_limbs v_out u0 u1 u2 u3 u4 u5 u6 u7 ho
    have h := (if_neg c2).symm.trans h
    exact nomatch h
set_option maxHeartbeats 4000000 in
set_option maxRecDepth 100000 in
theorem c_L_shortest (l : Launch) (hst : l.stackTraces = false) (dC : Nat → ClassId) (dI : Nat → Nat → Nat) (a_TENS : Nat) (a_this a_text a_number a_number_limbs a_rounded a_rounded_limbs a_lowEdge a_lowEdge_limbs a_highEdge a_highEdge_limbs : Nat) (c_text c_number_limbs c_rounded_limbs c_lowEdge_limbs c_highEdge_limbs : ClassId) (a_out : Nat) (c_out : ClassId) (sz : Nat) (l1 : Int64) (v_length : Int32) (v_digitsStart : Int32) (v_digitsEnd : Int32) (v_unitsAt : Int32) (v_tenPower : Int32) (v_text : Nat → Int32) (v_number_first : Int32) (v_number_last : Int32) (v_number_limbs : Nat → Int64) (v_rounded_first : Int32) (v_rounded_last : Int32) (v_rounded_limbs : Nat → Int64) (v_lowEdge_first : Int32) (v_lowEdge_last : Int32) (v_lowEdge_limbs : Nat → Int64) (v_highEdge_first : Int32) (v_highEdge_last : Int32) (v_highEdge_limbs : Nat → Int64) (v_out : Nat → Int64) (o_r : Int32) (o_out : Nat → Int64) (o_length : Int32) (o_text : Nat → Int32) (o_number_first : Int32) (o_number_last : Int32) (o_number_limbs : Nat → Int64) (o_rounded_first : Int32) (o_rounded_last : Int32) (o_rounded_limbs : Nat → Int64) (o_lowEdge_first : Int32) (o_lowEdge_last : Int32) (o_lowEdge_limbs : Nat → Int64) (o_highEdge_first : Int32) (o_highEdge_last : Int32) (o_highEdge_limbs : Nat → Int64) (h : f_L_shortest l1 v_length v_text v_number_first v_number_last v_number_limbs v_rounded_first v_rounded_last v_rounded_limbs v_lowEdge_first v_lowEdge_last v_lowEdge_limbs v_highEdge_first v_highEdge_last v_highEdge_limbs v_out = some (o_r, o_out, o_length, o_text, o_number_first, o_number_last, o_number_limbs, o_rounded_first, o_rounded_last, o_rounded_limbs, o_lowEdge_first, o_lowEdge_last, o_lowEdge_limbs, o_highEdge_first, o_highEdge_last, o_highEdge_limbs)) : Met l yL_shortest w_L_shortest ({ frames := 7, cells := 1, slots := 6, locals := 169 } : Room) (va_Pc [.ref a_this, .long l1, .ref a_out] (fun U => U.heap.size = sz ∧ va_P (dC, dI) vwCl ((wd_X1_shortest a_this a_text a_number a_number_limbs a_rounded a_rounded_limbs a_lowEdge a_lowEdge_limbs a_highEdge a_highEdge_limbs c_text c_number_limbs c_rounded_limbs c_lowEdge_limbs c_highEdge_limbs v_length v_digitsStart v_digitsEnd v_unitsAt v_tenPower v_text v_number_first v_number_last v_number_limbs v_rounded_first v_rounded_last v_rounded_limbs v_lowEdge_first v_lowEdge_last v_lowEdge_limbs v_highEdge_first v_highEdge_last v_highEdge_limbs) ++ [(a_out, .inl (c_out, 1, .inr (.inl v_out)))]) U.heap ∧ va_K (dC, dI) vwCl [(c_text, .int), (c_number_limbs, .long), (c_rounded_limbs, .long), (c_lowEdge_limbs, .long), (c_highEdge_limbs, .long), (c_out, .long)] U ∧ va_D (fun _ => True) ((wd_X1_shortest a_this a_text a_number a_number_limbs a_rounded a_rounded_limbs a_lowEdge a_lowEdge_limbs a_highEdge a_highEdge_limbs c_text c_number_limbs c_rounded_limbs c_lowEdge_limbs c_highEdge_limbs v_length v_digitsStart v_digitsEnd v_unitsAt v_tenPower v_text v_number_first v_number_last v_number_limbs v_rounded_first v_rounded_last v_rounded_limbs v_lowEdge_first v_lowEdge_last v_lowEdge_limbs v_highEdge_first v_highEdge_last v_highEdge_limbs) ++ [(a_out, .inl (c_out, 1, .inr (.inl v_out)))]) ∧ EX (va_A ((wd_X1_shortest a_this a_text a_number a_number_limbs a_rounded a_rounded_limbs a_lowEdge a_lowEdge_limbs a_highEdge a_highEdge_limbs c_text c_number_limbs c_rounded_limbs c_lowEdge_limbs c_highEdge_limbs v_length v_digitsStart v_digitsEnd v_unitsAt v_tenPower v_text v_number_first v_number_last v_number_limbs v_rounded_first v_rounded_last v_rounded_limbs v_lowEdge_first v_lowEdge_last v_lowEdge_limbs v_highEdge_first v_highEdge_last v_highEdge_limbs) ++ [(a_out, .inl (c_out, 1, .inr (.inl v_out)))]) sz) U U.heap ∧ va_Z "DoubleText$Decimal" "TENS" "[J" (.ref a_TENS) (va_A ((wd_X1_shortest a_this a_text a_number a_number_limbs a_rounded a_rounded_limbs a_lowEdge a_lowEdge_limbs a_highEdge a_highEdge_limbs c_text c_number_limbs c_rounded_limbs c_lowEdge_limbs c_highEdge_limbs v_length v_digitsStart v_digitsEnd v_unitsAt v_tenPower v_text v_number_first v_number_last v_number_limbs v_rounded_first v_rounded_last v_rounded_limbs v_lowEdge_first v_lowEdge_last v_lowEdge_limbs v_highEdge_first v_highEdge_last v_highEdge_limbs) ++ [(a_out, .inl (c_out, 1, .inr (.inl v_out)))]) sz) U U.heap ∧ va_T .long a_TENS 9 TENS_v (va_A ((wd_X1_shortest a_this a_text a_number a_number_limbs a_rounded a_rounded_limbs a_lowEdge a_lowEdge_limbs a_highEdge a_highEdge_limbs c_text c_number_limbs c_rounded_limbs c_lowEdge_limbs c_highEdge_limbs v_length v_digitsStart v_digitsEnd v_unitsAt v_tenPower v_text v_number_first v_number_last v_number_limbs v_rounded_first v_rounded_last v_rounded_limbs v_lowEdge_first v_lowEdge_last v_lowEdge_limbs v_highEdge_first v_highEdge_last v_highEdge_limbs) ++ [(a_out, .inl (c_out, 1, .inr (.inl v_out)))]) sz) U U.heap)) (va_Qi (fun r9 (_ : Unit) => r9 = o_r) (fun _ t => va_P (dC, dI) vwCl ((wd_X1_shortest a_this a_text a_number a_number_limbs a_rounded a_rounded_limbs a_lowEdge a_lowEdge_limbs a_highEdge a_highEdge_limbs c_text c_number_limbs c_rounded_limbs c_lowEdge_limbs c_highEdge_limbs o_length v_digitsStart v_digitsEnd v_unitsAt v_tenPower o_text o_number_first o_number_last o_number_limbs o_rounded_first o_rounded_last o_rounded_limbs o_lowEdge_first o_lowEdge_last o_lowEdge_limbs o_highEdge_first o_highEdge_last o_highEdge_limbs) ++ [(a_out, .inl (c_out, 1, .inr (.inl o_out)))]) t.heap ∧ va_K (dC, dI) vwCl [(c_text, .int), (c_number_limbs, .long), (c_rounded_limbs, .long), (c_lowEdge_limbs, .long), (c_highEdge_limbs, .long), (c_out, .long)] t ∧ va_D (va_A ((wd_X1_shortest a_this a_text a_number a_number_limbs a_rounded a_rounded_limbs a_lowEdge a_lowEdge_limbs a_highEdge a_highEdge_limbs c_text c_number_limbs c_rounded_limbs c_lowEdge_limbs c_highEdge_limbs v_length v_digitsStart v_digitsEnd v_unitsAt v_tenPower v_text v_number_first v_number_last v_number_limbs v_rounded_first v_rounded_last v_rounded_limbs v_lowEdge_first v_lowEdge_last v_lowEdge_limbs v_highEdge_first v_highEdge_last v_highEdge_limbs) ++ [(a_out, .inl (c_out, 1, .inr (.inl v_out)))]) sz) ((wd_X1_shortest a_this a_text a_number a_number_limbs a_rounded a_rounded_limbs a_lowEdge a_lowEdge_limbs a_highEdge a_highEdge_limbs c_text c_number_limbs c_rounded_limbs c_lowEdge_limbs c_highEdge_limbs o_length v_digitsStart v_digitsEnd v_unitsAt v_tenPower o_text o_number_first o_number_last o_number_limbs o_rounded_first o_rounded_last o_rounded_limbs o_lowEdge_first o_lowEdge_last o_lowEdge_limbs o_highEdge_first o_highEdge_last o_highEdge_limbs) ++ [(a_out, .inl (c_out, 1, .inr (.inl o_out)))])) (va_A ((wd_X1_shortest a_this a_text a_number a_number_limbs a_rounded a_rounded_limbs a_lowEdge a_lowEdge_limbs a_highEdge a_highEdge_limbs c_text c_number_limbs c_rounded_limbs c_lowEdge_limbs c_highEdge_limbs v_length v_digitsStart v_digitsEnd v_unitsAt v_tenPower v_text v_number_first v_number_last v_number_limbs v_rounded_first v_rounded_last v_rounded_limbs v_lowEdge_first v_lowEdge_last v_lowEdge_limbs v_highEdge_first v_highEdge_last v_highEdge_limbs) ++ [(a_out, .inl (c_out, 1, .inr (.inl v_out)))]) sz)) 1 6 (va_A ((wd_X1_shortest a_this a_text a_number a_number_limbs a_rounded a_rounded_limbs a_lowEdge a_lowEdge_limbs a_highEdge a_highEdge_limbs c_text c_number_limbs c_rounded_limbs c_lowEdge_limbs c_highEdge_limbs v_length v_digitsStart v_digitsEnd v_unitsAt v_tenPower v_text v_number_first v_number_last v_number_limbs v_rounded_first v_rounded_last v_rounded_limbs v_lowEdge_first v_lowEdge_last v_lowEdge_limbs v_highEdge_first v_highEdge_last v_highEdge_limbs) ++ [(a_out, .inl (c_out, 1, .inr (.inl v_out)))]) sz) := by
  unfold f_L_shortest at h
  obtain ⟨o, ho, h⟩ := bd h
  rcases o with ⟨r0, u⟩ | ⟨k, u⟩
  · obtain ⟨u0, u1, u2, u3, u4, u5, u6, u7, u8, u9, u10, u11, u12, u13⟩ := u
    dsimp only at h
    obtain ⟨h09, h19, h29, h39, h49, h59, h69, h79, h89, h99, h109, h119, h129, h139, h149, h159⟩ := rt16 h
    subst o_r
    subst o_out
    subst o_length
    subst o_text
    subst o_number_first
    subst o_number_last
    subst o_number_limbs
    subst o_rounded_first
    subst o_rounded_last
    subst o_rounded_limbs
    subst o_lowEdge_first
    subst o_lowEdge_last
    subst o_lowEdge_limbs
    subst o_highEdge_first
    subst o_highEdge_last
    subst o_highEdge_limbs
    exact c_L_shortest_ret l hst dC dI a_TENS a_this a_text a_number a_number_limbs a_rounded a_rounded_limbs a_lowEdge a_lowEdge_limbs a_highEdge a_highEdge_limbs c_text c_number_limbs c_rounded_limbs c_lowEdge_limbs c_highEdge_limbs a_out c_out sz l1 v_length v_digitsStart v_digitsEnd v_unitsAt v_tenPower v_text v_number_first v_number_last v_number_limbs v_rounded_first v_rounded_last v_rounded_limbs v_lowEdge_first v_lowEdge_last v_lowEdge_limbs v_highEdge_first v_highEdge_last v_highEdge_limbs v_out r0 u0 u1 u2 u3 u4 u5 u6 u7 u8 u9 u10 u11 u12 u13 ho
  · obtain ⟨u0, u1, u2, u3, u4, u5, u6, u7, u8, u9, u10, u11, u12, u13⟩ := u
    dsimp only at h
    by_cases c2 : k = 2
    · subst c2
      have h := (if_pos rfl).symm.trans h
      obtain ⟨h09, h19, h29, h39, h49, h59, h69, h79, h89, h99, h109, h119, h129, h139, h149, h159⟩ := rt16 h
      subst o_r
      subst o_out
      subst o_length
      subst o_text
      subst o_number_first
      subst o_number_last
      subst o_number_limbs
      subst o_rounded_first
      subst o_rounded_last
      subst o_rounded_limbs
      subst o_lowEdge_first
      subst o_lowEdge_last
      subst o_lowEdge_limbs
      subst o_highEdge_first
      subst o_highEdge_last
      subst o_highEdge_limbs
      exact c_L_shortest_2 l hst dC dI a_TENS a_this a_text a_number a_number_limbs a_rounded a_rounded_limbs a_lowEdge a_lowEdge_limbs a_highEdge a_highEdge_limbs c_text c_number_limbs c_rounded_limbs c_lowEdge_limbs c_highEdge_limbs a_out c_out sz l1 v_length v_digitsStart v_digitsEnd v_unitsAt v_tenPower v_text v_number_first v_number_last v_number_limbs v_rounded_first v_rounded_last v_rounded_limbs v_lowEdge_first v_lowEdge_last v_lowEdge_limbs v_highEdge_first v_highEdge_last v_highEdge_limbs v_out u0 u1 u2 u3 u4 u5 u6 u7 u8 u9 u10 u11 u12 u13 ho
    have h := (if_neg c2).symm.trans h
    exact nomatch h
set_option maxHeartbeats 4000000 in
set_option maxRecDepth 100000 in
theorem c_L_letter (l : Launch) (hst : l.stackTraces = false) (dC : Nat → ClassId) (dI : Nat → Nat → Nat)  (a_this a_text a_number a_rounded a_lowEdge a_highEdge : Nat) (c_text : ClassId) (a_out : Nat) (c_out : ClassId) (sz : Nat) (l1 : Int32) (v_length : Int32) (v_digitsStart : Int32) (v_digitsEnd : Int32) (v_unitsAt : Int32) (v_tenPower : Int32) (v_text : Nat → Int32) (v_out : Nat → Int64) (o_r : Int32) (o_out : Nat → Int64)  (h : f_L_letter l1 v_length v_text v_out = some (o_r, o_out)) : Met l yL_letter w_L_letter ({ frames := 7, cells := 1, slots := 6, locals := 102 } : Room) (va_Pc [.ref a_this, .int l1, .ref a_out] (fun U => U.heap.size = sz ∧ va_P (dC, dI) vwCl ((wd_X1_letter a_this a_text a_number a_rounded a_lowEdge a_highEdge c_text v_length v_digitsStart v_digitsEnd v_unitsAt v_tenPower v_text) ++ [(a_out, .inl (c_out, 1, .inr (.inl v_out)))]) U.heap ∧ va_K (dC, dI) vwCl [(c_text, .int), (c_out, .long)] U ∧ va_D (fun _ => True) ((wd_X1_letter a_this a_text a_number a_rounded a_lowEdge a_highEdge c_text v_length v_digitsStart v_digitsEnd v_unitsAt v_tenPower v_text) ++ [(a_out, .inl (c_out, 1, .inr (.inl v_out)))]) ∧ EX (va_A ((wd_X1_letter a_this a_text a_number a_rounded a_lowEdge a_highEdge c_text v_length v_digitsStart v_digitsEnd v_unitsAt v_tenPower v_text) ++ [(a_out, .inl (c_out, 1, .inr (.inl v_out)))]) sz) U U.heap)) (va_Qi (fun r9 (_ : Unit) => r9 = o_r) (fun _ t => va_P (dC, dI) vwCl ((wd_X1_letter a_this a_text a_number a_rounded a_lowEdge a_highEdge c_text v_length v_digitsStart v_digitsEnd v_unitsAt v_tenPower v_text) ++ [(a_out, .inl (c_out, 1, .inr (.inl o_out)))]) t.heap ∧ va_K (dC, dI) vwCl [(c_text, .int), (c_out, .long)] t ∧ va_D (va_A ((wd_X1_letter a_this a_text a_number a_rounded a_lowEdge a_highEdge c_text v_length v_digitsStart v_digitsEnd v_unitsAt v_tenPower v_text) ++ [(a_out, .inl (c_out, 1, .inr (.inl v_out)))]) sz) ((wd_X1_letter a_this a_text a_number a_rounded a_lowEdge a_highEdge c_text v_length v_digitsStart v_digitsEnd v_unitsAt v_tenPower v_text) ++ [(a_out, .inl (c_out, 1, .inr (.inl o_out)))])) (va_A ((wd_X1_letter a_this a_text a_number a_rounded a_lowEdge a_highEdge c_text v_length v_digitsStart v_digitsEnd v_unitsAt v_tenPower v_text) ++ [(a_out, .inl (c_out, 1, .inr (.inl v_out)))]) sz)) 1 6 (va_A ((wd_X1_letter a_this a_text a_number a_rounded a_lowEdge a_highEdge c_text v_length v_digitsStart v_digitsEnd v_unitsAt v_tenPower v_text) ++ [(a_out, .inl (c_out, 1, .inr (.inl v_out)))]) sz) := by
  unfold f_L_letter at h
  obtain ⟨o, ho, h⟩ := bd h
  rcases o with ⟨r0, u⟩ | ⟨k, u⟩
  · dsimp only at h
    obtain ⟨h09, h19⟩ := rt2 h
    subst o_r
    subst o_out
    exact c_L_letter_ret l hst dC dI  a_this a_text a_number a_rounded a_lowEdge a_highEdge c_text a_out c_out sz l1 v_length v_digitsStart v_digitsEnd v_unitsAt v_tenPower v_text v_out r0  ho
  · dsimp only at h
    by_cases c3 : k = 3
    · subst c3
      have h := (if_pos rfl).symm.trans h
      obtain ⟨h09, h19⟩ := rt2 h
      subst o_r
      subst o_out
      exact c_L_letter_3 l hst dC dI  a_this a_text a_number a_rounded a_lowEdge a_highEdge c_text a_out c_out sz l1 v_length v_digitsStart v_digitsEnd v_unitsAt v_tenPower v_text v_out  ho
    have h := (if_neg c3).symm.trans h
    exact nomatch h
