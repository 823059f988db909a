abbrev w_X0_wipe : List Cond := Cond.code yX0_wipe cX0_wipe 2 none :: wsL_law
abbrev wd_X0_wipe (a_this a_limbs : Nat) (c_limbs : ClassId) (v_first : Int32) (v_last : Int32) (v_limbs : Nat → Int64) : va_W := [(a_this, .inr (0, [.ref a_limbs, .int v_first, .int v_last])), (a_limbs, .inl (c_limbs, 160, .inr (.inl v_limbs)))]
def f_X0_wipe_L5 : Nat → (Int32) → (Int32) → (Int32) → (Nat → Int64) → Option ((Int32) × (Int32) × (Nat → Int64))
  | 0, _, _, _, _ => none
  | n + 1, l1, v_first, v_last, v_limbs =>
    (if v_last < l1 then
some (160, (-1), v_limbs)
    else
(if l1 < 0 ∨ 160 ≤ Int32.toNatClampNeg l1 then none else
f_X0_wipe_L5 n (l1 + 1) v_first v_last (vp_updL v_limbs (Int32.toNatClampNeg l1) 0)))
def f_X0_wipe (v_first : Int32) (v_last : Int32) (v_limbs : Nat → Int64) : Option ((Int32) × (Int32) × (Nat → Int64)) :=
    f_X0_wipe_L5 FU v_first v_first v_last v_limbs

abbrev w_J9_floorDiv_7cf53 : List Cond := Cond.code yJ9_floorDiv_7cf53 cJ9_floorDiv_7cf53 3 (some .int) :: wsL_law
def f_J9_floorDiv_7cf53 (l0 : Int32) (l1 : Int32) : Option ((Int32)) :=
    (if l1 = 0 then none else
(if 0 ≤ (l0 ^^^ l1) then
some (l0 / l1)
  else
(if ((l0 / l1) * l1) = l0 then
some (l0 / l1)
    else
some ((l0 / l1) - 1))))

abbrev w_X0_limbOf : List Cond := Cond.code yX0_limbOf cX0_limbOf 1 (some .int) :: wsL_law
def f_X0_limbOf (l0 : Int32) : Option ((Int32)) :=
    ((f_J9_floorDiv_7cf53 l0 9).bind fun r5 =>
some (34 - r5))

abbrev w_J9_floorMod_7cf53 : List Cond := Cond.code yJ9_floorMod_7cf53 cJ9_floorMod_7cf53 3 (some .int) :: wsL_law
def f_J9_floorMod_7cf53 (l0 : Int32) (l1 : Int32) : Option ((Int32)) :=
    (if l1 = 0 then none else
(if 0 ≤ (l0 ^^^ l1) then
some (l0 - l0 / l1 * l1)
  else
(if (l0 - l0 / l1 * l1) = 0 then
some (l0 - l0 / l1 * l1)
    else
some ((l0 - l0 / l1 * l1) + l1))))

abbrev w_X0_unitOf : List Cond := Cond.code yX0_unitOf cX0_unitOf 1 (some .long) :: wsL_law
def f_X0_unitOf (l0 : Int32) : Option ((Int64)) :=
    ((f_J9_floorMod_7cf53 l0 9).bind fun r6 =>
(if r6 < 0 ∨ 9 ≤ Int32.toNatClampNeg r6 then none else
some (TENS_f (Int32.toNatClampNeg r6))))

abbrev w_X0_setDigit : List Cond := Cond.code yX0_setDigit cX0_setDigit 4 none :: wsL_law
abbrev wd_X0_setDigit (a_this a_limbs : Nat) (c_limbs : ClassId) (v_first : Int32) (v_last : Int32) (v_limbs : Nat → Int64) : va_W := [(a_this, .inr (0, [.ref a_limbs, .int v_first, .int v_last])), (a_limbs, .inl (c_limbs, 160, .inr (.inl v_limbs)))]
def f_X0_setDigit (l1 : Int32) (l2 : Int32) (v_first : Int32) (v_last : Int32) (v_limbs : Nat → Int64) : Option ((Int32) × (Int32) × (Nat → Int64)) :=
    ((f_X0_limbOf l1).bind fun r1 =>
(if r1 < 0 then
some (v_first, v_last, v_limbs)
  else
(if 160 ≤ r1 then
some (v_first, v_last, v_limbs)
    else
(if l2 = 0 then
some (v_first, v_last, v_limbs)
      else
(if r1 < 0 ∨ 160 ≤ Int32.toNatClampNeg r1 then none else
((f_X0_unitOf l1).bind fun r31 =>
(if r1 < 0 ∨ 160 ≤ Int32.toNatClampNeg r1 then none else
some ((if r1 < v_first then r1 else v_first), (if v_last < r1 then r1 else v_last), (vp_updL v_limbs (Int32.toNatClampNeg r1) ((v_limbs (Int32.toNatClampNeg r1)) + ((Int32.toInt64 l2) * r31)))))))))))

abbrev w_X0_limb : List Cond := Cond.code yX0_limb cX0_limb 2 (some .long) :: wsL_law
abbrev wd_X0_limb (a_this a_limbs : Nat) (c_limbs : ClassId) (v_first : Int32) (v_last : Int32) (v_limbs : Nat → Int64) : va_W := [(a_this, .inr (0, [.ref a_limbs, .int v_first, .int v_last])), (a_limbs, .inl (c_limbs, 160, .inr (.inl v_limbs)))]
def f_X0_limb (l1 : Int32) (v_limbs : Nat → Int64) : Option ((Int64)) :=
    (if l1 < 0 then
some 0
  else
(if 160 ≤ l1 then
some 0
    else
(if l1 < 0 ∨ 160 ≤ Int32.toNatClampNeg l1 then none else
some (v_limbs (Int32.toNatClampNeg l1)))))

abbrev w_X0_digit : List Cond := Cond.code yX0_digit cX0_digit 2 (some .int) :: wsL_law
abbrev wd_X0_digit (a_this a_limbs : Nat) (c_limbs : ClassId) (v_first : Int32) (v_last : Int32) (v_limbs : Nat → Int64) : va_W := [(a_this, .inr (0, [.ref a_limbs, .int v_first, .int v_last])), (a_limbs, .inl (c_limbs, 160, .inr (.inl v_limbs)))]
def f_X0_digit (l1 : Int32) (v_limbs : Nat → Int64) : Option ((Int32)) :=
    ((f_X0_limbOf l1).bind fun r2 =>
((f_X0_limb r2 v_limbs).bind fun r5 =>
((f_X0_unitOf l1).bind fun r9 =>
(if r9 = 0 then none else
some (Int64.toInt32 ((r5 / r9) - (r5 / r9) / 10 * 10))))))

abbrev w_X0_topPlace : List Cond := Cond.code yX0_topPlace cX0_topPlace 4 (some .int) :: wsL_law
abbrev wd_X0_topPlace (a_this a_limbs : Nat) (c_limbs : ClassId) (v_first : Int32) (v_last : Int32) (v_limbs : Nat → Int64) : va_W := [(a_this, .inr (0, [.ref a_limbs, .int v_first, .int v_last])), (a_limbs, .inl (c_limbs, 160, .inr (.inl v_limbs)))]
def f_X0_topPlace_b40 (l3 : Int32) (v_first : Int32) (v_limbs : Nat → Int64) : Option ((Int32)) :=
    some (((34 - v_first) * 9) + l3)
def f_X0_topPlace_L20 : Nat → (Int64) → (Int32) → (Int32) → (Nat → Int64) → Option ((Int32))
  | 0, _, _, _, _ => none
  | n + 1, l1, l3, v_first, v_limbs =>
    (if l3 ≤ 0 then
f_X0_topPlace_b40  l3 v_first v_limbs
    else
(if l3 < 0 ∨ 9 ≤ Int32.toNatClampNeg l3 then none else
(if 0 ≤ (lg_cmp l1 (TENS_f (Int32.toNatClampNeg l3))) then
f_X0_topPlace_b40  l3 v_first v_limbs
      else
f_X0_topPlace_L20 n l1 (l3 + (-1)) v_first v_limbs)))
def f_X0_topPlace (v_first : Int32) (v_limbs : Nat → Int64) : Option ((Int32)) :=
    ((f_X0_limb v_first v_limbs).bind fun r5 =>
(if (lg_cmp r5 0) = 0 then
some 0
  else
f_X0_topPlace_L20 FU r5 8 v_first v_limbs))

abbrev w_X0_isWide : List Cond := Cond.code yX0_isWide cX0_isWide 1 (some .boolean) :: wsL_law
abbrev wd_X0_isWide (a_this a_limbs : Nat) (v_first : Int32) (v_last : Int32) : va_W := [(a_this, .inr (0, [.ref a_limbs, .int v_first, .int v_last]))]
def f_X0_isWide (v_first : Int32) : Option ((Int32)) :=
    (if 33 ≤ v_first then
some 0
  else
some 1)

abbrev w_X0_whole : List Cond := Cond.code yX0_whole cX0_whole 1 (some .long) :: wsL_law
abbrev wd_X0_whole (a_this a_limbs : Nat) (c_limbs : ClassId) (v_first : Int32) (v_last : Int32) (v_limbs : Nat → Int64) : va_W := [(a_this, .inr (0, [.ref a_limbs, .int v_first, .int v_last])), (a_limbs, .inl (c_limbs, 160, .inr (.inl v_limbs)))]
def f_X0_whole (v_limbs : Nat → Int64) : Option ((Int64)) :=
    some (((v_limbs (Int32.toNatClampNeg 33)) * 1000000000) + (v_limbs (Int32.toNatClampNeg 34)))

abbrev w_X0_trim : List Cond := Cond.code yX0_trim cX0_trim 1 none :: wsL_law
abbrev wd_X0_trim (a_this a_limbs : Nat) (c_limbs : ClassId) (v_first : Int32) (v_last : Int32) (v_limbs : Nat → Int64) : va_W := [(a_this, .inr (0, [.ref a_limbs, .int v_first, .int v_last])), (a_limbs, .inl (c_limbs, 160, .inr (.inl v_limbs)))]
def f_X0_trim_L38 : Nat → (Int32) → (Int32) → (Nat → Int64) → Option ((Int32) × (Int32))
  | 0, _, _, _ => none
  | n + 1, v_first, v_last, v_limbs =>
    (if v_last < v_first then
some (v_first, v_last)
    else
(if v_last < 0 ∨ 160 ≤ Int32.toNatClampNeg v_last then none else
(if (lg_cmp (v_limbs (Int32.toNatClampNeg v_last)) 0) = 0 then
f_X0_trim_L38 n v_first (v_last - 1) v_limbs
      else
some (v_first, v_last))))
def f_X0_trim_L0 : Nat → (Int32) → (Int32) → (Nat → Int64) → Option ((Int32) × (Int32))
  | 0, _, _, _ => none
  | n + 1, v_first, v_last, v_limbs =>
    (if v_last < v_first then
f_X0_trim_L38 FU v_first v_last v_limbs
    else
(if v_first < 0 ∨ 160 ≤ Int32.toNatClampNeg v_first then none else
(if (lg_cmp (v_limbs (Int32.toNatClampNeg v_first)) 0) = 0 then
f_X0_trim_L0 n (v_first + 1) v_last v_limbs
      else
f_X0_trim_L38 FU v_first v_last v_limbs)))
def f_X0_trim (v_first : Int32) (v_last : Int32) (v_limbs : Nat → Int64) : Option ((Int32) × (Int32)) :=
    (if v_last < v_first then
f_X0_trim_L38 FU v_first v_last v_limbs
  else
(if v_first < 0 ∨ 160 ≤ Int32.toNatClampNeg v_first then none else
(if (lg_cmp (v_limbs (Int32.toNatClampNeg v_first)) 0) = 0 then
f_X0_trim_L0 FU (v_first + 1) v_last v_limbs
    else
f_X0_trim_L38 FU v_first v_last v_limbs)))

abbrev w_X0_scaleDown : List Cond := Cond.code yX0_scaleDown cX0_scaleDown 9 none :: wsL_law
abbrev wd_X0_scaleDown (a_this a_limbs : Nat) (c_limbs : ClassId) (v_first : Int32) (v_last : Int32) (v_limbs : Nat → Int64) : va_W := [(a_this, .inr (0, [.ref a_limbs, .int v_first, .int v_last])), (a_limbs, .inl (c_limbs, 160, .inr (.inl v_limbs)))]
def f_X0_scaleDown_L71 : Nat → (Int32) → (Int64) → (Int64) → (Int32) → (Int32) → (Int32) → (Nat → Int64) → Option ((Int32) × (Int32) × (Nat → Int64))
  | 0, _, _, _, _, _, _, _ => none
  | n + 1, l1, l2, l4, l6, v_first, v_last, v_limbs =>
    (if 160 ≤ l6 then
((f_X0_trim v_first v_last v_limbs).bind fun (v_first_124, v_last_124) =>
some (v_first_124, v_last_124, v_limbs))
    else
(if (lg_cmp l4 0) ≤ 0 then
((f_X0_trim v_first v_last v_limbs).bind fun (v_first_124, v_last_124) =>
some (v_first_124, v_last_124, v_limbs))
      else
(if l6 < 0 ∨ 160 ≤ Int32.toNatClampNeg l6 then none else
f_X0_scaleDown_L71 n l1 l2 ((l4 * 1000000000) &&& l2) (l6 + 1) v_first l6 (vp_updL v_limbs (Int32.toNatClampNeg l6) ((Int64.toUInt64 (l4 * 1000000000) >>> (Int64.toUInt64 (Int32.toInt64 l1) &&& Int64.toUInt64 63)).toInt64)))))
def f_X0_scaleDown_L15 : Nat → (Int32) → (Int64) → (Int64) → (Int32) → (Int32) → (Int32) → (Nat → Int64) → Option ((Int32) × (Int32) × (Nat → Int64))
  | 0, _, _, _, _, _, _, _ => none
  | n + 1, l1, l2, l4, l6, v_first, v_last, v_limbs =>
    (if v_last < l6 then
f_X0_scaleDown_L71 FU l1 l2 l4 (v_last + 1) v_first v_last v_limbs
    else
(if l6 < 0 ∨ 160 ≤ Int32.toNatClampNeg l6 then none else
(if l6 < 0 ∨ 160 ≤ Int32.toNatClampNeg l6 then none else
f_X0_scaleDown_L15 n l1 l2 (((l4 * 1000000000) + (v_limbs (Int32.toNatClampNeg l6))) &&& l2) (l6 + 1) v_first v_last (vp_updL v_limbs (Int32.toNatClampNeg l6) ((Int64.toUInt64 ((l4 * 1000000000) + (v_limbs (Int32.toNatClampNeg l6))) >>> (Int64.toUInt64 (Int32.toInt64 l1) &&& Int64.toUInt64 63)).toInt64)))))
def f_X0_scaleDown (l1 : Int32) (v_first : Int32) (v_last : Int32) (v_limbs : Nat → Int64) : Option ((Int32) × (Int32) × (Nat → Int64)) :=
    f_X0_scaleDown_L15 FU l1 ((1 <<< (Int32.toInt64 l1 &&& 63)) - 1) 0 v_first v_first v_last v_limbs

abbrev w_X0_scaleUp : List Cond := Cond.code yX0_scaleUp cX0_scaleUp 7 none :: wsL_law
abbrev wd_X0_scaleUp (a_this a_limbs : Nat) (c_limbs : ClassId) (v_first : Int32) (v_last : Int32) (v_limbs : Nat → Int64) : va_W := [(a_this, .inr (0, [.ref a_limbs, .int v_first, .int v_last])), (a_limbs, .inl (c_limbs, 160, .inr (.inl v_limbs)))]
def f_X0_scaleUp_L66 : Nat → (Int64) → (Int32) → (Int32) → (Int32) → (Nat → Int64) → Option ((Int32) × (Int32) × (Nat → Int64))
  | 0, _, _, _, _, _ => none
  | n + 1, l2, l4, v_first, v_last, v_limbs =>
    (if l4 < 0 then
((f_X0_trim v_first v_last v_limbs).bind fun (v_first_108, v_last_108) =>
some (v_first_108, v_last_108, v_limbs))
    else
(if (lg_cmp l2 0) ≤ 0 then
((f_X0_trim v_first v_last v_limbs).bind fun (v_first_108, v_last_108) =>
some (v_first_108, v_last_108, v_limbs))
      else
(if l4 < 0 ∨ 160 ≤ Int32.toNatClampNeg l4 then none else
f_X0_scaleUp_L66 n (l2 / 1000000000) (l4 + (-1)) l4 v_last (vp_updL v_limbs (Int32.toNatClampNeg l4) (l2 - l2 / 1000000000 * 1000000000)))))
def f_X0_scaleUp_L8 : Nat → (Int32) → (Int64) → (Int32) → (Int32) → (Int32) → (Nat → Int64) → Option ((Int32) × (Int32) × (Nat → Int64))
  | 0, _, _, _, _, _, _ => none
  | n + 1, l1, l2, l4, v_first, v_last, v_limbs =>
    (if l4 < v_first then
f_X0_scaleUp_L66 FU l2 (v_first - 1) v_first v_last v_limbs
    else
(if l4 < 0 ∨ 160 ≤ Int32.toNatClampNeg l4 then none else
(if l4 < 0 ∨ 160 ≤ Int32.toNatClampNeg l4 then none else
f_X0_scaleUp_L8 n l1 ((((v_limbs (Int32.toNatClampNeg l4)) <<< (Int32.toInt64 l1 &&& 63)) + l2) / 1000000000) (l4 + (-1)) v_first v_last (vp_updL v_limbs (Int32.toNatClampNeg l4) ((((v_limbs (Int32.toNatClampNeg l4)) <<< (Int32.toInt64 l1 &&& 63)) + l2) - (((((v_limbs (Int32.toNatClampNeg l4)) <<< (Int32.toInt64 l1 &&& 63)) + l2) / 1000000000) * 1000000000))))))
def f_X0_scaleUp (l1 : Int32) (v_first : Int32) (v_last : Int32) (v_limbs : Nat → Int64) : Option ((Int32) × (Int32) × (Nat → Int64)) :=
    f_X0_scaleUp_L8 FU l1 0 v_last v_first v_last v_limbs

abbrev w_X0_scale : List Cond := Cond.code yX0_scale cX0_scale 3 none :: wsL_law
abbrev wd_X0_scale (a_this a_limbs : Nat) (c_limbs : ClassId) (v_first : Int32) (v_last : Int32) (v_limbs : Nat → Int64) : va_W := [(a_this, .inr (0, [.ref a_limbs, .int v_first, .int v_last])), (a_limbs, .inl (c_limbs, 160, .inr (.inl v_limbs)))]
def f_X0_scale_L25 : Nat → (Int32) → (Int32) → (Int32) → (Nat → Int64) → Option ((Int32) × (Int32) × (Nat → Int64))
  | 0, _, _, _, _ => none
  | n + 1, l2, v_first, v_last, v_limbs =>
    (if l2 ≤ 0 then
some (v_first, v_last, v_limbs)
    else
((f_X0_scaleDown (if 33 < l2 then 33 else l2) v_first v_last v_limbs).bind fun (v_first_36, v_last_36, v_limbs_36) =>
f_X0_scale_L25 n (l2 + (-33)) v_first_36 v_last_36 v_limbs_36))
def f_X0_scale_L2 : Nat → (Int32) → (Int32) → (Int32) → (Int32) → (Nat → Int64) → Option ((Int32) × (Int32) × (Nat → Int64))
  | 0, _, _, _, _, _ => none
  | n + 1, l1, l2, v_first, v_last, v_limbs =>
    (if l2 ≤ 0 then
f_X0_scale_L25 FU (-l1) v_first v_last v_limbs
    else
((f_X0_scaleUp (if 33 < l2 then 33 else l2) v_first v_last v_limbs).bind fun (v_first_13, v_last_13, v_limbs_13) =>
f_X0_scale_L2 n l1 (l2 + (-33)) v_first_13 v_last_13 v_limbs_13))
def f_X0_scale (l1 : Int32) (v_first : Int32) (v_last : Int32) (v_limbs : Nat → Int64) : Option ((Int32) × (Int32) × (Nat → Int64)) :=
    f_X0_scale_L2 FU l1 l1 v_first v_last v_limbs

abbrev w_X0_takeScaled : List Cond := Cond.code yX0_takeScaled cX0_takeScaled 4 none :: wsL_law
abbrev wd_X0_takeScaled (a_this a_limbs : Nat) (c_limbs : ClassId) (v_first : Int32) (v_last : Int32) (v_limbs : Nat → Int64) : va_W := [(a_this, .inr (0, [.ref a_limbs, .int v_first, .int v_last])), (a_limbs, .inl (c_limbs, 160, .inr (.inl v_limbs)))]
def f_X0_takeScaled (l1 : Int64) (l3 : Int32) (v_first : Int32) (v_last : Int32) (v_limbs : Nat → Int64) : Option ((Int32) × (Int32) × (Nat → Int64)) :=
    ((f_X0_wipe v_first v_last v_limbs).bind fun (v_first_1, v_last_1, v_limbs_1) =>
((f_X0_trim 33 34 (vp_updL (vp_updL v_limbs_1 (Int32.toNatClampNeg 33) (l1 / 1000000000)) (Int32.toNatClampNeg 34) (l1 - l1 / 1000000000 * 1000000000))).bind fun (v_first_41, v_last_41) =>
((f_X0_scale l3 v_first_41 v_last_41 (vp_updL (vp_updL v_limbs_1 (Int32.toNatClampNeg 33) (l1 / 1000000000)) (Int32.toNatClampNeg 34) (l1 - l1 / 1000000000 * 1000000000))).bind fun (v_first_46, v_last_46, v_limbs_46) =>
some (v_first_46, v_last_46, v_limbs_46))))

abbrev w_J13_compare_74951 : List Cond := Cond.code yJ13_compare_74951 cJ13_compare_74951 4 (some .int) :: wsL_law
def f_J13_compare_74951 (l0 : Int64) (l2 : Int64) : Option ((Int32)) :=
    (if 0 ≤ (lg_cmp l0 l2) then
(if (lg_cmp l0 l2) = 0 then
some 0
    else
some 1)
  else
some (-1))

abbrev w_X0_sideOfHalf : List Cond := Cond.code yX0_sideOfHalf cX0_sideOfHalf 8 (some .int) :: wsL_law
abbrev wd_X0_sideOfHalf (a_this a_limbs : Nat) (c_limbs : ClassId) (v_first : Int32) (v_last : Int32) (v_limbs : Nat → Int64) : va_W := [(a_this, .inr (0, [.ref a_limbs, .int v_first, .int v_last])), (a_limbs, .inl (c_limbs, 160, .inr (.inl v_limbs)))]
def f_X0_sideOfHalf_b28 (l4 : Int32) (s0 : Int64) (v_last : Int32) (v_limbs : Nat → Int64) : Option ((Int32)) :=
    ((f_X0_limb l4 v_limbs).bind fun r33 =>
(if s0 = 0 then none else
((f_J13_compare_74951 (r33 - r33 / s0 * s0) (s0 / 2)).bind fun r45 =>
(if r45 = 0 then
(if v_last ≤ l4 then
some r45
    else
some 1)
  else
some r45))))
def f_X0_sideOfHalf_b13 (l2 : Int64) (s0 : Int32) (v_last : Int32) (v_limbs : Nat → Int64) : Option ((Int32)) :=
    (if (lg_cmp l2 1) = 0 then
f_X0_sideOfHalf_b28  s0 1000000000 v_last v_limbs
  else
f_X0_sideOfHalf_b28  s0 l2 v_last v_limbs)
def f_X0_sideOfHalf (l1 : Int32) (l2 : Int64) (v_last : Int32) (v_limbs : Nat → Int64) : Option ((Int32)) :=
    (if (lg_cmp l2 1) = 0 then
f_X0_sideOfHalf_b13  l2 (l1 + 1) v_last v_limbs
  else
f_X0_sideOfHalf_b13  l2 l1 v_last v_limbs)

abbrev w_X0_roundsUp : List Cond := Cond.code yX0_roundsUp cX0_roundsUp 5 (some .boolean) :: wsL_law
abbrev wd_X0_roundsUp (a_this a_limbs : Nat) (c_limbs : ClassId) (v_first : Int32) (v_last : Int32) (v_limbs : Nat → Int64) : va_W := [(a_this, .inr (0, [.ref a_limbs, .int v_first, .int v_last])), (a_limbs, .inl (c_limbs, 160, .inr (.inl v_limbs)))]
def f_X0_roundsUp (l1 : Int32) (l2 : Int64) (v_last : Int32) (v_limbs : Nat → Int64) : Option ((Int32)) :=
    ((f_X0_sideOfHalf l1 l2 v_last v_limbs).bind fun r3 =>
(if 0 < r3 then
some 1
  else
(if r3 = 0 then
((f_X0_limb l1 v_limbs).bind fun r20 =>
(if l2 = 0 then none else
(if (lg_cmp ((r20 / l2) - (r20 / l2) / 2 * 2) 1) = 0 then
some 1
      else
some 0)))
    else
some 0)))

abbrev w_X0_countUp : List Cond := Cond.code yX0_countUp cX0_countUp 5 none :: wsL_law
abbrev wd_X0_countUp (a_this a_limbs : Nat) (c_limbs : ClassId) (v_first : Int32) (v_last : Int32) (v_limbs : Nat → Int64) : va_W := [(a_this, .inr (0, [.ref a_limbs, .int v_first, .int v_last])), (a_limbs, .inl (c_limbs, 160, .inr (.inl v_limbs)))]
def f_X0_countUp_L13 : Nat → (Int32) → (Int32) → (Nat → Int64) → Option ((Int32) × (Nat → Int64))
  | 0, _, _, _ => none
  | n + 1, l4, v_first, v_limbs =>
    (if l4 ≤ 0 then
some (v_first, v_limbs)
    else
(if l4 < 0 ∨ 160 ≤ Int32.toNatClampNeg l4 then none else
(if (lg_cmp (v_limbs (Int32.toNatClampNeg l4)) 1000000000) < 0 then
some (v_first, v_limbs)
      else
(if l4 < 0 ∨ 160 ≤ Int32.toNatClampNeg l4 then none else
(if l4 < 0 ∨ 160 ≤ Int32.toNatClampNeg l4 then none else
(if (l4 - 1) < 0 ∨ 160 ≤ Int32.toNatClampNeg (l4 - 1) then none else
(if (l4 - 1) < 0 ∨ 160 ≤ Int32.toNatClampNeg (l4 - 1) then none else
f_X0_countUp_L13 n (l4 + (-1)) (if (l4 - 1) < v_first then (l4 - 1) else v_first) (vp_updL (vp_updL v_limbs (Int32.toNatClampNeg l4) ((v_limbs (Int32.toNatClampNeg l4)) - 1000000000)) (Int32.toNatClampNeg (l4 - 1)) (((vp_updL v_limbs (Int32.toNatClampNeg l4) ((v_limbs (Int32.toNatClampNeg l4)) - 1000000000)) (Int32.toNatClampNeg (l4 - 1))) + 1)))))))))
def f_X0_countUp (l1 : Int32) (l2 : Int64) (v_first : Int32) (v_limbs : Nat → Int64) : Option ((Int32) × (Nat → Int64)) :=
    (if l1 < 0 ∨ 160 ≤ Int32.toNatClampNeg l1 then none else
(if l1 < 0 ∨ 160 ≤ Int32.toNatClampNeg l1 then none else
f_X0_countUp_L13 FU l1 v_first (vp_updL v_limbs (Int32.toNatClampNeg l1) ((v_limbs (Int32.toNatClampNeg l1)) + l2))))

abbrev w_X0_takeRounded : List Cond := Cond.code yX0_takeRounded cX0_takeRounded 6 none :: wsL_law
abbrev wd_X0_takeRounded (a_this a_limbs a_p1 a_p1_limbs : Nat) (c_limbs c_p1_limbs : ClassId) (v_first : Int32) (v_last : Int32) (v_limbs : Nat → Int64) (v_p1_first : Int32) (v_p1_last : Int32) (v_p1_limbs : Nat → Int64) : va_W := [(a_this, .inr (0, [.ref a_limbs, .int v_first, .int v_last])), (a_limbs, .inl (c_limbs, 160, .inr (.inl v_limbs))), (a_p1, .inr (0, [.ref a_p1_limbs, .int v_p1_first, .int v_p1_last])), (a_p1_limbs, .inl (c_p1_limbs, 160, .inr (.inl v_p1_limbs)))]
def f_X0_takeRounded_L27 : Nat → (Int32) → (Int32) → (Int32) → (Int32) → (Int32) → (Nat → Int64) → (Int32) → (Int32) → (Nat → Int64) → Option ((Int32) × (Int32) × (Nat → Int64))
  | 0, _, _, _, _, _, _, _, _, _ => none
  | n + 1, l2, l3, l4, v_first, v_last, v_limbs, v_p1_first, v_p1_last, v_p1_limbs =>
    (if l3 < l4 then
((f_X0_unitOf l2).bind fun r54 =>
(if l3 < 0 ∨ 160 ≤ Int32.toNatClampNeg l3 then none else
(if l3 < 0 ∨ 160 ≤ Int32.toNatClampNeg l3 then none else
(if r54 = 0 then none else
(if l3 < 0 ∨ 160 ≤ Int32.toNatClampNeg l3 then none else
((f_X0_roundsUp l3 r54 v_p1_last v_p1_limbs).bind fun r98 =>
(if r98 = 0 then
((f_X0_trim (if l3 < v_p1_first then l3 else v_p1_first) l3 (vp_updL v_limbs (Int32.toNatClampNeg l3) ((v_limbs (Int32.toNatClampNeg l3)) - ((v_limbs (Int32.toNatClampNeg l3)) - (v_limbs (Int32.toNatClampNeg l3)) / r54 * r54)))).bind fun (v_first_112, v_last_112) =>
some (v_first_112, v_last_112, (vp_updL v_limbs (Int32.toNatClampNeg l3) ((v_limbs (Int32.toNatClampNeg l3)) - ((v_limbs (Int32.toNatClampNeg l3)) - (v_limbs (Int32.toNatClampNeg l3)) / r54 * r54)))))
      else
((f_X0_countUp l3 r54 (if l3 < v_p1_first then l3 else v_p1_first) (vp_updL v_limbs (Int32.toNatClampNeg l3) ((v_limbs (Int32.toNatClampNeg l3)) - ((v_limbs (Int32.toNatClampNeg l3)) - (v_limbs (Int32.toNatClampNeg l3)) / r54 * r54)))).bind fun (v_first_108, v_limbs_108) =>
((f_X0_trim v_first_108 l3 v_limbs_108).bind fun (v_first_112, v_last_112) =>
some (v_first_112, v_last_112, v_limbs_108))))))))))
    else
(if l4 < 0 ∨ 160 ≤ Int32.toNatClampNeg l4 then none else
(if l4 < 0 ∨ 160 ≤ Int32.toNatClampNeg l4 then none else
f_X0_takeRounded_L27 n l2 l3 (l4 + 1) v_first v_last (vp_updL v_limbs (Int32.toNatClampNeg l4) (v_p1_limbs (Int32.toNatClampNeg l4))) v_p1_first v_p1_last v_p1_limbs)))
def f_X0_takeRounded (l2 : Int32) (v_first : Int32) (v_last : Int32) (v_limbs : Nat → Int64) (v_p1_first : Int32) (v_p1_last : Int32) (v_p1_limbs : Nat → Int64) : Option ((Int32) × (Int32) × (Nat → Int64)) :=
    ((f_X0_wipe v_first v_last v_limbs).bind fun (v_first_1, v_last_1, v_limbs_1) =>
((f_X0_limbOf l2).bind fun r5 =>
(if r5 < 0 then
some (v_first_1, v_last_1, v_limbs_1)
  else
(if r5 < 160 then
f_X0_takeRounded_L27 FU l2 r5 v_p1_first v_first_1 v_last_1 v_limbs_1 v_p1_first v_p1_last v_p1_limbs
    else
some (v_first_1, v_last_1, v_limbs_1)))))

abbrev w_X0_comparedTo : List Cond := Cond.code yX0_comparedTo cX0_comparedTo 4 (some .int) :: wsL_law
abbrev wd_X0_comparedTo (a_this a_limbs a_p1 a_p1_limbs : Nat) (c_limbs c_p1_limbs : ClassId) (v_first : Int32) (v_last : Int32) (v_limbs : Nat → Int64) (v_p1_first : Int32) (v_p1_last : Int32) (v_p1_limbs : Nat → Int64) : va_W := [(a_this, .inr (0, [.ref a_limbs, .int v_first, .int v_last])), (a_limbs, .inl (c_limbs, 160, .inr (.inl v_limbs))), (a_p1, .inr (0, [.ref a_p1_limbs, .int v_p1_first, .int v_p1_last])), (a_p1_limbs, .inl (c_p1_limbs, 160, .inr (.inl v_p1_limbs)))]
def f_X0_comparedTo_L24 : Nat → (Int32) → (Int32) → (Int32) → (Int32) → (Nat → Int64) → (Int32) → (Int32) → (Nat → Int64) → Option ((Int32))
  | 0, _, _, _, _, _, _, _, _ => none
  | n + 1, l2, l3, v_first, v_last, v_limbs, v_p1_first, v_p1_last, v_p1_limbs =>
    (if l2 < l3 then
some 0
    else
(if l3 < 0 ∨ 160 ≤ Int32.toNatClampNeg l3 then none else
(if l3 < 0 ∨ 160 ≤ Int32.toNatClampNeg l3 then none else
(if (lg_cmp (v_limbs (Int32.toNatClampNeg l3)) (v_p1_limbs (Int32.toNatClampNeg l3))) = 0 then
f_X0_comparedTo_L24 n l2 (l3 + 1) v_first v_last v_limbs v_p1_first v_p1_last v_p1_limbs
      else
(if l3 < 0 ∨ 160 ≤ Int32.toNatClampNeg l3 then none else
(if l3 < 0 ∨ 160 ≤ Int32.toNatClampNeg l3 then none else
(if 0 ≤ (lg_cmp (v_limbs (Int32.toNatClampNeg l3)) (v_p1_limbs (Int32.toNatClampNeg l3))) then
some 1
        else
some (-1))))))))
def f_X0_comparedTo (v_first : Int32) (v_last : Int32) (v_limbs : Nat → Int64) (v_p1_first : Int32) (v_p1_last : Int32) (v_p1_limbs : Nat → Int64) : Option ((Int32)) :=
    f_X0_comparedTo_L24 FU (if v_last < v_p1_last then v_p1_last else v_last) (if v_p1_first < v_first then v_p1_first else v_first) v_first v_last v_limbs v_p1_first v_p1_last v_p1_limbs

abbrev w_X1_clear : List Cond := Cond.code yX1_clear cX1_clear 1 none :: wsL_law
abbrev wd_X1_clear (a_this a_text a_number a_rounded a_lowEdge a_highEdge : Nat) (v_length : Int32) (v_digitsStart : Int32) (v_digitsEnd : Int32) (v_unitsAt : Int32) (v_tenPower : Int32) : va_W := [(a_this, .inr (1, [.ref a_text, .int v_length, .int v_digitsStart, .int v_digitsEnd, .int v_unitsAt, .int v_tenPower, .ref a_number, .ref a_rounded, .ref a_lowEdge, .ref a_highEdge]))]
def f_X1_clear (v_length : Int32) : Option ((Int32)) :=
    some 0

abbrev w_X1_put : List Cond := Cond.code yX1_put cX1_put 2 none :: wsL_law
abbrev wd_X1_put (a_this a_text a_number a_rounded a_lowEdge a_highEdge : Nat) (c_text : ClassId) (v_length : Int32) (v_digitsStart : Int32) (v_digitsEnd : Int32) (v_unitsAt : Int32) (v_tenPower : Int32) (v_text : Nat → Int32) : va_W := [(a_this, .inr (1, [.ref a_text, .int v_length, .int v_digitsStart, .int v_digitsEnd, .int v_unitsAt, .int v_tenPower, .ref a_number, .ref a_rounded, .ref a_lowEdge, .ref a_highEdge])), (a_text, .inl (c_text, 400, .inl v_text))]
def f_X1_put (l1 : Int32) (v_length : Int32) (v_text : Nat → Int32) : Option ((Int32) × (Nat → Int32)) :=
    (if 400 ≤ v_length then
some (v_length, v_text)
  else
(if v_length < 0 ∨ 400 ≤ Int32.toNatClampNeg v_length then none else
some ((v_length + 1), (upd v_text (Int32.toNatClampNeg v_length) l1))))

abbrev w_X1_add : List Cond := Cond.code yX1_add cX1_add 2 (some .int) :: wsL_law
abbrev wd_X1_add (a_this a_text a_number a_rounded a_lowEdge a_highEdge : Nat) (c_text : ClassId) (v_length : Int32) (v_digitsStart : Int32) (v_digitsEnd : Int32) (v_unitsAt : Int32) (v_tenPower : Int32) (v_text : Nat → Int32) : va_W := [(a_this, .inr (1, [.ref a_text, .int v_length, .int v_digitsStart, .int v_digitsEnd, .int v_unitsAt, .int v_tenPower, .ref a_number, .ref a_rounded, .ref a_lowEdge, .ref a_highEdge])), (a_text, .inl (c_text, 400, .inl v_text))]
def f_X1_add (l1 : Int32) (v_length : Int32) (v_text : Nat → Int32) : Option (((Int32) × ((Int32) × (Nat → Int32))) ⊕ (Nat × ((Int32) × (Nat → Int32)))) :=
    (if l1 < 0 then
some (.inr (1, (v_length, v_text)))
  else
(if l1 ≤ 255 then
(if v_length < 400 then
((f_X1_put l1 v_length v_text).bind fun (v_length_39, v_text_39) =>
some (.inl (v_length_39, (v_length_39, v_text_39))))
      else
some (.inr (2, (v_length, v_text))))
    else
some (.inr (1, (v_length, v_text)))))

abbrev w_X1_isAt : List Cond := Cond.code yX1_isAt cX1_isAt 3 (some .boolean) :: wsL_law
abbrev wd_X1_isAt (a_this a_text a_number a_rounded a_lowEdge a_highEdge : Nat) (c_text : ClassId) (v_length : Int32) (v_digitsStart : Int32) (v_digitsEnd : Int32) (v_unitsAt : Int32) (v_tenPower : Int32) (v_text : Nat → Int32) : va_W := [(a_this, .inr (1, [.ref a_text, .int v_length, .int v_digitsStart, .int v_digitsEnd, .int v_unitsAt, .int v_tenPower, .ref a_number, .ref a_rounded, .ref a_lowEdge, .ref a_highEdge])), (a_text, .inl (c_text, 400, .inl v_text))]
def f_X1_isAt (l1 : Int32) (l2 : Int32) (v_length : Int32) (v_text : Nat → Int32) : Option ((Int32)) :=
    (if v_length ≤ l1 then
some 0
  else
(if l1 < 0 ∨ 400 ≤ Int32.toNatClampNeg l1 then none else
(if (v_text (Int32.toNatClampNeg l1)) = l2 then
some 1
    else
some 0)))

abbrev w_X1_endOfDigits : List Cond := Cond.code yX1_endOfDigits cX1_endOfDigits 3 (some .int) :: wsL_law
abbrev wd_X1_endOfDigits (a_this a_text a_number a_rounded a_lowEdge a_highEdge : Nat) (c_text : ClassId) (v_length : Int32) (v_digitsStart : Int32) (v_digitsEnd : Int32) (v_unitsAt : Int32) (v_tenPower : Int32) (v_text : Nat → Int32) : va_W := [(a_this, .inr (1, [.ref a_text, .int v_length, .int v_digitsStart, .int v_digitsEnd, .int v_unitsAt, .int v_tenPower, .ref a_number, .ref a_rounded, .ref a_lowEdge, .ref a_highEdge])), (a_text, .inl (c_text, 400, .inl v_text))]
def f_X1_endOfDigits_L2 : Nat → (Int32) → (Int32) → (Nat → Int32) → Option ((Int32))
  | 0, _, _, _ => none
  | n + 1, l2, v_length, v_text =>
    (if v_length ≤ l2 then
some l2
    else
(if l2 < 0 ∨ 400 ≤ Int32.toNatClampNeg l2 then none else
(if (v_text (Int32.toNatClampNeg l2)) < 48 then
some l2
      else
(if l2 < 0 ∨ 400 ≤ Int32.toNatClampNeg l2 then none else
(if 57 < (v_text (Int32.toNatClampNeg l2)) then
some l2
        else
f_X1_endOfDigits_L2 n (l2 + 1) v_length v_text)))))
def f_X1_endOfDigits (l1 : Int32) (v_length : Int32) (v_text : Nat → Int32) : Option ((Int32)) :=
    f_X1_endOfDigits_L2 FU l1 v_length v_text

abbrev w_X1_scanPower : List Cond := Cond.code yX1_scanPower cX1_scanPower 6 (some .boolean) :: wsL_law
abbrev wd_X1_scanPower (a_this a_text a_number a_rounded a_lowEdge a_highEdge : Nat) (c_text : ClassId) (v_length : Int32) (v_digitsStart : Int32) (v_digitsEnd : Int32) (v_unitsAt : Int32) (v_tenPower : Int32) (v_text : Nat → Int32) : va_W := [(a_this, .inr (1, [.ref a_text, .int v_length, .int v_digitsStart, .int v_digitsEnd, .int v_unitsAt, .int v_tenPower, .ref a_number, .ref a_rounded, .ref a_lowEdge, .ref a_highEdge])), (a_text, .inl (c_text, 400, .inl v_text))]
def f_X1_scanPower_L71 : Nat → (Int32) → (Int32) → (Int32) → (Int32) → (Int32) → (Nat → Int32) → Option ((Int32) × (Int32))
  | 0, _, _, _, _, _, _ => none
  | n + 1, l2, l4, l5, v_length, v_tenPower, v_text =>
    (if l4 ≤ l5 then
(if l2 = 0 then
some (1, v_tenPower)
      else
some (1, (-v_tenPower)))
    else
(if l5 < 0 ∨ 400 ≤ Int32.toNatClampNeg l5 then none else
f_X1_scanPower_L71 n l2 l4 (l5 + 1) v_length (((v_tenPower * 10) + (v_text (Int32.toNatClampNeg l5))) - 48) v_text))
def f_X1_scanPower_b35 (l2 : Int32) (s0 : Int32) (v_length : Int32) (v_tenPower : Int32) (v_text : Nat → Int32) : Option ((Int32) × (Int32)) :=
    ((f_X1_endOfDigits s0 v_length v_text).bind fun r38 =>
(if r38 = s0 then
some (0, v_tenPower)
  else
(if 4 < (r38 - s0) then
some (0, v_tenPower)
    else
(if r38 = v_length then
f_X1_scanPower_L71 FU l2 r38 s0 v_length v_tenPower v_text
      else
some (0, v_tenPower)))))
def f_X1_scanPower (l1 : Int32) (v_length : Int32) (v_tenPower : Int32) (v_text : Nat → Int32) : Option ((Int32) × (Int32)) :=
    ((f_X1_isAt l1 101 v_length v_text).bind fun r4 =>
(if r4 = 0 then
some (0, v_tenPower)
  else
((f_X1_isAt (l1 + 1) 45 v_length v_text).bind fun r18 =>
(if r18 = 0 then
f_X1_scanPower_b35  r18 (l1 + 1) v_length v_tenPower v_text
    else
f_X1_scanPower_b35  r18 (l1 + 2) v_length v_tenPower v_text))))

abbrev w_X1_scanNumeral : List Cond := Cond.code yX1_scanNumeral cX1_scanNumeral 2 (some .boolean) :: wsL_law
abbrev wd_X1_scanNumeral (a_this a_text a_number a_rounded a_lowEdge a_highEdge : Nat) (c_text : ClassId) (v_length : Int32) (v_digitsStart : Int32) (v_digitsEnd : Int32) (v_unitsAt : Int32) (v_tenPower : Int32) (v_text : Nat → Int32) : va_W := [(a_this, .inr (1, [.ref a_text, .int v_length, .int v_digitsStart, .int v_digitsEnd, .int v_unitsAt, .int v_tenPower, .ref a_number, .ref a_rounded, .ref a_lowEdge, .ref a_highEdge])), (a_text, .inl (c_text, 400, .inl v_text))]
def f_X1_scanNumeral_b93 (v_length : Int32) (v_digitsStart : Int32) (v_digitsEnd : Int32) (v_unitsAt : Int32) (v_tenPower : Int32) (v_text : Nat → Int32) : Option ((Int32) × (Int32) × (Int32) × (Int32) × (Int32)) :=
    (if v_digitsEnd = v_length then
some (1, v_digitsStart, v_digitsEnd, v_unitsAt, 0)
  else
((f_X1_scanPower v_digitsEnd v_length 0 v_text).bind fun (r114, v_tenPower_114) =>
(if r114 = 0 then
some (0, v_digitsStart, v_digitsEnd, v_unitsAt, v_tenPower_114)
    else
some (1, v_digitsStart, v_digitsEnd, v_unitsAt, v_tenPower_114))))
def f_X1_scanNumeral_b16 (s1 : Int32) (v_length : Int32) (v_digitsStart : Int32) (v_digitsEnd : Int32) (v_unitsAt : Int32) (v_tenPower : Int32) (v_text : Nat → Int32) : Option ((Int32) × (Int32) × (Int32) × (Int32) × (Int32)) :=
    ((f_X1_endOfDigits s1 v_length v_text).bind fun r25 =>
(if r25 = s1 then
some (0, s1, r25, (r25 - 1), v_tenPower)
  else
((f_X1_isAt r25 46 v_length v_text).bind fun r61 =>
(if r61 = 0 then
f_X1_scanNumeral_b93  v_length s1 r25 (r25 - 1) v_tenPower v_text
    else
((f_X1_endOfDigits (r25 + 1) v_length v_text).bind fun r77 =>
(if r77 = (r25 + 1) then
some (0, s1, r77, (r25 - 1), v_tenPower)
      else
f_X1_scanNumeral_b93  v_length s1 r77 (r25 - 1) v_tenPower v_text))))))
def f_X1_scanNumeral (v_length : Int32) (v_digitsStart : Int32) (v_digitsEnd : Int32) (v_unitsAt : Int32) (v_tenPower : Int32) (v_text : Nat → Int32) : Option ((Int32) × (Int32) × (Int32) × (Int32) × (Int32)) :=
    ((f_X1_isAt 0 45 v_length v_text).bind fun r5 =>
(if r5 = 0 then
f_X1_scanNumeral_b16  0 v_length v_digitsStart v_digitsEnd v_unitsAt v_tenPower v_text
  else
f_X1_scanNumeral_b16  1 v_length v_digitsStart v_digitsEnd v_unitsAt v_tenPower v_text))

abbrev w_X1_leadingDigit : List Cond := Cond.code yX1_leadingDigit cX1_leadingDigit 2 (some .int) :: wsL_law
abbrev wd_X1_leadingDigit (a_this a_text a_number a_rounded a_lowEdge a_highEdge : Nat) (c_text : ClassId) (v_length : Int32) (v_digitsStart : Int32) (v_digitsEnd : Int32) (v_unitsAt : Int32) (v_tenPower : Int32) (v_text : Nat → Int32) : va_W := [(a_this, .inr (1, [.ref a_text, .int v_length, .int v_digitsStart, .int v_digitsEnd, .int v_unitsAt, .int v_tenPower, .ref a_number, .ref a_rounded, .ref a_lowEdge, .ref a_highEdge])), (a_text, .inl (c_text, 400, .inl v_text))]
def f_X1_leadingDigit_L5 : Nat → (Int32) → (Int32) → (Int32) → (Nat → Int32) → Option ((Int32))
  | 0, _, _, _, _ => none
  | n + 1, l1, v_digitsStart, v_digitsEnd, v_text =>
    (if v_digitsEnd ≤ l1 then
some l1
    else
(if l1 < 0 ∨ 400 ≤ Int32.toNatClampNeg l1 then none else
(if (v_text (Int32.toNatClampNeg l1)) = 48 then
f_X1_leadingDigit_L5 n (l1 + 1) v_digitsStart v_digitsEnd v_text
      else
(if l1 < 0 ∨ 400 ≤ Int32.toNatClampNeg l1 then none else
(if (v_text (Int32.toNatClampNeg l1)) = 46 then
f_X1_leadingDigit_L5 n (l1 + 1) v_digitsStart v_digitsEnd v_text
        else
some l1)))))
def f_X1_leadingDigit (v_digitsStart : Int32) (v_digitsEnd : Int32) (v_text : Nat → Int32) : Option ((Int32)) :=
    f_X1_leadingDigit_L5 FU v_digitsStart v_digitsStart v_digitsEnd v_text

abbrev w_X1_placeOf : List Cond := Cond.code yX1_placeOf cX1_placeOf 3 (some .int) :: wsL_law
abbrev wd_X1_placeOf (a_this a_text a_number a_rounded a_lowEdge a_highEdge : Nat) (v_length : Int32) (v_digitsStart : Int32) (v_digitsEnd : Int32) (v_unitsAt : Int32) (v_tenPower : Int32) : va_W := [(a_this, .inr (1, [.ref a_text, .int v_length, .int v_digitsStart, .int v_digitsEnd, .int v_unitsAt, .int v_tenPower, .ref a_number, .ref a_rounded, .ref a_lowEdge, .ref a_highEdge]))]
def f_X1_placeOf (l1 : Int32) (v_unitsAt : Int32) (v_tenPower : Int32) : Option ((Int32)) :=
    (if l1 ≤ v_unitsAt then
some (v_tenPower - (l1 - v_unitsAt))
  else
some (v_tenPower - ((l1 - v_unitsAt) - 1)))

abbrev w_X1_joined : List Cond := Cond.code yX1_joined cX1_joined 3 (some .long) :: wsL_law
def f_X1_joined (l0 : Int64) (l2 : Int32) : Option ((Int64)) :=
    (if l2 ≤ 971 then
some (((Int32.toInt64 (l2 - (-1074))) <<< (Int32.toInt64 52 &&& 63)) + l0)
  else
some 9218868437227405312)

abbrev w_J6_numberOfLeadingZeros_0f7a4 : List Cond := Cond.code yJ6_numberOfLeadingZeros_0f7a4 cJ6_numberOfLeadingZeros_0f7a4 2 (some .int) :: wsL_law
def f_J6_numberOfLeadingZeros_0f7a4_b61 (l0 : Int32) (l1 : Int32) : Option ((Int32)) :=
    (if l0 < 4 then
some (l1 - ((Int32.toUInt32 l0 >>> (Int32.toUInt32 1 &&& Int32.toUInt32 31)).toInt32))
  else
some ((l1 + (-2)) - ((Int32.toUInt32 ((Int32.toUInt32 l0 >>> (Int32.toUInt32 2 &&& Int32.toUInt32 31)).toInt32) >>> (Int32.toUInt32 1 &&& Int32.toUInt32 31)).toInt32)))
def f_J6_numberOfLeadingZeros_0f7a4_b48 (l0 : Int32) (l1 : Int32) : Option ((Int32)) :=
    (if l0 < 16 then
f_J6_numberOfLeadingZeros_0f7a4_b61  l0 l1
  else
f_J6_numberOfLeadingZeros_0f7a4_b61  ((Int32.toUInt32 l0 >>> (Int32.toUInt32 4 &&& Int32.toUInt32 31)).toInt32) (l1 + (-4)))
def f_J6_numberOfLeadingZeros_0f7a4_b33 (l0 : Int32) (l1 : Int32) : Option ((Int32)) :=
    (if l0 < 256 then
f_J6_numberOfLeadingZeros_0f7a4_b48  l0 l1
  else
f_J6_numberOfLeadingZeros_0f7a4_b48  ((Int32.toUInt32 l0 >>> (Int32.toUInt32 8 &&& Int32.toUInt32 31)).toInt32) (l1 + (-8)))
def f_J6_numberOfLeadingZeros_0f7a4 (l0 : Int32) : Option ((Int32)) :=
    (if 0 < l0 then
(if l0 < 65536 then
f_J6_numberOfLeadingZeros_0f7a4_b33  l0 31
    else
f_J6_numberOfLeadingZeros_0f7a4_b33  ((Int32.toUInt32 l0 >>> (Int32.toUInt32 16 &&& Int32.toUInt32 31)).toInt32) (31 + (-16)))
  else
(if l0 = 0 then
some 32
    else
some 0))

abbrev w_J13_numberOfLeadingZeros_95d88 : List Cond := Cond.code yJ13_numberOfLeadingZeros_95d88 cJ13_numberOfLeadingZeros_95d88 3 (some .int) :: wsL_law
def f_J13_numberOfLeadingZeros_95d88 (l0 : Int64) : Option ((Int32)) :=
    (if (Int64.toInt32 ((Int64.toUInt64 l0 >>> (Int64.toUInt64 (Int32.toInt64 32) &&& Int64.toUInt64 63)).toInt64)) = 0 then
((f_J6_numberOfLeadingZeros_0f7a4 (Int64.toInt32 l0)).bind fun r14 =>
some (32 + r14))
  else
((f_J6_numberOfLeadingZeros_0f7a4 (Int64.toInt32 ((Int64.toUInt64 l0 >>> (Int64.toUInt64 (Int32.toInt64 32) &&& Int64.toUInt64 63)).toInt64))).bind fun r22 =>
some r22))

abbrev w_X1_bitsToScale : List Cond := Cond.code yX1_bitsToScale cX1_bitsToScale 4 (some .int) :: wsL_law
abbrev wd_X1_bitsToScale (a_this a_text a_number a_number_limbs a_rounded a_lowEdge a_highEdge : Nat) (c_number_limbs : ClassId) (v_length : Int32) (v_digitsStart : Int32) (v_digitsEnd : Int32) (v_unitsAt : Int32) (v_tenPower : Int32) (v_number_first : Int32) (v_number_last : Int32) (v_number_limbs : Nat → Int64) : va_W := [(a_this, .inr (1, [.ref a_text, .int v_length, .int v_digitsStart, .int v_digitsEnd, .int v_unitsAt, .int v_tenPower, .ref a_number, .ref a_rounded, .ref a_lowEdge, .ref a_highEdge])), (a_number, .inr (0, [.ref a_number_limbs, .int v_number_first, .int v_number_last])), (a_number_limbs, .inl (c_number_limbs, 160, .inr (.inl v_number_limbs)))]
def f_X1_bitsToScale (l1 : Int32) (v_number_limbs : Nat → Int64) : Option ((Int32)) :=
    ((f_X0_whole v_number_limbs).bind fun r6 =>
((f_J13_numberOfLeadingZeros_95d88 r6).bind fun r9 =>
some (if (l1 - (-1074)) < (if 33 < (53 - (64 - r9)) then 33 else (53 - (64 - r9))) then (l1 - (-1074)) else (if 33 < (53 - (64 - r9)) then 33 else (53 - (64 - r9))))))

abbrev w_X1_nearestToNumber : List Cond := Cond.code yX1_nearestToNumber cX1_nearestToNumber 4 (some .long) :: wsL_law
abbrev wd_X1_nearestToNumber (a_this a_text a_number a_number_limbs a_rounded a_rounded_limbs a_lowEdge a_highEdge : Nat) (c_number_limbs c_rounded_limbs : ClassId) (v_length : Int32) (v_digitsStart : Int32) (v_digitsEnd : Int32) (v_unitsAt : Int32) (v_tenPower : Int32) (v_number_first : Int32) (v_number_last : Int32) (v_number_limbs : Nat → Int64) (v_rounded_first : Int32) (v_rounded_last : Int32) (v_rounded_limbs : Nat → Int64) : va_W := [(a_this, .inr (1, [.ref a_text, .int v_length, .int v_digitsStart, .int v_digitsEnd, .int v_unitsAt, .int v_tenPower, .ref a_number, .ref a_rounded, .ref a_lowEdge, .ref a_highEdge])), (a_number, .inr (0, [.ref a_number_limbs, .int v_number_first, .int v_number_last])), (a_number_limbs, .inl (c_number_limbs, 160, .inr (.inl v_number_limbs))), (a_rounded, .inr (0, [.ref a_rounded_limbs, .int v_rounded_first, .int v_rounded_last])), (a_rounded_limbs, .inl (c_rounded_limbs, 160, .inr (.inl v_rounded_limbs)))]
def f_X1_nearestToNumber_b77 (l1 : Int32) (v_number_first : Int32) (v_number_last : Int32) (v_number_limbs : Nat → Int64) (v_rounded_first : Int32) (v_rounded_last : Int32) (v_rounded_limbs : Nat → Int64) : Option ((Int64) × (Int32) × (Int32) × (Nat → Int64) × (Int32) × (Int32) × (Nat → Int64)) :=
    ((f_X0_takeRounded 0 v_rounded_first v_rounded_last v_rounded_limbs v_number_first v_number_last v_number_limbs).bind fun (v_rounded_first_86, v_rounded_last_86, v_rounded_limbs_86) =>
((f_X0_whole v_rounded_limbs_86).bind fun r93 =>
((f_X1_joined r93 l1).bind fun r97 =>
some (r97, v_number_first, v_number_last, v_number_limbs, v_rounded_first_86, v_rounded_last_86, v_rounded_limbs_86))))
def f_X1_nearestToNumber_L40 : Nat → (Int32) → (Int32) → (Int32) → (Int32) → (Nat → Int64) → (Int32) → (Int32) → (Nat → Int64) → Option ((Int64) × (Int32) × (Int32) × (Nat → Int64) × (Int32) × (Int32) × (Nat → Int64))
  | 0, _, _, _, _, _, _, _, _ => none
  | n + 1, l1, l2, v_number_first, v_number_last, v_number_limbs, v_rounded_first, v_rounded_last, v_rounded_limbs =>
    (if 100 ≤ l2 then
f_X1_nearestToNumber_b77  l1 v_number_first v_number_last v_number_limbs v_rounded_first v_rounded_last v_rounded_limbs
    else
((f_X1_bitsToScale l1 v_number_limbs).bind fun r48 =>
(if r48 = 0 then
f_X1_nearestToNumber_b77  l1 v_number_first v_number_last v_number_limbs v_rounded_first v_rounded_last v_rounded_limbs
      else
((f_X0_scale r48 v_number_first v_number_last v_number_limbs).bind fun (v_number_first_64, v_number_last_64, v_number_limbs_64) =>
f_X1_nearestToNumber_L40 n (l1 - r48) (l2 + 1) v_number_first_64 v_number_last_64 v_number_limbs_64 v_rounded_first v_rounded_last v_rounded_limbs))))
def f_X1_nearestToNumber_L4 : Nat → (Int32) → (Int32) → (Int32) → (Int32) → (Nat → Int64) → (Int32) → (Int32) → (Nat → Int64) → Option ((Int64) × (Int32) × (Int32) × (Nat → Int64) × (Int32) × (Int32) × (Nat → Int64))
  | 0, _, _, _, _, _, _, _, _ => none
  | n + 1, l1, l2, v_number_first, v_number_last, v_number_limbs, v_rounded_first, v_rounded_last, v_rounded_limbs =>
    (if 100 ≤ l2 then
f_X1_nearestToNumber_L40 FU l1 0 v_number_first v_number_last v_number_limbs v_rounded_first v_rounded_last v_rounded_limbs
    else
((f_X0_isWide v_number_first).bind fun r14 =>
(if r14 = 0 then
f_X1_nearestToNumber_L40 FU l1 0 v_number_first v_number_last v_number_limbs v_rounded_first v_rounded_last v_rounded_limbs
      else
((f_X0_scale (-33) v_number_first v_number_last v_number_limbs).bind fun (v_number_first_26, v_number_last_26, v_number_limbs_26) =>
f_X1_nearestToNumber_L4 n (l1 + 33) (l2 + 1) v_number_first_26 v_number_last_26 v_number_limbs_26 v_rounded_first v_rounded_last v_rounded_limbs))))
def f_X1_nearestToNumber (v_number_first : Int32) (v_number_last : Int32) (v_number_limbs : Nat → Int64) (v_rounded_first : Int32) (v_rounded_last : Int32) (v_rounded_limbs : Nat → Int64) : Option ((Int64) × (Int32) × (Int32) × (Nat → Int64) × (Int32) × (Int32) × (Nat → Int64)) :=
    f_X1_nearestToNumber_L4 FU 0 0 v_number_first v_number_last v_number_limbs v_rounded_first v_rounded_last v_rounded_limbs

abbrev w_X1_nearestToNumeral : List Cond := Cond.code yX1_nearestToNumeral cX1_nearestToNumeral 3 (some .long) :: wsL_law
abbrev wd_X1_nearestToNumeral (a_this a_text a_number a_number_limbs a_rounded a_rounded_limbs a_lowEdge a_highEdge : Nat) (c_text c_number_limbs c_rounded_limbs : ClassId) (v_length : Int32) (v_digitsStart : Int32) (v_digitsEnd : Int32) (v_unitsAt : Int32) (v_tenPower : Int32) (v_text : Nat → Int32) (v_number_first : Int32) (v_number_last : Int32) (v_number_limbs : Nat → Int64) (v_rounded_first : Int32) (v_rounded_last : Int32) (v_rounded_limbs : Nat → Int64) : va_W := [(a_this, .inr (1, [.ref a_text, .int v_length, .int v_digitsStart, .int v_digitsEnd, .int v_unitsAt, .int v_tenPower, .ref a_number, .ref a_rounded, .ref a_lowEdge, .ref a_highEdge])), (a_text, .inl (c_text, 400, .inl v_text)), (a_number, .inr (0, [.ref a_number_limbs, .int v_number_first, .int v_number_last])), (a_number_limbs, .inl (c_number_limbs, 160, .inr (.inl v_number_limbs))), (a_rounded, .inr (0, [.ref a_rounded_limbs, .int v_rounded_first, .int v_rounded_last])), (a_rounded_limbs, .inl (c_rounded_limbs, 160, .inr (.inl v_rounded_limbs)))]
def f_X1_nearestToNumeral_L50 : Nat → (Int32) → (Int32) → (Int32) → (Int32) → (Int32) → (Nat → Int32) → (Int32) → (Int32) → (Nat → Int64) → (Int32) → (Int32) → (Nat → Int64) → Option ((Int64) × (Int32) × (Int32) × (Nat → Int64) × (Int32) × (Int32) × (Nat → Int64))
  | 0, _, _, _, _, _, _, _, _, _, _, _, _ => none
  | n + 1, l2, v_digitsStart, v_digitsEnd, v_unitsAt, v_tenPower, v_text, v_number_first, v_number_last, v_number_limbs, v_rounded_first, v_rounded_last, v_rounded_limbs =>
    (if v_digitsEnd ≤ l2 then
((f_X1_nearestToNumber v_number_first v_number_last v_number_limbs v_rounded_first v_rounded_last v_rounded_limbs).bind fun (r97, v_number_first_97, v_number_last_97, v_number_limbs_97, v_rounded_first_97, v_rounded_last_97, v_rounded_limbs_97) =>
some (r97, v_number_first_97, v_number_last_97, v_number_limbs_97, v_rounded_first_97, v_rounded_last_97, v_rounded_limbs_97))
    else
(if l2 < 0 ∨ 400 ≤ Int32.toNatClampNeg l2 then none else
(if (v_text (Int32.toNatClampNeg l2)) = 46 then
f_X1_nearestToNumeral_L50 n (l2 + 1) v_digitsStart v_digitsEnd v_unitsAt v_tenPower v_text v_number_first v_number_last v_number_limbs v_rounded_first v_rounded_last v_rounded_limbs
      else
((f_X1_placeOf l2 v_unitsAt v_tenPower).bind fun r75 =>
(if l2 < 0 ∨ 400 ≤ Int32.toNatClampNeg l2 then none else
((f_X0_setDigit r75 ((v_text (Int32.toNatClampNeg l2)) - 48) v_number_first v_number_last v_number_limbs).bind fun (v_number_first_87, v_number_last_87, v_number_limbs_87) =>
f_X1_nearestToNumeral_L50 n (l2 + 1) v_digitsStart v_digitsEnd v_unitsAt v_tenPower v_text v_number_first_87 v_number_last_87 v_number_limbs_87 v_rounded_first v_rounded_last v_rounded_limbs))))))
def f_X1_nearestToNumeral (v_digitsStart : Int32) (v_digitsEnd : Int32) (v_unitsAt : Int32) (v_tenPower : Int32) (v_text : Nat → Int32) (v_number_first : Int32) (v_number_last : Int32) (v_number_limbs : Nat → Int64) (v_rounded_first : Int32) (v_rounded_last : Int32) (v_rounded_limbs : Nat → Int64) : Option ((Int64) × (Int32) × (Int32) × (Nat → Int64) × (Int32) × (Int32) × (Nat → Int64)) :=
    ((f_X1_leadingDigit v_digitsStart v_digitsEnd v_text).bind fun r1 =>
(if r1 = v_digitsEnd then
some (0, v_number_first, v_number_last, v_number_limbs, v_rounded_first, v_rounded_last, v_rounded_limbs)
  else
((f_X1_placeOf r1 v_unitsAt v_tenPower).bind fun r15 =>
(if (-324) ≤ r15 then
((f_X1_placeOf r1 v_unitsAt v_tenPower).bind fun r28 =>
(if r28 ≤ 308 then
((f_X0_wipe v_number_first v_number_last v_number_limbs).bind fun (v_number_first_45, v_number_last_45, v_number_limbs_45) =>
f_X1_nearestToNumeral_L50 FU r1 v_digitsStart v_digitsEnd v_unitsAt v_tenPower v_text v_number_first_45 v_number_last_45 v_number_limbs_45 v_rounded_first v_rounded_last v_rounded_limbs)
      else
some (9218868437227405312, v_number_first, v_number_last, v_number_limbs, v_rounded_first, v_rounded_last, v_rounded_limbs)))
    else
some (0, v_number_first, v_number_last, v_number_limbs, v_rounded_first, v_rounded_last, v_rounded_limbs)))))

abbrev w_X1_read : List Cond := Cond.code yX1_read cX1_read 3 (some .long) :: wsL_law
abbrev wd_X1_read (a_this a_text a_number a_number_limbs a_rounded a_rounded_limbs a_lowEdge a_highEdge : Nat) (c_text c_number_limbs c_rounded_limbs : ClassId) (v_length : Int32) (v_digitsStart : Int32) (v_digitsEnd : Int32) (v_unitsAt : Int32) (v_tenPower : Int32) (v_text : Nat → Int32) (v_number_first : Int32) (v_number_last : Int32) (v_number_limbs : Nat → Int64) (v_rounded_first : Int32) (v_rounded_last : Int32) (v_rounded_limbs : Nat → Int64) : va_W := [(a_this, .inr (1, [.ref a_text, .int v_length, .int v_digitsStart, .int v_digitsEnd, .int v_unitsAt, .int v_tenPower, .ref a_number, .ref a_rounded, .ref a_lowEdge, .ref a_highEdge])), (a_text, .inl (c_text, 400, .inl v_text)), (a_number, .inr (0, [.ref a_number_limbs, .int v_number_first, .int v_number_last])), (a_number_limbs, .inl (c_number_limbs, 160, .inr (.inl v_number_limbs))), (a_rounded, .inr (0, [.ref a_rounded_limbs, .int v_rounded_first, .int v_rounded_last])), (a_rounded_limbs, .inl (c_rounded_limbs, 160, .inr (.inl v_rounded_limbs)))]
def f_X1_read (v_length : Int32) (v_digitsStart : Int32) (v_digitsEnd : Int32) (v_unitsAt : Int32) (v_tenPower : Int32) (v_text : Nat → Int32) (v_number_first : Int32) (v_number_last : Int32) (v_number_limbs : Nat → Int64) (v_rounded_first : Int32) (v_rounded_last : Int32) (v_rounded_limbs : Nat → Int64) : Option (((Int64) × ((Int32) × (Int32) × (Int32) × (Int32) × (Int32) × (Int32) × (Nat → Int64) × (Int32) × (Int32) × (Nat → Int64))) ⊕ (Nat × ((Int32) × (Int32) × (Int32) × (Int32) × (Int32) × (Int32) × (Nat → Int64) × (Int32) × (Int32) × (Nat → Int64)))) :=
    ((f_X1_scanNumeral v_length v_digitsStart v_digitsEnd v_unitsAt v_tenPower v_text).bind fun (r1, v_digitsStart_1, v_digitsEnd_1, v_unitsAt_1, v_tenPower_1) =>
(if r1 = 0 then
some (.inr (2, (v_digitsStart_1, v_digitsEnd_1, v_unitsAt_1, v_tenPower_1, v_number_first, v_number_last, v_number_limbs, v_rounded_first, v_rounded_last, v_rounded_limbs)))
  else
((f_X1_nearestToNumeral v_digitsStart_1 v_digitsEnd_1 v_unitsAt_1 v_tenPower_1 v_text v_number_first v_number_last v_number_limbs v_rounded_first v_rounded_last v_rounded_limbs).bind fun (r16, v_number_first_16, v_number_last_16, v_number_limbs_16, v_rounded_first_16, v_rounded_last_16, v_rounded_limbs_16) =>
((f_X1_isAt 0 45 v_length v_text).bind fun r24 =>
(if r24 = 0 then
some (.inl (r16, (v_digitsStart_1, v_digitsEnd_1, v_unitsAt_1, v_tenPower_1, v_number_first_16, v_number_last_16, v_number_limbs_16, v_rounded_first_16, v_rounded_last_16, v_rounded_limbs_16)))
    else
some (.inl ((r16 ||| (-9223372036854775808)), (v_digitsStart_1, v_digitsEnd_1, v_unitsAt_1, v_tenPower_1, v_number_first_16, v_number_last_16, v_number_limbs_16, v_rounded_first_16, v_rounded_last_16, v_rounded_limbs_16))))))))

abbrev w_X1_isNone : List Cond := Cond.code yX1_isNone cX1_isNone 2 (some .boolean) :: wsL_law
def f_X1_isNone (l0 : Int64) : Option ((Int32)) :=
    (if (lg_cmp (l0 &&& 9218868437227405312) 9218868437227405312) = 0 then
some 1
  else
some 0)

abbrev w_X1_mantissaOf : List Cond := Cond.code yX1_mantissaOf cX1_mantissaOf 4 (some .long) :: wsL_law
def f_X1_mantissaOf (l0 : Int64) : Option ((Int64)) :=
    (if (lg_cmp (l0 &&& 9218868437227405312) 0) = 0 then
some (l0 &&& 4503599627370495)
  else
some ((l0 &&& 4503599627370495) + 4503599627370496))

abbrev w_X1_powerOf : List Cond := Cond.code yX1_powerOf cX1_powerOf 3 (some .int) :: wsL_law
def f_X1_powerOf (l0 : Int64) : Option ((Int32)) :=
    some (((if (Int64.toInt32 ((Int64.toUInt64 (l0 &&& 9218868437227405312) >>> (Int64.toUInt64 (Int32.toInt64 52) &&& Int64.toUInt64 63)).toInt64)) < 1 then 1 else (Int64.toInt32 ((Int64.toUInt64 (l0 &&& 9218868437227405312) >>> (Int64.toUInt64 (Int32.toInt64 52) &&& Int64.toUInt64 63)).toInt64))) - 1) + (-1074))

abbrev w_X1_startText : List Cond := Cond.code yX1_startText cX1_startText 3 none :: wsL_law
abbrev wd_X1_startText (a_this a_text a_number a_rounded a_lowEdge a_highEdge : Nat) (c_text : ClassId) (v_length : Int32) (v_digitsStart : Int32) (v_digitsEnd : Int32) (v_unitsAt : Int32) (v_tenPower : Int32) (v_text : Nat → Int32) : va_W := [(a_this, .inr (1, [.ref a_text, .int v_length, .int v_digitsStart, .int v_digitsEnd, .int v_unitsAt, .int v_tenPower, .ref a_number, .ref a_rounded, .ref a_lowEdge, .ref a_highEdge])), (a_text, .inl (c_text, 400, .inl v_text))]
def f_X1_startText (l1 : Int64) (v_length : Int32) (v_text : Nat → Int32) : Option ((Int32) × (Nat → Int32)) :=
    (if 0 ≤ (lg_cmp l1 0) then
some (0, v_text)
  else
((f_X1_put 45 0 v_text).bind fun (v_length_14, v_text_14) =>
some (v_length_14, v_text_14)))

abbrev w_X1_putDigits : List Cond := Cond.code yX1_putDigits cX1_putDigits 4 none :: wsL_law
abbrev wd_X1_putDigits (a_this a_text a_number a_rounded a_rounded_limbs a_lowEdge a_highEdge : Nat) (c_text c_rounded_limbs : ClassId) (v_length : Int32) (v_digitsStart : Int32) (v_digitsEnd : Int32) (v_unitsAt : Int32) (v_tenPower : Int32) (v_text : Nat → Int32) (v_rounded_first : Int32) (v_rounded_last : Int32) (v_rounded_limbs : Nat → Int64) : va_W := [(a_this, .inr (1, [.ref a_text, .int v_length, .int v_digitsStart, .int v_digitsEnd, .int v_unitsAt, .int v_tenPower, .ref a_number, .ref a_rounded, .ref a_lowEdge, .ref a_highEdge])), (a_text, .inl (c_text, 400, .inl v_text)), (a_rounded, .inr (0, [.ref a_rounded_limbs, .int v_rounded_first, .int v_rounded_last])), (a_rounded_limbs, .inl (c_rounded_limbs, 160, .inr (.inl v_rounded_limbs)))]
def f_X1_putDigits_L2 : Nat → (Int32) → (Int32) → (Int32) → (Nat → Int32) → (Nat → Int64) → Option ((Int32) × (Nat → Int32))
  | 0, _, _, _, _, _ => none
  | n + 1, l2, l3, v_length, v_text, v_rounded_limbs =>
    (if l3 < l2 then
some (v_length, v_text)
    else
((f_X0_digit l3 v_rounded_limbs).bind fun r15 =>
((f_X1_put (48 + r15) v_length v_text).bind fun (v_length_19, v_text_19) =>
f_X1_putDigits_L2 n l2 (l3 + (-1)) v_length_19 v_text_19 v_rounded_limbs)))
def f_X1_putDigits (l1 : Int32) (l2 : Int32) (v_length : Int32) (v_text : Nat → Int32) (v_rounded_limbs : Nat → Int64) : Option ((Int32) × (Nat → Int32)) :=
    f_X1_putDigits_L2 FU l2 l1 v_length v_text v_rounded_limbs

abbrev w_X1_print : List Cond := Cond.code yX1_print cX1_print 4 (some .int) :: wsL_law
abbrev wd_X1_print (a_this a_text a_number a_number_limbs a_rounded a_rounded_limbs a_lowEdge a_highEdge : Nat) (c_text c_number_limbs c_rounded_limbs : ClassId) (v_length : Int32) (v_digitsStart : Int32) (v_digitsEnd : Int32) (v_unitsAt : Int32) (v_tenPower : Int32) (v_text : Nat → Int32) (v_number_first : Int32) (v_number_last : Int32) (v_number_limbs : Nat → Int64) (v_rounded_first : Int32) (v_rounded_last : Int32) (v_rounded_limbs : Nat → Int64) : va_W := [(a_this, .inr (1, [.ref a_text, .int v_length, .int v_digitsStart, .int v_digitsEnd, .int v_unitsAt, .int v_tenPower, .ref a_number, .ref a_rounded, .ref a_lowEdge, .ref a_highEdge])), (a_text, .inl (c_text, 400, .inl v_text)), (a_number, .inr (0, [.ref a_number_limbs, .int v_number_first, .int v_number_last])), (a_number_limbs, .inl (c_number_limbs, 160, .inr (.inl v_number_limbs))), (a_rounded, .inr (0, [.ref a_rounded_limbs, .int v_rounded_first, .int v_rounded_last])), (a_rounded_limbs, .inl (c_rounded_limbs, 160, .inr (.inl v_rounded_limbs)))]
def f_X1_print (l1 : Int64) (l3 : Int32) (v_length : Int32) (v_text : Nat → Int32) (v_number_first : Int32) (v_number_last : Int32) (v_number_limbs : Nat → Int64) (v_rounded_first : Int32) (v_rounded_last : Int32) (v_rounded_limbs : Nat → Int64) : Option (((Int32) × ((Int32) × (Nat → Int32) × (Int32) × (Int32) × (Nat → Int64) × (Int32) × (Int32) × (Nat → Int64))) ⊕ (Nat × ((Int32) × (Nat → Int32) × (Int32) × (Int32) × (Nat → Int64) × (Int32) × (Int32) × (Nat → Int64)))) :=
    (if l3 < 0 then
some (.inr (1, (v_length, v_text, v_number_first, v_number_last, v_number_limbs, v_rounded_first, v_rounded_last, v_rounded_limbs)))
  else
(if l3 ≤ 30 then
((f_X1_isNone l1).bind fun r19 =>
(if r19 = 0 then
((f_X1_mantissaOf l1).bind fun r38 =>
((f_X1_powerOf l1).bind fun r42 =>
((f_X0_takeScaled r38 r42 v_number_first v_number_last v_number_limbs).bind fun (v_number_first_45, v_number_last_45, v_number_limbs_45) =>
((f_X0_takeRounded (-l3) v_rounded_first v_rounded_last v_rounded_limbs v_number_first_45 v_number_last_45 v_number_limbs_45).bind fun (v_rounded_first_58, v_rounded_last_58, v_rounded_limbs_58) =>
((f_X1_startText l1 v_length v_text).bind fun (v_length_63, v_text_63) =>
((f_X0_topPlace v_rounded_first_58 v_rounded_limbs_58).bind fun r72 =>
((f_X1_putDigits (if 0 < r72 then r72 else 0) 0 v_length_63 v_text_63 v_rounded_limbs_58).bind fun (v_length_79, v_text_79) =>
(if l3 ≤ 0 then
some (.inl (v_length_79, (v_length_79, v_text_79, v_number_first_45, v_number_last_45, v_number_limbs_45, v_rounded_first_58, v_rounded_last_58, v_rounded_limbs_58)))
        else
((f_X1_put 46 v_length_79 v_text_79).bind fun (v_length_89, v_text_89) =>
((f_X1_putDigits (-1) (-l3) v_length_89 v_text_89 v_rounded_limbs_58).bind fun (v_length_96, v_text_96) =>
some (.inl (v_length_96, (v_length_96, v_text_96, v_number_first_45, v_number_last_45, v_number_limbs_45, v_rounded_first_58, v_rounded_last_58, v_rounded_limbs_58)))))))))))))
      else
some (.inr (2, (v_length, v_text, v_number_first, v_number_last, v_number_limbs, v_rounded_first, v_rounded_last, v_rounded_limbs)))))
    else
some (.inr (1, (v_length, v_text, v_number_first, v_number_last, v_number_limbs, v_rounded_first, v_rounded_last, v_rounded_limbs)))))

abbrev w_X1_takeEdges : List Cond := Cond.code yX1_takeEdges cX1_takeEdges 7 none :: wsL_law
abbrev wd_X1_takeEdges (a_this a_text a_number a_rounded a_lowEdge a_lowEdge_limbs a_highEdge a_highEdge_limbs : Nat) (c_lowEdge_limbs c_highEdge_limbs : ClassId) (v_length : Int32) (v_digitsStart : Int32) (v_digitsEnd : Int32) (v_unitsAt : Int32) (v_tenPower : Int32) (v_lowEdge_first : Int32) (v_lowEdge_last : Int32) (v_lowEdge_limbs : Nat → Int64) (v_highEdge_first : Int32) (v_highEdge_last : Int32) (v_highEdge_limbs : Nat → Int64) : va_W := [(a_this, .inr (1, [.ref a_text, .int v_length, .int v_digitsStart, .int v_digitsEnd, .int v_unitsAt, .int v_tenPower, .ref a_number, .ref a_rounded, .ref a_lowEdge, .ref a_highEdge])), (a_lowEdge, .inr (0, [.ref a_lowEdge_limbs, .int v_lowEdge_first, .int v_lowEdge_last])), (a_lowEdge_limbs, .inl (c_lowEdge_limbs, 160, .inr (.inl v_lowEdge_limbs))), (a_highEdge, .inr (0, [.ref a_highEdge_limbs, .int v_highEdge_first, .int v_highEdge_last])), (a_highEdge_limbs, .inl (c_highEdge_limbs, 160, .inr (.inl v_highEdge_limbs)))]
def f_X1_takeEdges_b45 (l3 : Int32) (l5 : Int64) (s1 : Int64) (s2 : Int32) (v_lowEdge_first : Int32) (v_lowEdge_last : Int32) (v_lowEdge_limbs : Nat → Int64) (v_highEdge_first : Int32) (v_highEdge_last : Int32) (v_highEdge_limbs : Nat → Int64) : Option ((Int32) × (Int32) × (Nat → Int64) × (Int32) × (Int32) × (Nat → Int64)) :=
    ((f_X0_takeScaled (s1 - (Int32.toInt64 s2)) (l3 - 2) v_lowEdge_first v_lowEdge_last v_lowEdge_limbs).bind fun (v_lowEdge_first_50, v_lowEdge_last_50, v_lowEdge_limbs_50) =>
((f_X0_takeScaled (l5 + 2) (l3 - 2) v_highEdge_first v_highEdge_last v_highEdge_limbs).bind fun (v_highEdge_first_66, v_highEdge_last_66, v_highEdge_limbs_66) =>
some (v_lowEdge_first_50, v_lowEdge_last_50, v_lowEdge_limbs_50, v_highEdge_first_66, v_highEdge_last_66, v_highEdge_limbs_66)))
def f_X1_takeEdges_b20 (l1 : Int64) (l3 : Int32) (s0 : Int32) (v_lowEdge_first : Int32) (v_lowEdge_last : Int32) (v_lowEdge_limbs : Nat → Int64) (v_highEdge_first : Int32) (v_highEdge_last : Int32) (v_highEdge_limbs : Nat → Int64) : Option ((Int32) × (Int32) × (Nat → Int64) × (Int32) × (Int32) × (Nat → Int64)) :=
    (if s0 = 0 then
f_X1_takeEdges_b45  l3 (4 * l1) (4 * l1) 2 v_lowEdge_first v_lowEdge_last v_lowEdge_limbs v_highEdge_first v_highEdge_last v_highEdge_limbs
  else
f_X1_takeEdges_b45  l3 (4 * l1) (4 * l1) 1 v_lowEdge_first v_lowEdge_last v_lowEdge_limbs v_highEdge_first v_highEdge_last v_highEdge_limbs)
def f_X1_takeEdges_b19 (l1 : Int64) (l3 : Int32) (v_lowEdge_first : Int32) (v_lowEdge_last : Int32) (v_lowEdge_limbs : Nat → Int64) (v_highEdge_first : Int32) (v_highEdge_last : Int32) (v_highEdge_limbs : Nat → Int64) : Option ((Int32) × (Int32) × (Nat → Int64) × (Int32) × (Int32) × (Nat → Int64)) :=
    f_X1_takeEdges_b20  l1 l3 0 v_lowEdge_first v_lowEdge_last v_lowEdge_limbs v_highEdge_first v_highEdge_last v_highEdge_limbs
def f_X1_takeEdges (l1 : Int64) (l3 : Int32) (v_lowEdge_first : Int32) (v_lowEdge_last : Int32) (v_lowEdge_limbs : Nat → Int64) (v_highEdge_first : Int32) (v_highEdge_last : Int32) (v_highEdge_limbs : Nat → Int64) : Option ((Int32) × (Int32) × (Nat → Int64) × (Int32) × (Int32) × (Nat → Int64)) :=
    (if (lg_cmp l1 4503599627370496) = 0 then
(if l3 ≤ (-1074) then
f_X1_takeEdges_b19  l1 l3 v_lowEdge_first v_lowEdge_last v_lowEdge_limbs v_highEdge_first v_highEdge_last v_highEdge_limbs
    else
f_X1_takeEdges_b20  l1 l3 1 v_lowEdge_first v_lowEdge_last v_lowEdge_limbs v_highEdge_first v_highEdge_last v_highEdge_limbs)
  else
f_X1_takeEdges_b19  l1 l3 v_lowEdge_first v_lowEdge_last v_lowEdge_limbs v_highEdge_first v_highEdge_last v_highEdge_limbs)

abbrev w_X1_isBetweenEdges : List Cond := Cond.code yX1_isBetweenEdges cX1_isBetweenEdges 4 (some .boolean) :: wsL_law
abbrev wd_X1_isBetweenEdges (a_this a_text a_number a_rounded a_rounded_limbs a_lowEdge a_lowEdge_limbs a_highEdge a_highEdge_limbs : Nat) (c_rounded_limbs c_lowEdge_limbs c_highEdge_limbs : ClassId) (v_length : Int32) (v_digitsStart : Int32) (v_digitsEnd : Int32) (v_unitsAt : Int32) (v_tenPower : Int32) (v_rounded_first : Int32) (v_rounded_last : Int32) (v_rounded_limbs : Nat → Int64) (v_lowEdge_first : Int32) (v_lowEdge_last : Int32) (v_lowEdge_limbs : Nat → Int64) (v_highEdge_first : Int32) (v_highEdge_last : Int32) (v_highEdge_limbs : Nat → Int64) : va_W := [(a_this, .inr (1, [.ref a_text, .int v_length, .int v_digitsStart, .int v_digitsEnd, .int v_unitsAt, .int v_tenPower, .ref a_number, .ref a_rounded, .ref a_lowEdge, .ref a_highEdge])), (a_rounded, .inr (0, [.ref a_rounded_limbs, .int v_rounded_first, .int v_rounded_last])), (a_rounded_limbs, .inl (c_rounded_limbs, 160, .inr (.inl v_rounded_limbs))), (a_lowEdge, .inr (0, [.ref a_lowEdge_limbs, .int v_lowEdge_first, .int v_lowEdge_last])), (a_lowEdge_limbs, .inl (c_lowEdge_limbs, 160, .inr (.inl v_lowEdge_limbs))), (a_highEdge, .inr (0, [.ref a_highEdge_limbs, .int v_highEdge_first, .int v_highEdge_last])), (a_highEdge_limbs, .inl (c_highEdge_limbs, 160, .inr (.inl v_highEdge_limbs)))]
def f_X1_isBetweenEdges (l1 : Int32) (v_rounded_first : Int32) (v_rounded_last : Int32) (v_rounded_limbs : Nat → Int64) (v_lowEdge_first : Int32) (v_lowEdge_last : Int32) (v_lowEdge_limbs : Nat → Int64) (v_highEdge_first : Int32) (v_highEdge_last : Int32) (v_highEdge_limbs : Nat → Int64) : Option ((Int32)) :=
    ((f_X0_comparedTo v_rounded_first v_rounded_last v_rounded_limbs v_lowEdge_first v_lowEdge_last v_lowEdge_limbs).bind fun r8 =>
((f_X0_comparedTo v_highEdge_first v_highEdge_last v_highEdge_limbs v_rounded_first v_rounded_last v_rounded_limbs).bind fun r20 =>
(if l1 = 0 then
(if r8 ≤ 0 then
some 0
    else
(if r20 ≤ 0 then
some 0
      else
some 1))
  else
(if r8 < 0 then
some 0
    else
(if r20 < 0 then
some 0
      else
some 1)))))

abbrev w_X1_roundToFewest : List Cond := Cond.code yX1_roundToFewest cX1_roundToFewest 4 (some .int) :: wsL_law
abbrev wd_X1_roundToFewest (a_this a_text a_number a_number_limbs a_rounded a_rounded_limbs a_lowEdge a_lowEdge_limbs a_highEdge a_highEdge_limbs : Nat) (c_number_limbs c_rounded_limbs c_lowEdge_limbs c_highEdge_limbs : ClassId) (v_length : Int32) (v_digitsStart : Int32) (v_digitsEnd : Int32) (v_unitsAt : Int32) (v_tenPower : Int32) (v_number_first : Int32) (v_number_last : Int32) (v_number_limbs : Nat → Int64) (v_rounded_first : Int32) (v_rounded_last : Int32) (v_rounded_limbs : Nat → Int64) (v_lowEdge_first : Int32) (v_lowEdge_last : Int32) (v_lowEdge_limbs : Nat → Int64) (v_highEdge_first : Int32) (v_highEdge_last : Int32) (v_highEdge_limbs : Nat → Int64) : va_W := [(a_this, .inr (1, [.ref a_text, .int v_length, .int v_digitsStart, .int v_digitsEnd, .int v_unitsAt, .int v_tenPower, .ref a_number, .ref a_rounded, .ref a_lowEdge, .ref a_highEdge])), (a_number, .inr (0, [.ref a_number_limbs, .int v_number_first, .int v_number_last])), (a_number_limbs, .inl (c_number_limbs, 160, .inr (.inl v_number_limbs))), (a_rounded, .inr (0, [.ref a_rounded_limbs, .int v_rounded_first, .int v_rounded_last])), (a_rounded_limbs, .inl (c_rounded_limbs, 160, .inr (.inl v_rounded_limbs))), (a_lowEdge, .inr (0, [.ref a_lowEdge_limbs, .int v_lowEdge_first, .int v_lowEdge_last])), (a_lowEdge_limbs, .inl (c_lowEdge_limbs, 160, .inr (.inl v_lowEdge_limbs))), (a_highEdge, .inr (0, [.ref a_highEdge_limbs, .int v_highEdge_first, .int v_highEdge_last])), (a_highEdge_limbs, .inl (c_highEdge_limbs, 160, .inr (.inl v_highEdge_limbs)))]
def f_X1_roundToFewest_L10 : Nat → (Int32) → (Int32) → (Int32) → (Int32) → (Int32) → (Nat → Int64) → (Int32) → (Int32) → (Nat → Int64) → (Int32) → (Int32) → (Nat → Int64) → (Int32) → (Int32) → (Nat → Int64) → Option ((Int32) × (Int32) × (Int32) × (Nat → Int64))
  | 0, _, _, _, _, _, _, _, _, _, _, _, _, _, _, _ => none
  | n + 1, l1, l2, l3, v_number_first, v_number_last, v_number_limbs, v_rounded_first, v_rounded_last, v_rounded_limbs, v_lowEdge_first, v_lowEdge_last, v_lowEdge_limbs, v_highEdge_first, v_highEdge_last, v_highEdge_limbs =>
    (if 17 ≤ l3 then
((f_X0_takeRounded ((l2 - 17) + 1) v_rounded_first v_rounded_last v_rounded_limbs v_number_first v_number_last v_number_limbs).bind fun (v_rounded_first_62, v_rounded_last_62, v_rounded_limbs_62) =>
some (17, v_rounded_first_62, v_rounded_last_62, v_rounded_limbs_62))
    else
((f_X0_takeRounded ((l2 - l3) + 1) v_rounded_first v_rounded_last v_rounded_limbs v_number_first v_number_last v_number_limbs).bind fun (v_rounded_first_29, v_rounded_last_29, v_rounded_limbs_29) =>
((f_X1_isBetweenEdges l1 v_rounded_first_29 v_rounded_last_29 v_rounded_limbs_29 v_lowEdge_first v_lowEdge_last v_lowEdge_limbs v_highEdge_first v_highEdge_last v_highEdge_limbs).bind fun r34 =>
(if r34 = 0 then
f_X1_roundToFewest_L10 n l1 l2 (l3 + 1) v_number_first v_number_last v_number_limbs v_rounded_first_29 v_rounded_last_29 v_rounded_limbs_29 v_lowEdge_first v_lowEdge_last v_lowEdge_limbs v_highEdge_first v_highEdge_last v_highEdge_limbs
      else
some (l3, v_rounded_first_29, v_rounded_last_29, v_rounded_limbs_29)))))
def f_X1_roundToFewest (l1 : Int32) (v_number_first : Int32) (v_number_last : Int32) (v_number_limbs : Nat → Int64) (v_rounded_first : Int32) (v_rounded_last : Int32) (v_rounded_limbs : Nat → Int64) (v_lowEdge_first : Int32) (v_lowEdge_last : Int32) (v_lowEdge_limbs : Nat → Int64) (v_highEdge_first : Int32) (v_highEdge_last : Int32) (v_highEdge_limbs : Nat → Int64) : Option ((Int32) × (Int32) × (Int32) × (Nat → Int64)) :=
    ((f_X0_topPlace v_number_first v_number_limbs).bind fun r4 =>
f_X1_roundToFewest_L10 FU l1 r4 1 v_number_first v_number_last v_number_limbs v_rounded_first v_rounded_last v_rounded_limbs v_lowEdge_first v_lowEdge_last v_lowEdge_limbs v_highEdge_first v_highEdge_last v_highEdge_limbs)

abbrev w_X1_putPower : List Cond := Cond.code yX1_putPower cX1_putPower 3 none :: wsL_law
abbrev wd_X1_putPower (a_this a_text a_number a_rounded a_lowEdge a_highEdge : Nat) (c_text : ClassId) (v_length : Int32) (v_digitsStart : Int32) (v_digitsEnd : Int32) (v_unitsAt : Int32) (v_tenPower : Int32) (v_text : Nat → Int32) : va_W := [(a_this, .inr (1, [.ref a_text, .int v_length, .int v_digitsStart, .int v_digitsEnd, .int v_unitsAt, .int v_tenPower, .ref a_number, .ref a_rounded, .ref a_lowEdge, .ref a_highEdge])), (a_text, .inl (c_text, 400, .inl v_text))]
def f_X1_putPower_b58 (l2 : Int32) (v_length : Int32) (v_text : Nat → Int32) : Option ((Int32) × (Nat → Int32)) :=
    ((f_X1_put (48 + (l2 - l2 / 10 * 10)) v_length v_text).bind fun (v_length_66, v_text_66) =>
some (v_length_66, v_text_66))
def f_X1_putPower_b38 (l2 : Int32) (v_length : Int32) (v_text : Nat → Int32) : Option ((Int32) × (Nat → Int32)) :=
    (if l2 < 10 then
f_X1_putPower_b58  l2 v_length v_text
  else
((f_X1_put (48 + ((l2 / 10) - (l2 / 10) / 10 * 10)) v_length v_text).bind fun (v_length_55, v_text_55) =>
f_X1_putPower_b58  l2 v_length_55 v_text_55))
def f_X1_putPower_b16 (l1 : Int32) (v_length : Int32) (v_text : Nat → Int32) : Option ((Int32) × (Nat → Int32)) :=
    (if (if 0 ≤ l1 then l1 else 0 - l1) < 100 then
f_X1_putPower_b38  (if 0 ≤ l1 then l1 else 0 - l1) v_length v_text
  else
((f_X1_put (48 + ((if 0 ≤ l1 then l1 else 0 - l1) / 100)) v_length v_text).bind fun (v_length_35, v_text_35) =>
f_X1_putPower_b38  (if 0 ≤ l1 then l1 else 0 - l1) v_length_35 v_text_35))
def f_X1_putPower (l1 : Int32) (v_length : Int32) (v_text : Nat → Int32) : Option ((Int32) × (Nat → Int32)) :=
    ((f_X1_put 101 v_length v_text).bind fun (v_length_3, v_text_3) =>
(if 0 ≤ l1 then
f_X1_putPower_b16  l1 v_length_3 v_text_3
  else
((f_X1_put 45 v_length_3 v_text_3).bind fun (v_length_13, v_text_13) =>
f_X1_putPower_b16  l1 v_length_13 v_text_13)))

abbrev w_X1_putShortest : List Cond := Cond.code yX1_putShortest cX1_putShortest 6 none :: wsL_law
abbrev wd_X1_putShortest (a_this a_text a_number a_number_limbs a_rounded a_rounded_limbs a_lowEdge a_lowEdge_limbs a_highEdge a_highEdge_limbs : Nat) (c_text c_number_limbs c_rounded_limbs c_lowEdge_limbs c_highEdge_limbs : ClassId) (v_length : Int32) (v_digitsStart : Int32) (v_digitsEnd : Int32) (v_unitsAt : Int32) (v_tenPower : Int32) (v_text : Nat → Int32) (v_number_first : Int32) (v_number_last : Int32) (v_number_limbs : Nat → Int64) (v_rounded_first : Int32) (v_rounded_last : Int32) (v_rounded_limbs : Nat → Int64) (v_lowEdge_first : Int32) (v_lowEdge_last : Int32) (v_lowEdge_limbs : Nat → Int64) (v_highEdge_first : Int32) (v_highEdge_last : Int32) (v_highEdge_limbs : Nat → Int64) : va_W := [(a_this, .inr (1, [.ref a_text, .int v_length, .int v_digitsStart, .int v_digitsEnd, .int v_unitsAt, .int v_tenPower, .ref a_number, .ref a_rounded, .ref a_lowEdge, .ref a_highEdge])), (a_text, .inl (c_text, 400, .inl v_text)), (a_number, .inr (0, [.ref a_number_limbs, .int v_number_first, .int v_number_last])), (a_number_limbs, .inl (c_number_limbs, 160, .inr (.inl v_number_limbs))), (a_rounded, .inr (0, [.ref a_rounded_limbs, .int v_rounded_first, .int v_rounded_last])), (a_rounded_limbs, .inl (c_rounded_limbs, 160, .inr (.inl v_rounded_limbs))), (a_lowEdge, .inr (0, [.ref a_lowEdge_limbs, .int v_lowEdge_first, .int v_lowEdge_last])), (a_lowEdge_limbs, .inl (c_lowEdge_limbs, 160, .inr (.inl v_lowEdge_limbs))), (a_highEdge, .inr (0, [.ref a_highEdge_limbs, .int v_highEdge_first, .int v_highEdge_last])), (a_highEdge_limbs, .inl (c_highEdge_limbs, 160, .inr (.inl v_highEdge_limbs)))]
def f_X1_putShortest_b31 (s1 : Int32) (v_length : Int32) (v_text : Nat → Int32) (v_number_first : Int32) (v_number_last : Int32) (v_number_limbs : Nat → Int64) (v_rounded_first : Int32) (v_rounded_last : Int32) (v_rounded_limbs : Nat → Int64) (v_lowEdge_first : Int32) (v_lowEdge_last : Int32) (v_lowEdge_limbs : Nat → Int64) (v_highEdge_first : Int32) (v_highEdge_last : Int32) (v_highEdge_limbs : Nat → Int64) : Option ((Int32) × (Nat → Int32) × (Int32) × (Int32) × (Nat → Int64) × (Int32) × (Int32) × (Nat → Int64) × (Int32) × (Int32) × (Nat → Int64) × (Int32) × (Int32) × (Nat → Int64)) :=
    ((f_X1_roundToFewest s1 v_number_first v_number_last v_number_limbs v_rounded_first v_rounded_last v_rounded_limbs v_lowEdge_first v_lowEdge_last v_lowEdge_limbs v_highEdge_first v_highEdge_last v_highEdge_limbs).bind fun (r31, v_rounded_first_31, v_rounded_last_31, v_rounded_limbs_31) =>
((f_X0_topPlace v_rounded_first_31 v_rounded_limbs_31).bind fun r40 =>
((f_X1_putDigits r40 r40 v_length v_text v_rounded_limbs_31).bind fun (v_length_50, v_text_50) =>
(if r31 ≤ 1 then
((f_X1_putPower r40 v_length_50 v_text_50).bind fun (v_length_83, v_text_83) =>
some (v_length_83, v_text_83, v_number_first, v_number_last, v_number_limbs, v_rounded_first_31, v_rounded_last_31, v_rounded_limbs_31, v_lowEdge_first, v_lowEdge_last, v_lowEdge_limbs, v_highEdge_first, v_highEdge_last, v_highEdge_limbs))
  else
((f_X1_put 46 v_length_50 v_text_50).bind fun (v_length_62, v_text_62) =>
((f_X1_putDigits (r40 - 1) ((r40 - r31) + 1) v_length_62 v_text_62 v_rounded_limbs_31).bind fun (v_length_77, v_text_77) =>
((f_X1_putPower r40 v_length_77 v_text_77).bind fun (v_length_83, v_text_83) =>
some (v_length_83, v_text_83, v_number_first, v_number_last, v_number_limbs, v_rounded_first_31, v_rounded_last_31, v_rounded_limbs_31, v_lowEdge_first, v_lowEdge_last, v_lowEdge_limbs, v_highEdge_first, v_highEdge_last, v_highEdge_limbs))))))))
def f_X1_putShortest (l1 : Int64) (l3 : Int32) (v_length : Int32) (v_text : Nat → Int32) (v_number_first : Int32) (v_number_last : Int32) (v_number_limbs : Nat → Int64) (v_rounded_first : Int32) (v_rounded_last : Int32) (v_rounded_limbs : Nat → Int64) (v_lowEdge_first : Int32) (v_lowEdge_last : Int32) (v_lowEdge_limbs : Nat → Int64) (v_highEdge_first : Int32) (v_highEdge_last : Int32) (v_highEdge_limbs : Nat → Int64) : Option ((Int32) × (Nat → Int32) × (Int32) × (Int32) × (Nat → Int64) × (Int32) × (Int32) × (Nat → Int64) × (Int32) × (Int32) × (Nat → Int64) × (Int32) × (Int32) × (Nat → Int64)) :=
    ((f_X0_takeScaled l1 l3 v_number_first v_number_last v_number_limbs).bind fun (v_number_first_6, v_number_last_6, v_number_limbs_6) =>
((f_X1_takeEdges l1 l3 v_lowEdge_first v_lowEdge_last v_lowEdge_limbs v_highEdge_first v_highEdge_last v_highEdge_limbs).bind fun (v_lowEdge_first_12, v_lowEdge_last_12, v_lowEdge_limbs_12, v_highEdge_first_12, v_highEdge_last_12, v_highEdge_limbs_12) =>
(if (lg_cmp (l1 - l1 / 2 * 2) 0) = 0 then
f_X1_putShortest_b31  1 v_length v_text v_number_first_6 v_number_last_6 v_number_limbs_6 v_rounded_first v_rounded_last v_rounded_limbs v_lowEdge_first_12 v_lowEdge_last_12 v_lowEdge_limbs_12 v_highEdge_first_12 v_highEdge_last_12 v_highEdge_limbs_12
  else
f_X1_putShortest_b31  0 v_length v_text v_number_first_6 v_number_last_6 v_number_limbs_6 v_rounded_first v_rounded_last v_rounded_limbs v_lowEdge_first_12 v_lowEdge_last_12 v_lowEdge_limbs_12 v_highEdge_first_12 v_highEdge_last_12 v_highEdge_limbs_12)))

abbrev w_X1_shortest : List Cond := Cond.code yX1_shortest cX1_shortest 3 (some .int) :: wsL_law
abbrev wd_X1_shortest (a_this a_text a_number a_number_limbs a_rounded a_rounded_limbs a_lowEdge a_lowEdge_limbs a_highEdge a_highEdge_limbs : Nat) (c_text c_number_limbs c_rounded_limbs c_lowEdge_limbs c_highEdge_limbs : ClassId) (v_length : Int32) (v_digitsStart : Int32) (v_digitsEnd : Int32) (v_unitsAt : Int32) (v_tenPower : Int32) (v_text : Nat → Int32) (v_number_first : Int32) (v_number_last : Int32) (v_number_limbs : Nat → Int64) (v_rounded_first : Int32) (v_rounded_last : Int32) (v_rounded_limbs : Nat → Int64) (v_lowEdge_first : Int32) (v_lowEdge_last : Int32) (v_lowEdge_limbs : Nat → Int64) (v_highEdge_first : Int32) (v_highEdge_last : Int32) (v_highEdge_limbs : Nat → Int64) : va_W := [(a_this, .inr (1, [.ref a_text, .int v_length, .int v_digitsStart, .int v_digitsEnd, .int v_unitsAt, .int v_tenPower, .ref a_number, .ref a_rounded, .ref a_lowEdge, .ref a_highEdge])), (a_text, .inl (c_text, 400, .inl v_text)), (a_number, .inr (0, [.ref a_number_limbs, .int v_number_first, .int v_number_last])), (a_number_limbs, .inl (c_number_limbs, 160, .inr (.inl v_number_limbs))), (a_rounded, .inr (0, [.ref a_rounded_limbs, .int v_rounded_first, .int v_rounded_last])), (a_rounded_limbs, .inl (c_rounded_limbs, 160, .inr (.inl v_rounded_limbs))), (a_lowEdge, .inr (0, [.ref a_lowEdge_limbs, .int v_lowEdge_first, .int v_lowEdge_last])), (a_lowEdge_limbs, .inl (c_lowEdge_limbs, 160, .inr (.inl v_lowEdge_limbs))), (a_highEdge, .inr (0, [.ref a_highEdge_limbs, .int v_highEdge_first, .int v_highEdge_last])), (a_highEdge_limbs, .inl (c_highEdge_limbs, 160, .inr (.inl v_highEdge_limbs)))]
def f_X1_shortest (l1 : Int64) (v_length : Int32) (v_text : Nat → Int32) (v_number_first : Int32) (v_number_last : Int32) (v_number_limbs : Nat → Int64) (v_rounded_first : Int32) (v_rounded_last : Int32) (v_rounded_limbs : Nat → Int64) (v_lowEdge_first : Int32) (v_lowEdge_last : Int32) (v_lowEdge_limbs : Nat → Int64) (v_highEdge_first : Int32) (v_highEdge_last : Int32) (v_highEdge_limbs : Nat → Int64) : Option (((Int32) × ((Int32) × (Nat → Int32) × (Int32) × (Int32) × (Nat → Int64) × (Int32) × (Int32) × (Nat → Int64) × (Int32) × (Int32) × (Nat → Int64) × (Int32) × (Int32) × (Nat → Int64))) ⊕ (Nat × ((Int32) × (Nat → Int32) × (Int32) × (Int32) × (Nat → Int64) × (Int32) × (Int32) × (Nat → Int64) × (Int32) × (Int32) × (Nat → Int64) × (Int32) × (Int32) × (Nat → Int64)))) :=
    ((f_X1_isNone l1).bind fun r1 =>
(if r1 = 0 then
((f_X1_startText l1 v_length v_text).bind fun (v_length_17, v_text_17) =>
((f_X1_mantissaOf l1).bind fun r21 =>
(if (lg_cmp r21 0) = 0 then
((f_X1_put 48 v_length_17 v_text_17).bind fun (v_length_32, v_text_32) =>
((f_X1_putPower 0 v_length_32 v_text_32).bind fun (v_length_37, v_text_37) =>
some (.inl (v_length_37, (v_length_37, v_text_37, v_number_first, v_number_last, v_number_limbs, v_rounded_first, v_rounded_last, v_rounded_limbs, v_lowEdge_first, v_lowEdge_last, v_lowEdge_limbs, v_highEdge_first, v_highEdge_last, v_highEdge_limbs)))))
    else
((f_X1_mantissaOf l1).bind fun r45 =>
((f_X1_powerOf l1).bind fun r49 =>
((f_X1_putShortest r45 r49 v_length_17 v_text_17 v_number_first v_number_last v_number_limbs v_rounded_first v_rounded_last v_rounded_limbs v_lowEdge_first v_lowEdge_last v_lowEdge_limbs v_highEdge_first v_highEdge_last v_highEdge_limbs).bind fun (v_length_52, v_text_52, v_number_first_52, v_number_last_52, v_number_limbs_52, v_rounded_first_52, v_rounded_last_52, v_rounded_limbs_52, v_lowEdge_first_52, v_lowEdge_last_52, v_lowEdge_limbs_52, v_highEdge_first_52, v_highEdge_last_52, v_highEdge_limbs_52) =>
some (.inl (v_length_52, (v_length_52, v_text_52, v_number_first_52, v_number_last_52, v_number_limbs_52, v_rounded_first_52, v_rounded_last_52, v_rounded_limbs_52, v_lowEdge_first_52, v_lowEdge_last_52, v_lowEdge_limbs_52, v_highEdge_first_52, v_highEdge_last_52, v_highEdge_limbs_52)))))))))
  else
some (.inr (2, (v_length, v_text, v_number_first, v_number_last, v_number_limbs, v_rounded_first, v_rounded_last, v_rounded_limbs, v_lowEdge_first, v_lowEdge_last, v_lowEdge_limbs, v_highEdge_first, v_highEdge_last, v_highEdge_limbs)))))

abbrev w_X1_letter : List Cond := Cond.code yX1_letter cX1_letter 2 (some .int) :: wsL_law
abbrev wd_X1_letter (a_this a_text a_number a_rounded a_lowEdge a_highEdge : Nat) (c_text : ClassId) (v_length : Int32) (v_digitsStart : Int32) (v_digitsEnd : Int32) (v_unitsAt : Int32) (v_tenPower : Int32) (v_text : Nat → Int32) : va_W := [(a_this, .inr (1, [.ref a_text, .int v_length, .int v_digitsStart, .int v_digitsEnd, .int v_unitsAt, .int v_tenPower, .ref a_number, .ref a_rounded, .ref a_lowEdge, .ref a_highEdge])), (a_text, .inl (c_text, 400, .inl v_text))]
def f_X1_letter (l1 : Int32) (v_length : Int32) (v_text : Nat → Int32) : Option (((Int32) × (Unit)) ⊕ (Nat × (Unit))) :=
    (if l1 < 0 then
some (.inr (3, ()))
  else
(if l1 < v_length then
(if l1 < 0 ∨ 400 ≤ Int32.toNatClampNeg l1 then none else
some (.inl ((v_text (Int32.toNatClampNeg l1)), ())))
    else
some (.inr (3, ()))))

abbrev w_X2_thrown : List Cond := Cond.code yX2_thrown cX2_thrown 1 (some .int) :: wsL_law
abbrev wd_X2_thrown (a_this a_text a_d a_n a_power a_limbs : Nat) (v_thrown : Int32) (v_size : Int32) (v_used : Int32) (v_at : Int32) : va_W := [(a_this, .inr (2, [.int v_thrown, .ref a_text, .int v_size, .ref a_d, .ref a_n, .ref a_power, .ref a_limbs, .int v_used, .int v_at]))]
def f_X2_thrown (v_thrown : Int32) : Option ((Int32)) :=
    some v_thrown

abbrev w_X2_clear : List Cond := Cond.code yX2_clear cX2_clear 1 none :: wsL_law
abbrev wd_X2_clear (a_this a_text a_d a_n a_power a_limbs : Nat) (v_thrown : Int32) (v_size : Int32) (v_used : Int32) (v_at : Int32) : va_W := [(a_this, .inr (2, [.int v_thrown, .ref a_text, .int v_size, .ref a_d, .ref a_n, .ref a_power, .ref a_limbs, .int v_used, .int v_at]))]
def f_X2_clear (v_thrown : Int32) (v_size : Int32) : Option ((Int32) × (Int32)) :=
    some (0, 0)

abbrev w_X2_add : List Cond := Cond.code yX2_add cX2_add 2 (some .int) :: wsL_law
abbrev wd_X2_add (a_this a_text a_d a_n a_power a_limbs : Nat) (c_text : ClassId) (v_thrown : Int32) (v_size : Int32) (v_used : Int32) (v_at : Int32) (v_text : Nat → Int32) : va_W := [(a_this, .inr (2, [.int v_thrown, .ref a_text, .int v_size, .ref a_d, .ref a_n, .ref a_power, .ref a_limbs, .int v_used, .int v_at])), (a_text, .inl (c_text, 400, .inl v_text))]
def f_X2_add_b31 (l1 : Int32) (s1 : Int32) (v_thrown : Int32) (v_size : Int32) (v_text : Nat → Int32) : Option ((Int32) × (Int32) × (Int32) × (Nat → Int32)) :=
    (if s1 = 0 then
(if v_size < 0 ∨ 400 ≤ Int32.toNatClampNeg v_size then none else
some ((v_size + 1), s1, (v_size + 1), (upd v_text (Int32.toNatClampNeg v_size) l1)))
  else
some (0, s1, v_size, v_text))
def f_X2_add_b12 (l1 : Int32) (v_thrown : Int32) (v_size : Int32) (v_text : Nat → Int32) : Option ((Int32) × (Int32) × (Int32) × (Nat → Int32)) :=
    f_X2_add_b31  l1 1 v_thrown v_size v_text
def f_X2_add (l1 : Int32) (v_thrown : Int32) (v_size : Int32) (v_text : Nat → Int32) : Option ((Int32) × (Int32) × (Int32) × (Nat → Int32)) :=
    (if l1 < 0 then
f_X2_add_b12  l1 v_thrown v_size v_text
  else
(if l1 ≤ 255 then
(if v_size = 400 then
f_X2_add_b31  l1 2 v_thrown v_size v_text
      else
f_X2_add_b31  l1 0 v_thrown v_size v_text)
    else
f_X2_add_b12  l1 v_thrown v_size v_text))

abbrev w_X2_digit : List Cond := Cond.code yX2_digit cX2_digit 3 (some .int) :: wsL_law
abbrev wd_X2_digit (a_this a_text a_d a_n a_power a_limbs : Nat) (c_d c_n : ClassId) (v_thrown : Int32) (v_size : Int32) (v_used : Int32) (v_at : Int32) (v_d : Nat → Int32) (v_n : Nat → Int32) : va_W := [(a_this, .inr (2, [.int v_thrown, .ref a_text, .int v_size, .ref a_d, .ref a_n, .ref a_power, .ref a_limbs, .int v_used, .int v_at])), (a_d, .inl (c_d, 7000, .inl v_d)), (a_n, .inl (c_n, 7000, .inl v_n))]
def f_X2_digit (l1 : Int32) (l2 : Int32) (v_d : Nat → Int32) (v_n : Nat → Int32) : Option ((Int32)) :=
    (if l2 < 0 then
some 0
  else
(if l1 < 0 ∨ 7000 ≤ Int32.toNatClampNeg l1 then none else
(if (v_n (Int32.toNatClampNeg l1)) ≤ l2 then
some 0
    else
(if (l1 + l2) < 0 ∨ 7000 ≤ Int32.toNatClampNeg (l1 + l2) then none else
some (v_d (Int32.toNatClampNeg (l1 + l2)))))))

abbrev w_X2_more : List Cond := Cond.code yX2_more cX2_more 3 none :: wsL_law
abbrev wd_X2_more (a_this a_text a_d a_n a_power a_limbs : Nat) (c_d c_n : ClassId) (v_thrown : Int32) (v_size : Int32) (v_used : Int32) (v_at : Int32) (v_d : Nat → Int32) (v_n : Nat → Int32) : va_W := [(a_this, .inr (2, [.int v_thrown, .ref a_text, .int v_size, .ref a_d, .ref a_n, .ref a_power, .ref a_limbs, .int v_used, .int v_at])), (a_d, .inl (c_d, 7000, .inl v_d)), (a_n, .inl (c_n, 7000, .inl v_n))]
def f_X2_more (l1 : Int32) (l2 : Int32) (v_d : Nat → Int32) (v_n : Nat → Int32) : Option ((Nat → Int32) × (Nat → Int32)) :=
    (if l1 < 0 ∨ 7000 ≤ Int32.toNatClampNeg l1 then none else
(if (l1 + (v_n (Int32.toNatClampNeg l1))) < 0 ∨ 7000 ≤ Int32.toNatClampNeg (l1 + (v_n (Int32.toNatClampNeg l1))) then none else
(if l1 < 0 ∨ 7000 ≤ Int32.toNatClampNeg l1 then none else
(if l1 < 0 ∨ 7000 ≤ Int32.toNatClampNeg l1 then none else
some ((upd v_d (Int32.toNatClampNeg (l1 + (v_n (Int32.toNatClampNeg l1)))) l2), (upd v_n (Int32.toNatClampNeg l1) ((v_n (Int32.toNatClampNeg l1)) + 1)))))))

abbrev w_X2_trim : List Cond := Cond.code yX2_trim cX2_trim 4 none :: wsL_law
abbrev wd_X2_trim (a_this a_text a_d a_n a_power a_limbs : Nat) (c_d c_n c_power : ClassId) (v_thrown : Int32) (v_size : Int32) (v_used : Int32) (v_at : Int32) (v_d : Nat → Int32) (v_n : Nat → Int32) (v_power : Nat → Int32) : va_W := [(a_this, .inr (2, [.int v_thrown, .ref a_text, .int v_size, .ref a_d, .ref a_n, .ref a_power, .ref a_limbs, .int v_used, .int v_at])), (a_d, .inl (c_d, 7000, .inl v_d)), (a_n, .inl (c_n, 7000, .inl v_n)), (a_power, .inl (c_power, 7000, .inl v_power))]
def f_X2_trim_L85 : Nat → (Int32) → (Nat → Int32) → (Nat → Int32) → (Nat → Int32) → Option ((Nat → Int32) × (Nat → Int32) × (Nat → Int32))
  | 0, _, _, _, _ => none
  | n + 1, l1, v_d, v_n, v_power =>
    (if l1 < 0 ∨ 7000 ≤ Int32.toNatClampNeg l1 then none else
(if (v_n (Int32.toNatClampNeg l1)) ≤ 0 then
some (v_d, v_n, v_power)
    else
(if l1 < 0 ∨ 7000 ≤ Int32.toNatClampNeg l1 then none else
(if ((l1 + (v_n (Int32.toNatClampNeg l1))) - 1) < 0 ∨ 7000 ≤ Int32.toNatClampNeg ((l1 + (v_n (Int32.toNatClampNeg l1))) - 1) then none else
(if (v_d (Int32.toNatClampNeg ((l1 + (v_n (Int32.toNatClampNeg l1))) - 1))) = 0 then
(if l1 < 0 ∨ 7000 ≤ Int32.toNatClampNeg l1 then none else
(if l1 < 0 ∨ 7000 ≤ Int32.toNatClampNeg l1 then none else
f_X2_trim_L85 n l1 v_d (upd v_n (Int32.toNatClampNeg l1) ((v_n (Int32.toNatClampNeg l1)) - 1)) v_power))
      else
some (v_d, v_n, v_power))))))
def f_X2_trim_L31 : Nat → (Int32) → (Int32) → (Int32) → (Nat → Int32) → (Nat → Int32) → (Nat → Int32) → Option ((Nat → Int32) × (Nat → Int32) × (Nat → Int32))
  | 0, _, _, _, _, _, _ => none
  | n + 1, l1, l2, l3, v_d, v_n, v_power =>
    (if l1 < 0 ∨ 7000 ≤ Int32.toNatClampNeg l1 then none else
(if (v_n (Int32.toNatClampNeg l1)) ≤ l3 then
(if l1 < 0 ∨ 7000 ≤ Int32.toNatClampNeg l1 then none else
(if l1 < 0 ∨ 7000 ≤ Int32.toNatClampNeg l1 then none else
(if l1 < 0 ∨ 7000 ≤ Int32.toNatClampNeg l1 then none else
(if l1 < 0 ∨ 7000 ≤ Int32.toNatClampNeg l1 then none else
f_X2_trim_L85 FU l1 v_d (upd v_n (Int32.toNatClampNeg l1) ((v_n (Int32.toNatClampNeg l1)) - l2)) (upd v_power (Int32.toNatClampNeg l1) ((v_power (Int32.toNatClampNeg l1)) - l2))))))
    else
(if (l1 + l3) < 0 ∨ 7000 ≤ Int32.toNatClampNeg (l1 + l3) then none else
(if ((l1 + l3) - l2) < 0 ∨ 7000 ≤ Int32.toNatClampNeg ((l1 + l3) - l2) then none else
f_X2_trim_L31 n l1 l2 (l3 + 1) (upd v_d (Int32.toNatClampNeg ((l1 + l3) - l2)) (v_d (Int32.toNatClampNeg (l1 + l3)))) v_n v_power))))
def f_X2_trim_L2 : Nat → (Int32) → (Int32) → (Nat → Int32) → (Nat → Int32) → (Nat → Int32) → Option ((Nat → Int32) × (Nat → Int32) × (Nat → Int32))
  | 0, _, _, _, _, _ => none
  | n + 1, l1, l2, v_d, v_n, v_power =>
    (if l1 < 0 ∨ 7000 ≤ Int32.toNatClampNeg l1 then none else
(if (v_n (Int32.toNatClampNeg l1)) ≤ l2 then
f_X2_trim_L31 FU l1 l2 l2 v_d v_n v_power
    else
(if (l1 + l2) < 0 ∨ 7000 ≤ Int32.toNatClampNeg (l1 + l2) then none else
(if (v_d (Int32.toNatClampNeg (l1 + l2))) = 0 then
f_X2_trim_L2 n l1 (l2 + 1) v_d v_n v_power
      else
f_X2_trim_L31 FU l1 l2 l2 v_d v_n v_power))))
def f_X2_trim (l1 : Int32) (v_d : Nat → Int32) (v_n : Nat → Int32) (v_power : Nat → Int32) : Option ((Nat → Int32) × (Nat → Int32) × (Nat → Int32)) :=
    f_X2_trim_L2 FU l1 0 v_d v_n v_power

abbrev w_X2_round : List Cond := Cond.code yX2_round cX2_round 7 none :: wsL_law
abbrev wd_X2_round (a_this a_text a_d a_n a_power a_limbs : Nat) (c_d c_n c_power : ClassId) (v_thrown : Int32) (v_size : Int32) (v_used : Int32) (v_at : Int32) (v_d : Nat → Int32) (v_n : Nat → Int32) (v_power : Nat → Int32) : va_W := [(a_this, .inr (2, [.int v_thrown, .ref a_text, .int v_size, .ref a_d, .ref a_n, .ref a_power, .ref a_limbs, .int v_used, .int v_at])), (a_d, .inl (c_d, 7000, .inl v_d)), (a_n, .inl (c_n, 7000, .inl v_n)), (a_power, .inl (c_power, 7000, .inl v_power))]
def f_X2_round_L258 : Nat → (Int32) → (Nat → Int32) → (Nat → Int32) → (Nat → Int32) → Option ((Nat → Int32) × (Nat → Int32) × (Nat → Int32))
  | 0, _, _, _, _ => none
  | n + 1, l6, v_d, v_n, v_power =>
    (if l6 ≤ 0 then
some ((upd v_d (Int32.toNatClampNeg 2800) 1), (upd v_n (Int32.toNatClampNeg 2800) ((v_n (Int32.toNatClampNeg 2800)) + 1)), (upd v_power (Int32.toNatClampNeg 2800) ((v_power (Int32.toNatClampNeg 2800)) + 1)))
    else
(if ((2800 + l6) - 1) < 0 ∨ 7000 ≤ Int32.toNatClampNeg ((2800 + l6) - 1) then none else
(if (2800 + l6) < 0 ∨ 7000 ≤ Int32.toNatClampNeg (2800 + l6) then none else
f_X2_round_L258 n (l6 + (-1)) (upd v_d (Int32.toNatClampNeg (2800 + l6)) (v_d (Int32.toNatClampNeg ((2800 + l6) - 1)))) v_n v_power)))
def f_X2_round_b227 (l5 : Int32) (v_d : Nat → Int32) (v_n : Nat → Int32) (v_power : Nat → Int32) : Option ((Nat → Int32) × (Nat → Int32) × (Nat → Int32)) :=
    (if l5 < 0 then
f_X2_round_L258 FU (v_n (Int32.toNatClampNeg 2800)) v_d v_n v_power
  else
(if (2800 + l5) < 0 ∨ 7000 ≤ Int32.toNatClampNeg (2800 + l5) then none else
(if (2800 + l5) < 0 ∨ 7000 ≤ Int32.toNatClampNeg (2800 + l5) then none else
some ((upd v_d (Int32.toNatClampNeg (2800 + l5)) ((v_d (Int32.toNatClampNeg (2800 + l5))) + 1)), v_n, v_power))))
def f_X2_round_L188 : Nat → (Int32) → (Nat → Int32) → (Nat → Int32) → (Nat → Int32) → Option ((Nat → Int32) × (Nat → Int32) × (Nat → Int32))
  | 0, _, _, _, _ => none
  | n + 1, l5, v_d, v_n, v_power =>
    (if l5 < 0 then
f_X2_round_b227  l5 v_d v_n v_power
    else
(if (2800 + l5) < 0 ∨ 7000 ≤ Int32.toNatClampNeg (2800 + l5) then none else
(if (v_d (Int32.toNatClampNeg (2800 + l5))) = 9 then
(if (2800 + l5) < 0 ∨ 7000 ≤ Int32.toNatClampNeg (2800 + l5) then none else
f_X2_round_L188 n (l5 + (-1)) (upd v_d (Int32.toNatClampNeg (2800 + l5)) 0) v_n v_power)
      else
f_X2_round_b227  l5 v_d v_n v_power)))
def f_X2_round_b176 (v_d : Nat → Int32) (v_n : Nat → Int32) (v_power : Nat → Int32) : Option ((Nat → Int32) × (Nat → Int32) × (Nat → Int32)) :=
    f_X2_round_L188 FU ((v_n (Int32.toNatClampNeg 2800)) - 1) v_d v_n v_power
def f_X2_round_b154 (l2 : Int32) (l3 : Int32) (s0 : Int32) (v_d : Nat → Int32) (v_n : Nat → Int32) (v_power : Nat → Int32) : Option ((Nat → Int32) × (Nat → Int32) × (Nat → Int32)) :=
    (if l2 < 5 then
some (v_d, v_n, v_power)
  else
(if l2 = 5 then
(if l3 = 0 then
(if s0 = 0 then
some (v_d, v_n, v_power)
        else
f_X2_round_b176  v_d v_n v_power)
      else
f_X2_round_b176  v_d v_n v_power)
    else
f_X2_round_b176  v_d v_n v_power))
def f_X2_round_b153 (l2 : Int32) (l3 : Int32) (v_d : Nat → Int32) (v_n : Nat → Int32) (v_power : Nat → Int32) : Option ((Nat → Int32) × (Nat → Int32) × (Nat → Int32)) :=
    f_X2_round_b154  l2 l3 0 v_d v_n v_power
def f_X2_round_L92 : Nat → (Int32) → (Int32) → (Int32) → (Int32) → (Nat → Int32) → (Nat → Int32) → (Nat → Int32) → Option ((Nat → Int32) × (Nat → Int32) × (Nat → Int32))
  | 0, _, _, _, _, _, _, _ => none
  | n + 1, l1, l2, l3, l4, v_d, v_n, v_power =>
    (if (v_n (Int32.toNatClampNeg 1400)) ≤ l4 then
(if l1 ≤ 0 then
f_X2_round_b153  l2 l3 v_d v_n v_power
      else
(if ((2800 + l1) - 1) < 0 ∨ 7000 ≤ Int32.toNatClampNeg ((2800 + l1) - 1) then none else
(if ((v_d (Int32.toNatClampNeg ((2800 + l1) - 1))) - (v_d (Int32.toNatClampNeg ((2800 + l1) - 1))) / 2 * 2) = 1 then
f_X2_round_b154  l2 l3 1 v_d v_n v_power
        else
f_X2_round_b153  l2 l3 v_d v_n v_power)))
    else
(if (1400 + l4) < 0 ∨ 7000 ≤ Int32.toNatClampNeg (1400 + l4) then none else
(if (v_d (Int32.toNatClampNeg (1400 + l4))) = 0 then
f_X2_round_L92 n l1 l2 l3 (l4 + 1) v_d v_n v_power
      else
f_X2_round_L92 n l1 l2 1 (l4 + 1) v_d v_n v_power)))
def f_X2_round_L35 : Nat → (Int32) → (Int32) → (Nat → Int32) → (Nat → Int32) → (Nat → Int32) → Option ((Nat → Int32) × (Nat → Int32) × (Nat → Int32))
  | 0, _, _, _, _, _ => none
  | n + 1, l1, l2, v_d, v_n, v_power =>
    (if (v_n (Int32.toNatClampNeg 2800)) ≤ l2 then
(if 0 ≤ l1 then
((f_X2_digit 1400 l1 v_d v_n).bind fun r81 =>
f_X2_round_L92 FU l1 r81 0 (l1 + 1) v_d v_n v_power)
      else
some (v_d, v_n, v_power))
    else
((f_X2_digit 1400 l2 v_d v_n).bind fun r61 =>
(if (2800 + l2) < 0 ∨ 7000 ≤ Int32.toNatClampNeg (2800 + l2) then none else
f_X2_round_L35 n l1 (l2 + 1) (upd v_d (Int32.toNatClampNeg (2800 + l2)) r61) v_n v_power)))
def f_X2_round (l1 : Int32) (v_d : Nat → Int32) (v_n : Nat → Int32) (v_power : Nat → Int32) : Option ((Nat → Int32) × (Nat → Int32) × (Nat → Int32)) :=
    (if 0 ≤ l1 then
f_X2_round_L35 FU l1 0 v_d (upd v_n (Int32.toNatClampNeg 2800) l1) (upd v_power (Int32.toNatClampNeg 2800) (v_power (Int32.toNatClampNeg 1400)))
  else
f_X2_round_L35 FU l1 0 v_d (upd v_n (Int32.toNatClampNeg 2800) 0) (upd v_power (Int32.toNatClampNeg 2800) (v_power (Int32.toNatClampNeg 1400))))

abbrev w_X2_against : List Cond := Cond.code yX2_against cX2_against 4 (some .int) :: wsL_law
abbrev wd_X2_against (a_this a_text a_d a_n a_power a_limbs : Nat) (c_d c_n c_power : ClassId) (v_thrown : Int32) (v_size : Int32) (v_used : Int32) (v_at : Int32) (v_d : Nat → Int32) (v_n : Nat → Int32) (v_power : Nat → Int32) : va_W := [(a_this, .inr (2, [.int v_thrown, .ref a_text, .int v_size, .ref a_d, .ref a_n, .ref a_power, .ref a_limbs, .int v_used, .int v_at])), (a_d, .inl (c_d, 7000, .inl v_d)), (a_n, .inl (c_n, 7000, .inl v_n)), (a_power, .inl (c_power, 7000, .inl v_power))]
def f_X2_against_L84 : Nat → (Int32) → (Int32) → (Int32) → (Nat → Int32) → (Nat → Int32) → (Nat → Int32) → Option ((Int32))
  | 0, _, _, _, _, _, _ => none
  | n + 1, l1, l2, l3, v_d, v_n, v_power =>
    (if l1 < 0 ∨ 7000 ≤ Int32.toNatClampNeg l1 then none else
(if l3 < (v_n (Int32.toNatClampNeg l1)) then
((f_X2_digit l1 l3 v_d v_n).bind fun r107 =>
((f_X2_digit l2 l3 v_d v_n).bind fun r113 =>
(if r107 = r113 then
f_X2_against_L84 n l1 l2 (l3 + 1) v_d v_n v_power
      else
((f_X2_digit l1 l3 v_d v_n).bind fun r122 =>
((f_X2_digit l2 l3 v_d v_n).bind fun r128 =>
(if r128 ≤ r122 then
some 1
        else
some (-1)))))))
    else
(if l2 < 0 ∨ 7000 ≤ Int32.toNatClampNeg l2 then none else
(if (v_n (Int32.toNatClampNeg l2)) ≤ l3 then
some 0
      else
((f_X2_digit l1 l3 v_d v_n).bind fun r107 =>
((f_X2_digit l2 l3 v_d v_n).bind fun r113 =>
(if r107 = r113 then
f_X2_against_L84 n l1 l2 (l3 + 1) v_d v_n v_power
        else
((f_X2_digit l1 l3 v_d v_n).bind fun r122 =>
((f_X2_digit l2 l3 v_d v_n).bind fun r128 =>
(if r128 ≤ r122 then
some 1
          else
some (-1)))))))))))
def f_X2_against_b18 (l1 : Int32) (l2 : Int32) (v_d : Nat → Int32) (v_n : Nat → Int32) (v_power : Nat → Int32) : Option ((Int32)) :=
    (if l1 < 0 ∨ 7000 ≤ Int32.toNatClampNeg l1 then none else
(if (v_n (Int32.toNatClampNeg l1)) = 0 then
(if l2 < 0 ∨ 7000 ≤ Int32.toNatClampNeg l2 then none else
(if (v_n (Int32.toNatClampNeg l2)) = 0 then
some 0
    else
some (-1)))
  else
some 1))
def f_X2_against (l1 : Int32) (l2 : Int32) (v_d : Nat → Int32) (v_n : Nat → Int32) (v_power : Nat → Int32) : Option ((Int32)) :=
    (if l1 < 0 ∨ 7000 ≤ Int32.toNatClampNeg l1 then none else
(if (v_n (Int32.toNatClampNeg l1)) = 0 then
f_X2_against_b18  l1 l2 v_d v_n v_power
  else
(if l2 < 0 ∨ 7000 ≤ Int32.toNatClampNeg l2 then none else
(if (v_n (Int32.toNatClampNeg l2)) = 0 then
f_X2_against_b18  l1 l2 v_d v_n v_power
    else
(if l1 < 0 ∨ 7000 ≤ Int32.toNatClampNeg l1 then none else
(if l2 < 0 ∨ 7000 ≤ Int32.toNatClampNeg l2 then none else
(if (v_power (Int32.toNatClampNeg l1)) = (v_power (Int32.toNatClampNeg l2)) then
f_X2_against_L84 FU l1 l2 0 v_d v_n v_power
      else
(if l1 < 0 ∨ 7000 ≤ Int32.toNatClampNeg l1 then none else
(if l2 < 0 ∨ 7000 ≤ Int32.toNatClampNeg l2 then none else
(if (v_power (Int32.toNatClampNeg l2)) ≤ (v_power (Int32.toNatClampNeg l1)) then
some 1
        else
some (-1)))))))))))

abbrev w_X2_times : List Cond := Cond.code yX2_times cX2_times 6 none :: wsL_law
abbrev wd_X2_times (a_this a_text a_d a_n a_power a_limbs : Nat) (c_limbs : ClassId) (v_thrown : Int32) (v_size : Int32) (v_used : Int32) (v_at : Int32) (v_limbs : Nat → Int64) : va_W := [(a_this, .inr (2, [.int v_thrown, .ref a_text, .int v_size, .ref a_d, .ref a_n, .ref a_power, .ref a_limbs, .int v_used, .int v_at])), (a_limbs, .inl (c_limbs, 160, .inr (.inl v_limbs)))]
def f_X2_times_L5 : Nat → (Int64) → (Int64) → (Int32) → (Int32) → (Nat → Int64) → Option ((Int32) × (Nat → Int64))
  | 0, _, _, _, _, _ => none
  | n + 1, l1, l3, l5, v_used, v_limbs =>
    (if v_used ≤ l5 then
(if (lg_cmp l3 0) ≤ 0 then
some (v_used, v_limbs)
      else
(if v_used < 0 ∨ 160 ≤ Int32.toNatClampNeg v_used then none else
some ((v_used + 1), (vp_updL v_limbs (Int32.toNatClampNeg v_used) l3))))
    else
(if l5 < 0 ∨ 160 ≤ Int32.toNatClampNeg l5 then none else
(if l5 < 0 ∨ 160 ≤ Int32.toNatClampNeg l5 then none else
f_X2_times_L5 n l1 ((l3 + ((v_limbs (Int32.toNatClampNeg l5)) * l1)) / 1000000000) (l5 + 1) v_used (vp_updL v_limbs (Int32.toNatClampNeg l5) ((l3 + ((v_limbs (Int32.toNatClampNeg l5)) * l1)) - (l3 + ((v_limbs (Int32.toNatClampNeg l5)) * l1)) / 1000000000 * 1000000000)))))
def f_X2_times (l1 : Int64) (v_used : Int32) (v_limbs : Nat → Int64) : Option ((Int32) × (Nat → Int64)) :=
    f_X2_times_L5 FU l1 0 0 v_used v_limbs

abbrev w_X2_row : List Cond := Cond.code yX2_row cX2_row 8 none :: wsL_law
abbrev wd_X2_row (a_this a_text a_d a_n a_power a_limbs : Nat) (c_d c_n c_power c_limbs : ClassId) (v_thrown : Int32) (v_size : Int32) (v_used : Int32) (v_at : Int32) (v_d : Nat → Int32) (v_n : Nat → Int32) (v_power : Nat → Int32) (v_limbs : Nat → Int64) : va_W := [(a_this, .inr (2, [.int v_thrown, .ref a_text, .int v_size, .ref a_d, .ref a_n, .ref a_power, .ref a_limbs, .int v_used, .int v_at])), (a_d, .inl (c_d, 7000, .inl v_d)), (a_n, .inl (c_n, 7000, .inl v_n)), (a_power, .inl (c_power, 7000, .inl v_power)), (a_limbs, .inl (c_limbs, 160, .inr (.inl v_limbs)))]
def f_X2_row_b243 (l4 : Int32) (s1 : Int32) (s2 : Int32) (s3 : Int32) (v_used : Int32) (v_d : Nat → Int32) (v_n : Nat → Int32) (v_power : Nat → Int32) (v_limbs : Nat → Int64) : Option ((Int32) × (Nat → Int32) × (Nat → Int32) × (Nat → Int32) × (Nat → Int64)) :=
    (if s1 < 0 ∨ 7000 ≤ Int32.toNatClampNeg s1 then none else
((f_X2_trim l4 v_d v_n (upd v_power (Int32.toNatClampNeg s1) (s2 + s3))).bind fun (v_d_248, v_n_248, v_power_248) =>
some (v_used, v_d_248, v_n_248, v_power_248, v_limbs)))
def f_X2_row_L176 (k : (Int32) → (Int32) → (Int32) → (Int32) → (Nat → Int32) → (Nat → Int32) → (Nat → Int32) → (Nat → Int64) → Option ((Int32) × (Nat → Int32) × (Nat → Int32) × (Nat → Int32) × (Nat → Int64))) : Nat → (Int32) → (Int32) → (Int32) → (Int64) → (Int32) → (Nat → Int32) → (Nat → Int32) → (Nat → Int32) → (Nat → Int64) → Option ((Int32) × (Nat → Int32) × (Nat → Int32) × (Nat → Int32) × (Nat → Int64))
  | 0, _, _, _, _, _, _, _, _, _ => none
  | n + 1, l3, l4, l5, l6, v_used, v_d, v_n, v_power, v_limbs =>
    (if (lg_cmp l6 0) ≤ 0 then
k l3 l4 (l5 + (-1)) v_used v_d v_n v_power v_limbs
    else
(if l5 < 0 ∨ 160 ≤ Int32.toNatClampNeg l5 then none else
(if l6 = 0 then none else
((f_X2_more l4 (Int64.toInt32 (((v_limbs (Int32.toNatClampNeg l5)) / l6) - ((v_limbs (Int32.toNatClampNeg l5)) / l6) / 10 * 10)) v_d v_n).bind fun (v_d_201, v_n_201) =>
f_X2_row_L176 k n l3 l4 l5 (l6 / 10) v_used v_d_201 v_n_201 v_power v_limbs))))
def f_X2_row_L166 : Nat → (Int32) → (Int32) → (Int32) → (Int32) → (Nat → Int32) → (Nat → Int32) → (Nat → Int32) → (Nat → Int64) → Option ((Int32) × (Nat → Int32) × (Nat → Int32) × (Nat → Int32) × (Nat → Int64))
  | 0, _, _, _, _, _, _, _, _ => none
  | n + 1, l3, l4, l5, v_used, v_d, v_n, v_power, v_limbs =>
    (if l5 < 0 then
(if l4 < 0 ∨ 7000 ≤ Int32.toNatClampNeg l4 then none else
(if 0 ≤ l3 then
f_X2_row_b243  l4 l4 (v_n (Int32.toNatClampNeg l4)) 0 v_used v_d v_n v_power v_limbs
      else
f_X2_row_b243  l4 l4 (v_n (Int32.toNatClampNeg l4)) l3 v_used v_d v_n v_power v_limbs))
    else
f_X2_row_L176 (f_X2_row_L166 n) FU l3 l4 l5 100000000 v_used v_d v_n v_power v_limbs)
def f_X2_row_L119 : Nat → (Int32) → (Int32) → (Int32) → (Int32) → (Nat → Int32) → (Nat → Int32) → (Nat → Int32) → (Nat → Int64) → Option ((Int32) × (Nat → Int32) × (Nat → Int32) × (Nat → Int32) × (Nat → Int64))
  | 0, _, _, _, _, _, _, _, _ => none
  | n + 1, l3, l4, l5, v_used, v_d, v_n, v_power, v_limbs =>
    (if 0 ≤ l3 then
(if 0 ≤ l5 then
(if l4 < 0 ∨ 7000 ≤ Int32.toNatClampNeg l4 then none else
f_X2_row_L166 FU l3 l4 (v_used - 1) v_used v_d (upd v_n (Int32.toNatClampNeg l4) 0) v_power v_limbs)
      else
((f_X2_times 5 v_used v_limbs).bind fun (v_used_141, v_limbs_141) =>
f_X2_row_L119 n l3 l4 (l5 + 1) v_used_141 v_d v_n v_power v_limbs_141))
    else
(if ((-l3) - (-l3) / 12 * 12) ≤ l5 then
(if l4 < 0 ∨ 7000 ≤ Int32.toNatClampNeg l4 then none else
f_X2_row_L166 FU l3 l4 (v_used - 1) v_used v_d (upd v_n (Int32.toNatClampNeg l4) 0) v_power v_limbs)
      else
((f_X2_times 5 v_used v_limbs).bind fun (v_used_141, v_limbs_141) =>
f_X2_row_L119 n l3 l4 (l5 + 1) v_used_141 v_d v_n v_power v_limbs_141)))
def f_X2_row_L93 : Nat → (Int32) → (Int32) → (Int32) → (Int32) → (Nat → Int32) → (Nat → Int32) → (Nat → Int32) → (Nat → Int64) → Option ((Int32) × (Nat → Int32) × (Nat → Int32) × (Nat → Int32) × (Nat → Int64))
  | 0, _, _, _, _, _, _, _, _ => none
  | n + 1, l3, l4, l5, v_used, v_d, v_n, v_power, v_limbs =>
    (if ((-l3) / 12) ≤ l5 then
f_X2_row_L119 FU l3 l4 0 v_used v_d v_n v_power v_limbs
    else
((f_X2_times 244140625 v_used v_limbs).bind fun (v_used_107, v_limbs_107) =>
f_X2_row_L93 n l3 l4 (l5 + 1) v_used_107 v_d v_n v_power v_limbs_107))
def f_X2_row_L54 : Nat → (Int32) → (Int32) → (Int32) → (Int32) → (Nat → Int32) → (Nat → Int32) → (Nat → Int32) → (Nat → Int64) → Option ((Int32) × (Nat → Int32) × (Nat → Int32) × (Nat → Int32) × (Nat → Int64))
  | 0, _, _, _, _, _, _, _, _ => none
  | n + 1, l3, l4, l5, v_used, v_d, v_n, v_power, v_limbs =>
    (if (l3 / 29) ≤ l5 then
(if l3 ≤ 0 then
f_X2_row_L93 FU l3 l4 0 v_used v_d v_n v_power v_limbs
      else
((f_X2_times (1 <<< (Int32.toInt64 (l3 - l3 / 29 * 29) &&& 63)) v_used v_limbs).bind fun (v_used_87, v_limbs_87) =>
f_X2_row_L93 FU l3 l4 0 v_used_87 v_d v_n v_power v_limbs_87))
    else
((f_X2_times 536870912 v_used v_limbs).bind fun (v_used_67, v_limbs_67) =>
f_X2_row_L54 n l3 l4 (l5 + 1) v_used_67 v_d v_n v_power v_limbs_67))
def f_X2_row_L8 : Nat → (Int32) → (Int32) → (Int64) → (Int32) → (Nat → Int32) → (Nat → Int32) → (Nat → Int32) → (Nat → Int64) → Option ((Int32) × (Nat → Int32) × (Nat → Int32) × (Nat → Int32) × (Nat → Int64))
  | 0, _, _, _, _, _, _, _, _ => none
  | n + 1, l3, l4, l5, v_used, v_d, v_n, v_power, v_limbs =>
    (if (lg_cmp l5 0) ≤ 0 then
f_X2_row_L54 FU l3 l4 0 v_used v_d v_n v_power v_limbs
    else
(if v_used < 0 ∨ 160 ≤ Int32.toNatClampNeg v_used then none else
f_X2_row_L8 n l3 l4 (l5 / 1000000000) (v_used + 1) v_d v_n v_power (vp_updL v_limbs (Int32.toNatClampNeg v_used) (l5 - l5 / 1000000000 * 1000000000))))
def f_X2_row (l1 : Int64) (l3 : Int32) (l4 : Int32) (v_used : Int32) (v_d : Nat → Int32) (v_n : Nat → Int32) (v_power : Nat → Int32) (v_limbs : Nat → Int64) : Option ((Int32) × (Nat → Int32) × (Nat → Int32) × (Nat → Int32) × (Nat → Int64)) :=
    f_X2_row_L8 FU l3 l4 l1 0 v_d v_n v_power v_limbs

abbrev w_X2_whole : List Cond := Cond.code yX2_whole cX2_whole 2 (some .long) :: wsL_law
def f_X2_whole (l0 : Int64) : Option ((Int64)) :=
    (if (lg_cmp ((Int64.toUInt64 l0 >>> (Int64.toUInt64 (Int32.toInt64 52) &&& Int64.toUInt64 63)).toInt64) 0) = 0 then
some l0
  else
some ((l0 &&& 4503599627370495) ||| 4503599627370496))

abbrev w_X2_two : List Cond := Cond.code yX2_two cX2_two 2 (some .int) :: wsL_law
def f_X2_two (l0 : Int64) : Option ((Int32)) :=
    (if (lg_cmp ((Int64.toUInt64 l0 >>> (Int64.toUInt64 (Int32.toInt64 52) &&& Int64.toUInt64 63)).toInt64) 0) = 0 then
some (-1074)
  else
some ((Int64.toInt32 ((Int64.toUInt64 l0 >>> (Int64.toUInt64 (Int32.toInt64 52) &&& Int64.toUInt64 63)).toInt64)) - 1075))

abbrev w_X2_rowOf : List Cond := Cond.code yX2_rowOf cX2_rowOf 4 none :: wsL_law
abbrev wd_X2_rowOf (a_this a_text a_d a_n a_power a_limbs : Nat) (c_d c_n c_power c_limbs : ClassId) (v_thrown : Int32) (v_size : Int32) (v_used : Int32) (v_at : Int32) (v_d : Nat → Int32) (v_n : Nat → Int32) (v_power : Nat → Int32) (v_limbs : Nat → Int64) : va_W := [(a_this, .inr (2, [.int v_thrown, .ref a_text, .int v_size, .ref a_d, .ref a_n, .ref a_power, .ref a_limbs, .int v_used, .int v_at])), (a_d, .inl (c_d, 7000, .inl v_d)), (a_n, .inl (c_n, 7000, .inl v_n)), (a_power, .inl (c_power, 7000, .inl v_power)), (a_limbs, .inl (c_limbs, 160, .inr (.inl v_limbs)))]
def f_X2_rowOf (l1 : Int64) (l3 : Int32) (v_used : Int32) (v_d : Nat → Int32) (v_n : Nat → Int32) (v_power : Nat → Int32) (v_limbs : Nat → Int64) : Option ((Int32) × (Nat → Int32) × (Nat → Int32) × (Nat → Int32) × (Nat → Int64)) :=
    ((f_X2_whole l1).bind fun r2 =>
((f_X2_two l1).bind fun r6 =>
((f_X2_row r2 r6 l3 v_used v_d v_n v_power v_limbs).bind fun (v_used_10, v_d_10, v_n_10, v_power_10, v_limbs_10) =>
some (v_used_10, v_d_10, v_n_10, v_power_10, v_limbs_10))))

abbrev w_X2_is : List Cond := Cond.code yX2_is cX2_is 2 (some .boolean) :: wsL_law
abbrev wd_X2_is (a_this a_text a_d a_n a_power a_limbs : Nat) (c_text : ClassId) (v_thrown : Int32) (v_size : Int32) (v_used : Int32) (v_at : Int32) (v_text : Nat → Int32) : va_W := [(a_this, .inr (2, [.int v_thrown, .ref a_text, .int v_size, .ref a_d, .ref a_n, .ref a_power, .ref a_limbs, .int v_used, .int v_at])), (a_text, .inl (c_text, 400, .inl v_text))]
def f_X2_is (l1 : Int32) (v_size : Int32) (v_at : Int32) (v_text : Nat → Int32) : Option ((Int32)) :=
    (if v_size ≤ v_at then
some 0
  else
(if v_at < 0 ∨ 400 ≤ Int32.toNatClampNeg v_at then none else
(if (v_text (Int32.toNatClampNeg v_at)) = l1 then
some 1
    else
some 0)))

abbrev w_X2_isDigit : List Cond := Cond.code yX2_isDigit cX2_isDigit 1 (some .boolean) :: wsL_law
abbrev wd_X2_isDigit (a_this a_text a_d a_n a_power a_limbs : Nat) (c_text : ClassId) (v_thrown : Int32) (v_size : Int32) (v_used : Int32) (v_at : Int32) (v_text : Nat → Int32) : va_W := [(a_this, .inr (2, [.int v_thrown, .ref a_text, .int v_size, .ref a_d, .ref a_n, .ref a_power, .ref a_limbs, .int v_used, .int v_at])), (a_text, .inl (c_text, 400, .inl v_text))]
def f_X2_isDigit (v_size : Int32) (v_at : Int32) (v_text : Nat → Int32) : Option ((Int32)) :=
    (if v_size ≤ v_at then
some 0
  else
(if v_at < 0 ∨ 400 ≤ Int32.toNatClampNeg v_at then none else
(if (v_text (Int32.toNatClampNeg v_at)) < 48 then
some 0
    else
(if v_at < 0 ∨ 400 ≤ Int32.toNatClampNeg v_at then none else
(if 57 < (v_text (Int32.toNatClampNeg v_at)) then
some 0
      else
some 1)))))

abbrev w_X2_parse : List Cond := Cond.code yX2_parse cX2_parse 4 (some .boolean) :: wsL_law
abbrev wd_X2_parse (a_this a_text a_d a_n a_power a_limbs : Nat) (c_text c_d c_n c_power : ClassId) (v_thrown : Int32) (v_size : Int32) (v_used : Int32) (v_at : Int32) (v_text : Nat → Int32) (v_d : Nat → Int32) (v_n : Nat → Int32) (v_power : Nat → Int32) : va_W := [(a_this, .inr (2, [.int v_thrown, .ref a_text, .int v_size, .ref a_d, .ref a_n, .ref a_power, .ref a_limbs, .int v_used, .int v_at])), (a_text, .inl (c_text, 400, .inl v_text)), (a_d, .inl (c_d, 7000, .inl v_d)), (a_n, .inl (c_n, 7000, .inl v_n)), (a_power, .inl (c_power, 7000, .inl v_power))]
def f_X2_parse_b261 (v_size : Int32) (v_at : Int32) (v_text : Nat → Int32) (v_d : Nat → Int32) (v_n : Nat → Int32) (v_power : Nat → Int32) : Option ((Int32) × (Int32) × (Nat → Int32) × (Nat → Int32) × (Nat → Int32)) :=
    ((f_X2_trim 0 v_d v_n v_power).bind fun (v_d_263, v_n_263, v_power_263) =>
(if v_at = v_size then
some (1, v_at, v_d_263, v_n_263, v_power_263)
  else
some (0, v_at, v_d_263, v_n_263, v_power_263)))
def f_X2_parse_b259 (s1 : Int32) (s2 : Int32) (s3 : Int32) (v_size : Int32) (v_at : Int32) (v_text : Nat → Int32) (v_d : Nat → Int32) (v_n : Nat → Int32) (v_power : Nat → Int32) : Option ((Int32) × (Int32) × (Nat → Int32) × (Nat → Int32) × (Nat → Int32)) :=
    (if s1 < 0 ∨ 7000 ≤ Int32.toNatClampNeg s1 then none else
f_X2_parse_b261  v_size v_at v_text v_d v_n (upd v_power (Int32.toNatClampNeg s1) (s2 + s3)))
def f_X2_parse_b232 (l1 : Int32) (l2 : Int32) (l3 : Int32) (v_size : Int32) (v_at : Int32) (v_text : Nat → Int32) (v_d : Nat → Int32) (v_n : Nat → Int32) (v_power : Nat → Int32) : Option ((Int32) × (Int32) × (Nat → Int32) × (Nat → Int32) × (Nat → Int32)) :=
    (if v_at = l2 then
some (0, v_at, v_d, v_n, v_power)
  else
(if l1 = 0 then
f_X2_parse_b259  0 (v_power (Int32.toNatClampNeg 0)) l3 v_size v_at v_text v_d v_n v_power
    else
f_X2_parse_b259  0 (v_power (Int32.toNatClampNeg 0)) (-l3) v_size v_at v_text v_d v_n v_power))
def f_X2_parse_L184 : Nat → (Int32) → (Int32) → (Int32) → (Int32) → (Int32) → (Nat → Int32) → (Nat → Int32) → (Nat → Int32) → (Nat → Int32) → Option ((Int32) × (Int32) × (Nat → Int32) × (Nat → Int32) × (Nat → Int32))
  | 0, _, _, _, _, _, _, _, _, _ => none
  | n + 1, l1, l2, l3, v_size, v_at, v_text, v_d, v_n, v_power =>
    ((f_X2_isDigit v_size v_at v_text).bind fun r185 =>
(if r185 = 0 then
f_X2_parse_b232  l1 l2 l3 v_size v_at v_text v_d v_n v_power
    else
(if 4 ≤ (v_at - l2) then
f_X2_parse_b232  l1 l2 l3 v_size v_at v_text v_d v_n v_power
      else
(if v_at < 0 ∨ 400 ≤ Int32.toNatClampNeg v_at then none else
f_X2_parse_L184 n l1 l2 (((10 * l3) + (v_text (Int32.toNatClampNeg v_at))) - 48) v_size (v_at + 1) v_text v_d v_n v_power))))
def f_X2_parse_b137 (v_size : Int32) (v_at : Int32) (v_text : Nat → Int32) (v_d : Nat → Int32) (v_n : Nat → Int32) (v_power : Nat → Int32) : Option ((Int32) × (Int32) × (Nat → Int32) × (Nat → Int32) × (Nat → Int32)) :=
    ((f_X2_is 101 v_size v_at v_text).bind fun r140 =>
(if r140 = 0 then
f_X2_parse_b261  v_size v_at v_text v_d v_n v_power
  else
((f_X2_is 45 v_size (v_at + 1) v_text).bind fun r159 =>
(if r159 = 0 then
f_X2_parse_L184 FU r159 (v_at + 1) 0 v_size (v_at + 1) v_text v_d v_n v_power
    else
f_X2_parse_L184 FU r159 ((v_at + 1) + 1) 0 v_size ((v_at + 1) + 1) v_text v_d v_n v_power))))
def f_X2_parse_L100 : Nat → (Int32) → (Int32) → (Nat → Int32) → (Nat → Int32) → (Nat → Int32) → (Nat → Int32) → Option ((Int32) × (Int32) × (Nat → Int32) × (Nat → Int32) × (Nat → Int32))
  | 0, _, _, _, _, _, _ => none
  | n + 1, v_size, v_at, v_text, v_d, v_n, v_power =>
    ((f_X2_isDigit v_size v_at v_text).bind fun r101 =>
(if r101 = 0 then
f_X2_parse_b137  v_size v_at v_text v_d v_n v_power
    else
(if v_at < 0 ∨ 400 ≤ Int32.toNatClampNeg v_at then none else
((f_X2_more 0 ((v_text (Int32.toNatClampNeg v_at)) - 48) v_d v_n).bind fun (v_d_121, v_n_121) =>
f_X2_parse_L100 n v_size (v_at + 1) v_text v_d_121 v_n_121 v_power))))
def f_X2_parse_L23 : Nat → (Int32) → (Int32) → (Nat → Int32) → (Nat → Int32) → (Nat → Int32) → (Nat → Int32) → Option ((Int32) × (Int32) × (Nat → Int32) × (Nat → Int32) × (Nat → Int32))
  | 0, _, _, _, _, _, _ => none
  | n + 1, v_size, v_at, v_text, v_d, v_n, v_power =>
    ((f_X2_isDigit v_size v_at v_text).bind fun r24 =>
(if r24 = 0 then
((f_X2_is 46 v_size v_at v_text).bind fun r75 =>
(if r75 = 0 then
f_X2_parse_b137  v_size v_at v_text v_d v_n (upd v_power (Int32.toNatClampNeg 0) (v_n (Int32.toNatClampNeg 0)))
      else
((f_X2_isDigit v_size (v_at + 1) v_text).bind fun r92 =>
(if r92 = 0 then
some (0, (v_at + 1), v_d, v_n, (upd v_power (Int32.toNatClampNeg 0) (v_n (Int32.toNatClampNeg 0))))
        else
f_X2_parse_L100 FU v_size (v_at + 1) v_text v_d v_n (upd v_power (Int32.toNatClampNeg 0) (v_n (Int32.toNatClampNeg 0)))))))
    else
(if v_at < 0 ∨ 400 ≤ Int32.toNatClampNeg v_at then none else
((f_X2_more 0 ((v_text (Int32.toNatClampNeg v_at)) - 48) v_d v_n).bind fun (v_d_44, v_n_44) =>
f_X2_parse_L23 n v_size (v_at + 1) v_text v_d_44 v_n_44 v_power))))
def f_X2_parse (v_size : Int32) (v_at : Int32) (v_text : Nat → Int32) (v_d : Nat → Int32) (v_n : Nat → Int32) (v_power : Nat → Int32) : Option ((Int32) × (Int32) × (Nat → Int32) × (Nat → Int32) × (Nat → Int32)) :=
    ((f_X2_isDigit v_size v_at v_text).bind fun r15 =>
(if r15 = 0 then
some (0, v_at, v_d, (upd v_n (Int32.toNatClampNeg 0) 0), (upd v_power (Int32.toNatClampNeg 0) 0))
  else
f_X2_parse_L23 FU v_size v_at v_text v_d (upd v_n (Int32.toNatClampNeg 0) 0) (upd v_power (Int32.toNatClampNeg 0) 0)))

abbrev w_X2_nearest : List Cond := Cond.code yX2_nearest cX2_nearest 7 (some .long) :: wsL_law
abbrev wd_X2_nearest (a_this a_text a_d a_n a_power a_limbs : Nat) (c_d c_n c_power c_limbs : ClassId) (v_thrown : Int32) (v_size : Int32) (v_used : Int32) (v_at : Int32) (v_d : Nat → Int32) (v_n : Nat → Int32) (v_power : Nat → Int32) (v_limbs : Nat → Int64) : va_W := [(a_this, .inr (2, [.int v_thrown, .ref a_text, .int v_size, .ref a_d, .ref a_n, .ref a_power, .ref a_limbs, .int v_used, .int v_at])), (a_d, .inl (c_d, 7000, .inl v_d)), (a_n, .inl (c_n, 7000, .inl v_n)), (a_power, .inl (c_power, 7000, .inl v_power)), (a_limbs, .inl (c_limbs, 160, .inr (.inl v_limbs)))]
def f_X2_nearest_L45 : Nat → (Int64) → (Int64) → (Int32) → (Nat → Int32) → (Nat → Int32) → (Nat → Int32) → (Nat → Int64) → Option ((Int64) × (Int32) × (Nat → Int32) × (Nat → Int32) × (Nat → Int32) × (Nat → Int64))
  | 0, _, _, _, _, _, _, _ => none
  | n + 1, l1, l3, v_used, v_d, v_n, v_power, v_limbs =>
    (if 0 ≤ (lg_cmp l1 l3) then
((f_X2_whole l1).bind fun r103 =>
((f_X2_two l1).bind fun r110 =>
((f_X2_row ((2 * r103) + 1) (r110 - 1) 5600 v_used v_d v_n v_power v_limbs).bind fun (v_used_118, v_d_118, v_n_118, v_power_118, v_limbs_118) =>
((f_X2_against 0 5600 v_d_118 v_n_118 v_power_118).bind fun r126 =>
(if r126 < 0 then
some (l1, v_used_118, v_d_118, v_n_118, v_power_118, v_limbs_118)
      else
(if r126 = 0 then
(if (lg_cmp (l1 - l1 / 2 * 2) 0) = 0 then
some (l1, v_used_118, v_d_118, v_n_118, v_power_118, v_limbs_118)
          else
some ((l1 + 1), v_used_118, v_d_118, v_n_118, v_power_118, v_limbs_118))
        else
some ((l1 + 1), v_used_118, v_d_118, v_n_118, v_power_118, v_limbs_118)))))))
    else
((f_X2_rowOf (l1 + (((l3 - l1) + 1) / 2)) 1400 v_used v_d v_n v_power v_limbs).bind fun (v_used_70, v_d_70, v_n_70, v_power_70, v_limbs_70) =>
((f_X2_against 0 1400 v_d_70 v_n_70 v_power_70).bind fun r78 =>
(if r78 < 0 then
f_X2_nearest_L45 n l1 ((l1 + (((l3 - l1) + 1) / 2)) - 1) v_used_70 v_d_70 v_n_70 v_power_70 v_limbs_70
      else
f_X2_nearest_L45 n (l1 + (((l3 - l1) + 1) / 2)) l3 v_used_70 v_d_70 v_n_70 v_power_70 v_limbs_70))))
def f_X2_nearest (v_used : Int32) (v_d : Nat → Int32) (v_n : Nat → Int32) (v_power : Nat → Int32) (v_limbs : Nat → Int64) : Option ((Int64) × (Int32) × (Nat → Int32) × (Nat → Int32) × (Nat → Int32) × (Nat → Int64)) :=
    (if (v_n (Int32.toNatClampNeg 0)) = 0 then
some (0, v_used, v_d, v_n, v_power, v_limbs)
  else
(if (-400) ≤ (v_power (Int32.toNatClampNeg 0)) then
(if (v_power (Int32.toNatClampNeg 0)) ≤ 400 then
f_X2_nearest_L45 FU 0 9218868437227405311 v_used v_d v_n v_power v_limbs
      else
some (9218868437227405312, v_used, v_d, v_n, v_power, v_limbs))
    else
some (0, v_used, v_d, v_n, v_power, v_limbs)))

abbrev w_X2_read : List Cond := Cond.code yX2_read cX2_read 2 (some .long) :: wsL_law
abbrev wd_X2_read (a_this a_text a_d a_n a_power a_limbs : Nat) (c_text c_d c_n c_power c_limbs : ClassId) (v_thrown : Int32) (v_size : Int32) (v_used : Int32) (v_at : Int32) (v_text : Nat → Int32) (v_d : Nat → Int32) (v_n : Nat → Int32) (v_power : Nat → Int32) (v_limbs : Nat → Int64) : va_W := [(a_this, .inr (2, [.int v_thrown, .ref a_text, .int v_size, .ref a_d, .ref a_n, .ref a_power, .ref a_limbs, .int v_used, .int v_at])), (a_text, .inl (c_text, 400, .inl v_text)), (a_d, .inl (c_d, 7000, .inl v_d)), (a_n, .inl (c_n, 7000, .inl v_n)), (a_power, .inl (c_power, 7000, .inl v_power)), (a_limbs, .inl (c_limbs, 160, .inr (.inl v_limbs)))]
def f_X2_read_b39 (l1 : Int32) (s1 : Int32) (v_thrown : Int32) (v_size : Int32) (v_used : Int32) (v_at : Int32) (v_text : Nat → Int32) (v_d : Nat → Int32) (v_n : Nat → Int32) (v_power : Nat → Int32) (v_limbs : Nat → Int64) : Option ((Int64) × (Int32) × (Int32) × (Int32) × (Nat → Int32) × (Nat → Int32) × (Nat → Int32) × (Nat → Int64)) :=
    (if s1 = 0 then
((f_X2_nearest v_used v_d v_n v_power v_limbs).bind fun (r52, v_used_52, v_d_52, v_n_52, v_power_52, v_limbs_52) =>
(if l1 = 0 then
some ((r52 ||| 0), s1, v_used_52, v_at, v_d_52, v_n_52, v_power_52, v_limbs_52)
    else
some ((r52 ||| (-9223372036854775808)), s1, v_used_52, v_at, v_d_52, v_n_52, v_power_52, v_limbs_52)))
  else
some (0, s1, v_used, v_at, v_d, v_n, v_power, v_limbs))
def f_X2_read_b26 (l1 : Int32) (v_thrown : Int32) (v_size : Int32) (v_used : Int32) (v_at : Int32) (v_text : Nat → Int32) (v_d : Nat → Int32) (v_n : Nat → Int32) (v_power : Nat → Int32) (v_limbs : Nat → Int64) : Option ((Int64) × (Int32) × (Int32) × (Int32) × (Nat → Int32) × (Nat → Int32) × (Nat → Int32) × (Nat → Int64)) :=
    ((f_X2_parse v_size v_at v_text v_d v_n v_power).bind fun (r28, v_at_28, v_d_28, v_n_28, v_power_28) =>
(if r28 = 0 then
f_X2_read_b39  l1 1 v_thrown v_size v_used v_at_28 v_text v_d_28 v_n_28 v_power_28 v_limbs
  else
f_X2_read_b39  l1 0 v_thrown v_size v_used v_at_28 v_text v_d_28 v_n_28 v_power_28 v_limbs))
def f_X2_read (v_thrown : Int32) (v_size : Int32) (v_used : Int32) (v_at : Int32) (v_text : Nat → Int32) (v_d : Nat → Int32) (v_n : Nat → Int32) (v_power : Nat → Int32) (v_limbs : Nat → Int64) : Option ((Int64) × (Int32) × (Int32) × (Int32) × (Nat → Int32) × (Nat → Int32) × (Nat → Int32) × (Nat → Int64)) :=
    ((f_X2_is 45 v_size 0 v_text).bind fun r8 =>
(if r8 = 0 then
f_X2_read_b26  r8 v_thrown v_size v_used 0 v_text v_d v_n v_power v_limbs
  else
f_X2_read_b26  r8 v_thrown v_size v_used (0 + 1) v_text v_d v_n v_power v_limbs))

abbrev w_X2_put : List Cond := Cond.code yX2_put cX2_put 2 none :: wsL_law
abbrev wd_X2_put (a_this a_text a_d a_n a_power a_limbs : Nat) (c_text : ClassId) (v_thrown : Int32) (v_size : Int32) (v_used : Int32) (v_at : Int32) (v_text : Nat → Int32) : va_W := [(a_this, .inr (2, [.int v_thrown, .ref a_text, .int v_size, .ref a_d, .ref a_n, .ref a_power, .ref a_limbs, .int v_used, .int v_at])), (a_text, .inl (c_text, 400, .inl v_text))]
def f_X2_put (l1 : Int32) (v_size : Int32) (v_text : Nat → Int32) : Option ((Int32) × (Nat → Int32)) :=
    (if v_size < 0 ∨ 400 ≤ Int32.toNatClampNeg v_size then none else
some ((v_size + 1), (upd v_text (Int32.toNatClampNeg v_size) l1)))

abbrev w_X2_begins : List Cond := Cond.code yX2_begins cX2_begins 3 (some .boolean) :: wsL_law
abbrev wd_X2_begins (a_this a_text a_d a_n a_power a_limbs : Nat) (c_text : ClassId) (v_thrown : Int32) (v_size : Int32) (v_used : Int32) (v_at : Int32) (v_text : Nat → Int32) : va_W := [(a_this, .inr (2, [.int v_thrown, .ref a_text, .int v_size, .ref a_d, .ref a_n, .ref a_power, .ref a_limbs, .int v_used, .int v_at])), (a_text, .inl (c_text, 400, .inl v_text))]
def f_X2_begins (l1 : Int64) (v_size : Int32) (v_text : Nat → Int32) : Option ((Int32) × (Int32) × (Nat → Int32)) :=
    (if (lg_cmp (l1 &&& 9218868437227405312) 9218868437227405312) = 0 then
some (0, v_size, v_text)
  else
(if 0 ≤ (lg_cmp l1 0) then
some (1, 0, v_text)
    else
((f_X2_put 45 0 v_text).bind fun (v_size_28, v_text_28) =>
some (1, v_size_28, v_text_28))))

abbrev w_X2_print : List Cond := Cond.code yX2_print cX2_print 5 (some .int) :: wsL_law
abbrev wd_X2_print (a_this a_text a_d a_n a_power a_limbs : Nat) (c_text c_d c_n c_power c_limbs : ClassId) (v_thrown : Int32) (v_size : Int32) (v_used : Int32) (v_at : Int32) (v_text : Nat → Int32) (v_d : Nat → Int32) (v_n : Nat → Int32) (v_power : Nat → Int32) (v_limbs : Nat → Int64) : va_W := [(a_this, .inr (2, [.int v_thrown, .ref a_text, .int v_size, .ref a_d, .ref a_n, .ref a_power, .ref a_limbs, .int v_used, .int v_at])), (a_text, .inl (c_text, 400, .inl v_text)), (a_d, .inl (c_d, 7000, .inl v_d)), (a_n, .inl (c_n, 7000, .inl v_n)), (a_power, .inl (c_power, 7000, .inl v_power)), (a_limbs, .inl (c_limbs, 160, .inr (.inl v_limbs)))]
def f_X2_print_L146 : Nat → (Int32) → (Int32) → (Int32) → (Int32) → (Int32) → (Nat → Int32) → (Nat → Int32) → (Nat → Int32) → (Nat → Int32) → (Nat → Int64) → Option ((Int32) × (Int32) × (Int32) × (Int32) × (Nat → Int32) × (Nat → Int32) × (Nat → Int32) × (Nat → Int32) × (Nat → Int64))
  | 0, _, _, _, _, _, _, _, _, _, _ => none
  | n + 1, l3, l4, v_thrown, v_size, v_used, v_text, v_d, v_n, v_power, v_limbs =>
    (if l3 ≤ l4 then
some (v_size, v_thrown, v_size, v_used, v_text, v_d, v_n, v_power, v_limbs)
    else
((f_X2_digit 2800 ((v_power (Int32.toNatClampNeg 2800)) + l4) v_d v_n).bind fun r170 =>
((f_X2_put (48 + r170) v_size v_text).bind fun (v_size_174, v_text_174) =>
f_X2_print_L146 n l3 (l4 + 1) v_thrown v_size_174 v_used v_text_174 v_d v_n v_power v_limbs)))
def f_X2_print_b133 (l3 : Int32) (v_thrown : Int32) (v_size : Int32) (v_used : Int32) (v_text : Nat → Int32) (v_d : Nat → Int32) (v_n : Nat → Int32) (v_power : Nat → Int32) (v_limbs : Nat → Int64) : Option ((Int32) × (Int32) × (Int32) × (Int32) × (Nat → Int32) × (Nat → Int32) × (Nat → Int32) × (Nat → Int32) × (Nat → Int64)) :=
    (if l3 ≤ 0 then
f_X2_print_L146 FU l3 0 v_thrown v_size v_used v_text v_d v_n v_power v_limbs
  else
((f_X2_put 46 v_size v_text).bind fun (v_size_140, v_text_140) =>
f_X2_print_L146 FU l3 0 v_thrown v_size_140 v_used v_text_140 v_d v_n v_power v_limbs))
def f_X2_print_L81 : Nat → (Int32) → (Int32) → (Int32) → (Int32) → (Int32) → (Nat → Int32) → (Nat → Int32) → (Nat → Int32) → (Nat → Int32) → (Nat → Int64) → Option ((Int32) × (Int32) × (Int32) × (Int32) × (Nat → Int32) × (Nat → Int32) × (Nat → Int32) × (Nat → Int32) × (Nat → Int64))
  | 0, _, _, _, _, _, _, _, _, _, _ => none
  | n + 1, l3, l4, v_thrown, v_size, v_used, v_text, v_d, v_n, v_power, v_limbs =>
    (if (v_power (Int32.toNatClampNeg 2800)) ≤ l4 then
(if 0 < (v_power (Int32.toNatClampNeg 2800)) then
f_X2_print_b133  l3 v_thrown v_size v_used v_text v_d v_n v_power v_limbs
      else
((f_X2_put 48 v_size v_text).bind fun (v_size_130, v_text_130) =>
f_X2_print_b133  l3 v_thrown v_size_130 v_used v_text_130 v_d v_n v_power v_limbs))
    else
((f_X2_digit 2800 l4 v_d v_n).bind fun r103 =>
((f_X2_put (48 + r103) v_size v_text).bind fun (v_size_107, v_text_107) =>
f_X2_print_L81 n l3 (l4 + 1) v_thrown v_size_107 v_used v_text_107 v_d v_n v_power v_limbs)))
def f_X2_print_b32 (l1 : Int64) (l3 : Int32) (s1 : Int32) (v_thrown : Int32) (v_size : Int32) (v_used : Int32) (v_text : Nat → Int32) (v_d : Nat → Int32) (v_n : Nat → Int32) (v_power : Nat → Int32) (v_limbs : Nat → Int64) : Option ((Int32) × (Int32) × (Int32) × (Int32) × (Nat → Int32) × (Nat → Int32) × (Nat → Int32) × (Nat → Int32) × (Nat → Int64)) :=
    (if s1 = 0 then
((f_X2_begins l1 v_size v_text).bind fun (r44, v_size_44, v_text_44) =>
(if r44 = 0 then
some (0, s1, v_size_44, v_used, v_text_44, v_d, v_n, v_power, v_limbs)
    else
((f_X2_rowOf (l1 &&& 9223372036854775807) 1400 v_used v_d v_n v_power v_limbs).bind fun (v_used_61, v_d_61, v_n_61, v_power_61, v_limbs_61) =>
((f_X2_round ((v_power_61 (Int32.toNatClampNeg 1400)) + l3) v_d_61 v_n_61 v_power_61).bind fun (v_d_75, v_n_75, v_power_75) =>
f_X2_print_L81 FU l3 0 s1 v_size_44 v_used_61 v_text_44 v_d_75 v_n_75 v_power_75 v_limbs_61))))
  else
some (0, s1, v_size, v_used, v_text, v_d, v_n, v_power, v_limbs))
def f_X2_print_b11 (l1 : Int64) (l3 : Int32) (v_thrown : Int32) (v_size : Int32) (v_used : Int32) (v_text : Nat → Int32) (v_d : Nat → Int32) (v_n : Nat → Int32) (v_power : Nat → Int32) (v_limbs : Nat → Int64) : Option ((Int32) × (Int32) × (Int32) × (Int32) × (Nat → Int32) × (Nat → Int32) × (Nat → Int32) × (Nat → Int32) × (Nat → Int64)) :=
    f_X2_print_b32  l1 l3 1 v_thrown v_size v_used v_text v_d v_n v_power v_limbs
def f_X2_print (l1 : Int64) (l3 : Int32) (v_thrown : Int32) (v_size : Int32) (v_used : Int32) (v_text : Nat → Int32) (v_d : Nat → Int32) (v_n : Nat → Int32) (v_power : Nat → Int32) (v_limbs : Nat → Int64) : Option ((Int32) × (Int32) × (Int32) × (Int32) × (Nat → Int32) × (Nat → Int32) × (Nat → Int32) × (Nat → Int32) × (Nat → Int64)) :=
    (if l3 < 0 then
f_X2_print_b11  l1 l3 v_thrown v_size v_used v_text v_d v_n v_power v_limbs
  else
(if l3 ≤ 30 then
(if (lg_cmp (l1 &&& 9218868437227405312) 9218868437227405312) = 0 then
f_X2_print_b32  l1 l3 2 v_thrown v_size v_used v_text v_d v_n v_power v_limbs
      else
f_X2_print_b32  l1 l3 0 v_thrown v_size v_used v_text v_d v_n v_power v_limbs)
    else
f_X2_print_b11  l1 l3 v_thrown v_size v_used v_text v_d v_n v_power v_limbs))

abbrev w_X2_readsAsIt : List Cond := Cond.code yX2_readsAsIt cX2_readsAsIt 5 (some .boolean) :: wsL_law
abbrev wd_X2_readsAsIt (a_this a_text a_d a_n a_power a_limbs : Nat) (c_d c_n c_power : ClassId) (v_thrown : Int32) (v_size : Int32) (v_used : Int32) (v_at : Int32) (v_d : Nat → Int32) (v_n : Nat → Int32) (v_power : Nat → Int32) : va_W := [(a_this, .inr (2, [.int v_thrown, .ref a_text, .int v_size, .ref a_d, .ref a_n, .ref a_power, .ref a_limbs, .int v_used, .int v_at])), (a_d, .inl (c_d, 7000, .inl v_d)), (a_n, .inl (c_n, 7000, .inl v_n)), (a_power, .inl (c_power, 7000, .inl v_power))]
def f_X2_readsAsIt_b40 (l2 : Int32) (l4 : Int32) (v_d : Nat → Int32) (v_n : Nat → Int32) (v_power : Nat → Int32) : Option ((Int32) × (Nat → Int32) × (Nat → Int32) × (Nat → Int32)) :=
    (if l4 < 0 then
some (1, v_d, v_n, v_power)
  else
(if l4 = 0 then
(if l2 = 0 then
some (0, v_d, v_n, v_power)
      else
some (1, v_d, v_n, v_power))
    else
some (0, v_d, v_n, v_power)))
def f_X2_readsAsIt (l1 : Int32) (l2 : Int32) (v_d : Nat → Int32) (v_n : Nat → Int32) (v_power : Nat → Int32) : Option ((Int32) × (Nat → Int32) × (Nat → Int32) × (Nat → Int32)) :=
    ((f_X2_round l1 v_d v_n v_power).bind fun (v_d_2, v_n_2, v_power_2) =>
((f_X2_against 2800 4200 v_d_2 v_n_2 v_power_2).bind fun r12 =>
((f_X2_against 2800 5600 v_d_2 v_n_2 v_power_2).bind fun r23 =>
(if 0 < r12 then
f_X2_readsAsIt_b40  l2 r23 v_d_2 v_n_2 v_power_2
  else
(if r12 = 0 then
(if l2 = 0 then
some (0, v_d_2, v_n_2, v_power_2)
      else
f_X2_readsAsIt_b40  l2 r23 v_d_2 v_n_2 v_power_2)
    else
some (0, v_d_2, v_n_2, v_power_2))))))

abbrev w_X2_shortest : List Cond := Cond.code yX2_shortest cX2_shortest 10 (some .int) :: wsL_law
abbrev wd_X2_shortest (a_this a_text a_d a_n a_power a_limbs : Nat) (c_text c_d c_n c_power c_limbs : ClassId) (v_thrown : Int32) (v_size : Int32) (v_used : Int32) (v_at : Int32) (v_text : Nat → Int32) (v_d : Nat → Int32) (v_n : Nat → Int32) (v_power : Nat → Int32) (v_limbs : Nat → Int64) : va_W := [(a_this, .inr (2, [.int v_thrown, .ref a_text, .int v_size, .ref a_d, .ref a_n, .ref a_power, .ref a_limbs, .int v_used, .int v_at])), (a_text, .inl (c_text, 400, .inl v_text)), (a_d, .inl (c_d, 7000, .inl v_d)), (a_n, .inl (c_n, 7000, .inl v_n)), (a_power, .inl (c_power, 7000, .inl v_power)), (a_limbs, .inl (c_limbs, 160, .inr (.inl v_limbs)))]
def f_X2_shortest_L308 : Nat → (Int32) → (Int32) → (Int32) → (Int32) → (Int32) → (Nat → Int32) → (Nat → Int32) → (Nat → Int32) → (Nat → Int32) → (Nat → Int64) → Option ((Int32) × (Int32) × (Int32) × (Int32) × (Nat → Int32) × (Nat → Int32) × (Nat → Int32) × (Nat → Int32) × (Nat → Int64))
  | 0, _, _, _, _, _, _, _, _, _, _ => none
  | n + 1, l8, l9, v_thrown, v_size, v_used, v_text, v_d, v_n, v_power, v_limbs =>
    (if l9 ≤ 0 then
some (v_size, v_thrown, v_size, v_used, v_text, v_d, v_n, v_power, v_limbs)
    else
(if l9 ≤ l8 then
(if l9 = 0 then none else
((f_X2_put (48 + ((l8 / l9) - (l8 / l9) / 10 * 10)) v_size v_text).bind fun (v_size_338, v_text_338) =>
f_X2_shortest_L308 n l8 (l9 / 10) v_thrown v_size_338 v_used v_text_338 v_d v_n v_power v_limbs))
      else
(if l9 = 1 then
(if l9 = 0 then none else
((f_X2_put (48 + ((l8 / l9) - (l8 / l9) / 10 * 10)) v_size v_text).bind fun (v_size_338, v_text_338) =>
f_X2_shortest_L308 n l8 (l9 / 10) v_thrown v_size_338 v_used v_text_338 v_d v_n v_power v_limbs))
        else
f_X2_shortest_L308 n l8 (l9 / 10) v_thrown v_size v_used v_text v_d v_n v_power v_limbs)))
def f_X2_shortest_b289 (l7 : Int32) (v_thrown : Int32) (v_size : Int32) (v_used : Int32) (v_text : Nat → Int32) (v_d : Nat → Int32) (v_n : Nat → Int32) (v_power : Nat → Int32) (v_limbs : Nat → Int64) : Option ((Int32) × (Int32) × (Int32) × (Int32) × (Nat → Int32) × (Nat → Int32) × (Nat → Int32) × (Nat → Int32) × (Nat → Int64)) :=
    (if 0 ≤ l7 then
f_X2_shortest_L308 FU l7 100 v_thrown v_size v_used v_text v_d v_n v_power v_limbs
  else
f_X2_shortest_L308 FU (-l7) 100 v_thrown v_size v_used v_text v_d v_n v_power v_limbs)
def f_X2_shortest_L231 : Nat → (Int32) → (Int32) → (Int32) → (Int32) → (Int32) → (Nat → Int32) → (Nat → Int32) → (Nat → Int32) → (Nat → Int32) → (Nat → Int64) → Option ((Int32) × (Int32) × (Int32) × (Int32) × (Nat → Int32) × (Nat → Int32) × (Nat → Int32) × (Nat → Int32) × (Nat → Int64))
  | 0, _, _, _, _, _, _, _, _, _, _ => none
  | n + 1, l6, l7, v_thrown, v_size, v_used, v_text, v_d, v_n, v_power, v_limbs =>
    (if l6 ≤ l7 then
((f_X2_put 101 v_size v_text).bind fun (v_size_263, v_text_263) =>
(if 0 ≤ ((v_power (Int32.toNatClampNeg 2800)) - 1) then
f_X2_shortest_b289  ((v_power (Int32.toNatClampNeg 2800)) - 1) v_thrown v_size_263 v_used v_text_263 v_d v_n v_power v_limbs
      else
((f_X2_put 45 v_size_263 v_text_263).bind fun (v_size_286, v_text_286) =>
f_X2_shortest_b289  ((v_power (Int32.toNatClampNeg 2800)) - 1) v_thrown v_size_286 v_used v_text_286 v_d v_n v_power v_limbs)))
    else
((f_X2_digit 2800 l7 v_d v_n).bind fun r247 =>
((f_X2_put (48 + r247) v_size v_text).bind fun (v_size_251, v_text_251) =>
f_X2_shortest_L231 n l6 (l7 + 1) v_thrown v_size_251 v_used v_text_251 v_d v_n v_power v_limbs)))
def f_X2_shortest_L171 : Nat → (Int64) → (Int32) → (Int32) → (Int32) → (Int32) → (Nat → Int32) → (Nat → Int32) → (Nat → Int32) → (Nat → Int32) → (Nat → Int64) → Option ((Int32) × (Int32) × (Int32) × (Int32) × (Nat → Int32) × (Nat → Int32) × (Nat → Int32) × (Nat → Int32) × (Nat → Int64))
  | 0, _, _, _, _, _, _, _, _, _, _ => none
  | n + 1, l3, l6, v_thrown, v_size, v_used, v_text, v_d, v_n, v_power, v_limbs =>
    (if (lg_cmp (l3 - l3 / 2 * 2) 0) = 0 then
((f_X2_readsAsIt l6 1 v_d v_n v_power).bind fun (r189, v_d_189, v_n_189, v_power_189) =>
(if r189 = 0 then
f_X2_shortest_L171 n l3 (l6 + 1) v_thrown v_size v_used v_text v_d_189 v_n_189 v_power_189 v_limbs
      else
((f_X2_digit 2800 0 v_d_189 v_n_189).bind fun r209 =>
((f_X2_put (48 + r209) v_size v_text).bind fun (v_size_213, v_text_213) =>
(if l6 ≤ 1 then
f_X2_shortest_L231 FU l6 1 v_thrown v_size_213 v_used v_text_213 v_d_189 v_n_189 v_power_189 v_limbs
        else
((f_X2_put 46 v_size_213 v_text_213).bind fun (v_size_225, v_text_225) =>
f_X2_shortest_L231 FU l6 1 v_thrown v_size_225 v_used v_text_225 v_d_189 v_n_189 v_power_189 v_limbs))))))
    else
((f_X2_readsAsIt l6 0 v_d v_n v_power).bind fun (r189, v_d_189, v_n_189, v_power_189) =>
(if r189 = 0 then
f_X2_shortest_L171 n l3 (l6 + 1) v_thrown v_size v_used v_text v_d_189 v_n_189 v_power_189 v_limbs
      else
((f_X2_digit 2800 0 v_d_189 v_n_189).bind fun r209 =>
((f_X2_put (48 + r209) v_size v_text).bind fun (v_size_213, v_text_213) =>
(if l6 ≤ 1 then
f_X2_shortest_L231 FU l6 1 v_thrown v_size_213 v_used v_text_213 v_d_189 v_n_189 v_power_189 v_limbs
        else
((f_X2_put 46 v_size_213 v_text_213).bind fun (v_size_225, v_text_225) =>
f_X2_shortest_L231 FU l6 1 v_thrown v_size_225 v_used v_text_225 v_d_189 v_n_189 v_power_189 v_limbs)))))))
def f_X2_shortest_b138 (l3 : Int64) (s1 : Int64) (s2 : Int32) (s3 : Int32) (v_thrown : Int32) (v_size : Int32) (v_used : Int32) (v_text : Nat → Int32) (v_d : Nat → Int32) (v_n : Nat → Int32) (v_power : Nat → Int32) (v_limbs : Nat → Int64) : Option ((Int32) × (Int32) × (Int32) × (Int32) × (Nat → Int32) × (Nat → Int32) × (Nat → Int32) × (Nat → Int32) × (Nat → Int64)) :=
    ((f_X2_row s1 (s2 - s3) 4200 v_used v_d v_n v_power v_limbs).bind fun (v_used_142, v_d_142, v_n_142, v_power_142, v_limbs_142) =>
((f_X2_whole l3).bind fun r150 =>
((f_X2_two l3).bind fun r157 =>
((f_X2_row ((2 * r150) + 1) (r157 - 1) 5600 v_used_142 v_d_142 v_n_142 v_power_142 v_limbs_142).bind fun (v_used_165, v_d_165, v_n_165, v_power_165, v_limbs_165) =>
f_X2_shortest_L171 FU l3 1 v_thrown v_size v_used_165 v_text v_d_165 v_n_165 v_power_165 v_limbs_165))))
def f_X2_shortest_b124 (l3 : Int64) (l5 : Int32) (s1 : Int64) (v_thrown : Int32) (v_size : Int32) (v_used : Int32) (v_text : Nat → Int32) (v_d : Nat → Int32) (v_n : Nat → Int32) (v_power : Nat → Int32) (v_limbs : Nat → Int64) : Option ((Int32) × (Int32) × (Int32) × (Int32) × (Nat → Int32) × (Nat → Int32) × (Nat → Int32) × (Nat → Int32) × (Nat → Int64)) :=
    ((f_X2_two l3).bind fun r125 =>
(if l5 = 0 then
f_X2_shortest_b138  l3 s1 r125 1 v_thrown v_size v_used v_text v_d v_n v_power v_limbs
  else
f_X2_shortest_b138  l3 s1 r125 2 v_thrown v_size v_used v_text v_d v_n v_power v_limbs))
def f_X2_shortest_b93 (l3 : Int64) (s0 : Int32) (v_thrown : Int32) (v_size : Int32) (v_used : Int32) (v_text : Nat → Int32) (v_d : Nat → Int32) (v_n : Nat → Int32) (v_power : Nat → Int32) (v_limbs : Nat → Int64) : Option ((Int32) × (Int32) × (Int32) × (Int32) × (Nat → Int32) × (Nat → Int32) × (Nat → Int32) × (Nat → Int32) × (Nat → Int64)) :=
    (if s0 = 0 then
((f_X2_whole l3).bind fun r118 =>
f_X2_shortest_b124  l3 s0 ((2 * r118) - 1) v_thrown v_size v_used v_text v_d v_n v_power v_limbs)
  else
((f_X2_whole l3).bind fun r105 =>
f_X2_shortest_b124  l3 s0 ((4 * r105) - 1) v_thrown v_size v_used v_text v_d v_n v_power v_limbs))
def f_X2_shortest_b92 (l3 : Int64) (v_thrown : Int32) (v_size : Int32) (v_used : Int32) (v_text : Nat → Int32) (v_d : Nat → Int32) (v_n : Nat → Int32) (v_power : Nat → Int32) (v_limbs : Nat → Int64) : Option ((Int32) × (Int32) × (Int32) × (Int32) × (Nat → Int32) × (Nat → Int32) × (Nat → Int32) × (Nat → Int32) × (Nat → Int64)) :=
    f_X2_shortest_b93  l3 0 v_thrown v_size v_used v_text v_d v_n v_power v_limbs
def f_X2_shortest_b14 (l1 : Int64) (s1 : Int32) (v_thrown : Int32) (v_size : Int32) (v_used : Int32) (v_text : Nat → Int32) (v_d : Nat → Int32) (v_n : Nat → Int32) (v_power : Nat → Int32) (v_limbs : Nat → Int64) : Option ((Int32) × (Int32) × (Int32) × (Int32) × (Nat → Int32) × (Nat → Int32) × (Nat → Int32) × (Nat → Int32) × (Nat → Int64)) :=
    (if s1 = 0 then
(if (lg_cmp (l1 &&& 9223372036854775807) 0) = 0 then
((f_X2_put 48 v_size v_text).bind fun (v_size_41, v_text_41) =>
((f_X2_put 101 v_size_41 v_text_41).bind fun (v_size_47, v_text_47) =>
((f_X2_put 48 v_size_47 v_text_47).bind fun (v_size_53, v_text_53) =>
some (v_size_53, s1, v_size_53, v_used, v_text_53, v_d, v_n, v_power, v_limbs))))
    else
((f_X2_rowOf (l1 &&& 9223372036854775807) 1400 v_used v_d v_n v_power v_limbs).bind fun (v_used_66, v_d_66, v_n_66, v_power_66, v_limbs_66) =>
(if (lg_cmp ((l1 &&& 9223372036854775807) &&& 4503599627370495) 0) = 0 then
(if (lg_cmp ((Int64.toUInt64 (l1 &&& 9223372036854775807) >>> (Int64.toUInt64 (Int32.toInt64 52) &&& Int64.toUInt64 63)).toInt64) 1) ≤ 0 then
f_X2_shortest_b92  (l1 &&& 9223372036854775807) s1 v_size v_used_66 v_text v_d_66 v_n_66 v_power_66 v_limbs_66
        else
f_X2_shortest_b93  (l1 &&& 9223372036854775807) 1 s1 v_size v_used_66 v_text v_d_66 v_n_66 v_power_66 v_limbs_66)
      else
f_X2_shortest_b92  (l1 &&& 9223372036854775807) s1 v_size v_used_66 v_text v_d_66 v_n_66 v_power_66 v_limbs_66)))
  else
some (0, s1, v_size, v_used, v_text, v_d, v_n, v_power, v_limbs))
def f_X2_shortest (l1 : Int64) (v_thrown : Int32) (v_size : Int32) (v_used : Int32) (v_text : Nat → Int32) (v_d : Nat → Int32) (v_n : Nat → Int32) (v_power : Nat → Int32) (v_limbs : Nat → Int64) : Option ((Int32) × (Int32) × (Int32) × (Int32) × (Nat → Int32) × (Nat → Int32) × (Nat → Int32) × (Nat → Int32) × (Nat → Int64)) :=
    ((f_X2_begins l1 v_size v_text).bind fun (r3, v_size_3, v_text_3) =>
(if r3 = 0 then
f_X2_shortest_b14  l1 1 v_thrown v_size_3 v_used v_text_3 v_d v_n v_power v_limbs
  else
f_X2_shortest_b14  l1 0 v_thrown v_size_3 v_used v_text_3 v_d v_n v_power v_limbs))

abbrev w_X2_letter : List Cond := Cond.code yX2_letter cX2_letter 2 (some .int) :: wsL_law
abbrev wd_X2_letter (a_this a_text a_d a_n a_power a_limbs : Nat) (c_text : ClassId) (v_thrown : Int32) (v_size : Int32) (v_used : Int32) (v_at : Int32) (v_text : Nat → Int32) : va_W := [(a_this, .inr (2, [.int v_thrown, .ref a_text, .int v_size, .ref a_d, .ref a_n, .ref a_power, .ref a_limbs, .int v_used, .int v_at])), (a_text, .inl (c_text, 400, .inl v_text))]
def f_X2_letter_b18 (l1 : Int32) (s1 : Int32) (v_thrown : Int32) (v_size : Int32) (v_text : Nat → Int32) : Option ((Int32) × (Int32)) :=
    (if s1 = 0 then
(if l1 < 0 ∨ 400 ≤ Int32.toNatClampNeg l1 then none else
some ((v_text (Int32.toNatClampNeg l1)), s1))
  else
some (0, s1))
def f_X2_letter_b13 (l1 : Int32) (v_thrown : Int32) (v_size : Int32) (v_text : Nat → Int32) : Option ((Int32) × (Int32)) :=
    f_X2_letter_b18  l1 1 v_thrown v_size v_text
def f_X2_letter (l1 : Int32) (v_thrown : Int32) (v_size : Int32) (v_text : Nat → Int32) : Option ((Int32) × (Int32)) :=
    (if l1 < 0 then
f_X2_letter_b13  l1 v_thrown v_size v_text
  else
(if l1 < v_size then
f_X2_letter_b18  l1 0 v_thrown v_size v_text
    else
f_X2_letter_b13  l1 v_thrown v_size v_text))
