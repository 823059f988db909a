section
-- ===== PART A: goes FIRST, ahead of the names: the tables' words, and 'selects' of the private methods out of them =====
/-- a private method of a class that the tables say can be made, by its rows of tables_1 -/
def lw_okq (q : MethodName × Nat) : Prop := (q.1.cls ≠ "java/lang/invoke/MethodHandle" ∧ q.1.cls ≠ "java/lang/invoke/VarHandle") ∧ Cond.instantiable q.1.cls q.2 ∈ tables_1 ∧ Cond.privateMethod q.1 ∈ tables_1 ∧ Cond.instanceMethod q.1 ∈ tables_1
theorem lw_p0 : lw_okq (⟨"java/lang/Throwable", "fillInStackTrace", "(I)Ljava/lang/Throwable;"⟩, 6) := ⟨⟨by decide +kernel, by decide +kernel⟩, List.mem_of_getElem? (i := 122) (by decide +kernel), List.mem_of_getElem? (i := 120) (by decide +kernel), List.mem_of_getElem? (i := 121) (by decide +kernel)⟩
theorem lw_p1 : lw_okq (⟨"DoubleText", "put", "(I)V"⟩, 10) := ⟨⟨by decide +kernel, by decide +kernel⟩, List.mem_of_getElem? (i := 14) (by decide +kernel), List.mem_of_getElem? (i := 162) (by decide +kernel), List.mem_of_getElem? (i := 163) (by decide +kernel)⟩
theorem lw_p2 : lw_okq (⟨"DoubleText", "scanNumeral", "()Z"⟩, 10) := ⟨⟨by decide +kernel, by decide +kernel⟩, List.mem_of_getElem? (i := 14) (by decide +kernel), List.mem_of_getElem? (i := 173) (by decide +kernel), List.mem_of_getElem? (i := 174) (by decide +kernel)⟩
theorem lw_p3 : lw_okq (⟨"DoubleText", "isAt", "(II)Z"⟩, 10) := ⟨⟨by decide +kernel, by decide +kernel⟩, List.mem_of_getElem? (i := 14) (by decide +kernel), List.mem_of_getElem? (i := 177) (by decide +kernel), List.mem_of_getElem? (i := 178) (by decide +kernel)⟩
theorem lw_p4 : lw_okq (⟨"DoubleText", "endOfDigits", "(I)I"⟩, 10) := ⟨⟨by decide +kernel, by decide +kernel⟩, List.mem_of_getElem? (i := 14) (by decide +kernel), List.mem_of_getElem? (i := 181) (by decide +kernel), List.mem_of_getElem? (i := 182) (by decide +kernel)⟩
theorem lw_p5 : lw_okq (⟨"DoubleText", "scanPower", "(I)Z"⟩, 10) := ⟨⟨by decide +kernel, by decide +kernel⟩, List.mem_of_getElem? (i := 14) (by decide +kernel), List.mem_of_getElem? (i := 185) (by decide +kernel), List.mem_of_getElem? (i := 186) (by decide +kernel)⟩
theorem lw_p6 : lw_okq (⟨"DoubleText", "nearestToNumeral", "()J"⟩, 10) := ⟨⟨by decide +kernel, by decide +kernel⟩, List.mem_of_getElem? (i := 14) (by decide +kernel), List.mem_of_getElem? (i := 189) (by decide +kernel), List.mem_of_getElem? (i := 190) (by decide +kernel)⟩
theorem lw_p7 : lw_okq (⟨"DoubleText", "leadingDigit", "()I"⟩, 10) := ⟨⟨by decide +kernel, by decide +kernel⟩, List.mem_of_getElem? (i := 14) (by decide +kernel), List.mem_of_getElem? (i := 193) (by decide +kernel), List.mem_of_getElem? (i := 194) (by decide +kernel)⟩
theorem lw_p8 : lw_okq (⟨"DoubleText", "placeOf", "(I)I"⟩, 10) := ⟨⟨by decide +kernel, by decide +kernel⟩, List.mem_of_getElem? (i := 14) (by decide +kernel), List.mem_of_getElem? (i := 197) (by decide +kernel), List.mem_of_getElem? (i := 198) (by decide +kernel)⟩
theorem lw_p9 : lw_okq (⟨"DoubleText", "nearestToNumber", "()J"⟩, 10) := ⟨⟨by decide +kernel, by decide +kernel⟩, List.mem_of_getElem? (i := 14) (by decide +kernel), List.mem_of_getElem? (i := 230) (by decide +kernel), List.mem_of_getElem? (i := 231) (by decide +kernel)⟩
theorem lw_p10 : lw_okq (⟨"DoubleText$Decimal", "scaleUp", "(I)V"⟩, 3) := ⟨⟨by decide +kernel, by decide +kernel⟩, List.mem_of_getElem? (i := 22) (by decide +kernel), List.mem_of_getElem? (i := 242) (by decide +kernel), List.mem_of_getElem? (i := 243) (by decide +kernel)⟩
theorem lw_p11 : lw_okq (⟨"DoubleText$Decimal", "trim", "()V"⟩, 3) := ⟨⟨by decide +kernel, by decide +kernel⟩, List.mem_of_getElem? (i := 22) (by decide +kernel), List.mem_of_getElem? (i := 247) (by decide +kernel), List.mem_of_getElem? (i := 248) (by decide +kernel)⟩
theorem lw_p12 : lw_okq (⟨"DoubleText$Decimal", "scaleDown", "(I)V"⟩, 3) := ⟨⟨by decide +kernel, by decide +kernel⟩, List.mem_of_getElem? (i := 22) (by decide +kernel), List.mem_of_getElem? (i := 251) (by decide +kernel), List.mem_of_getElem? (i := 252) (by decide +kernel)⟩
theorem lw_p13 : lw_okq (⟨"DoubleText", "bitsToScale", "(I)I"⟩, 10) := ⟨⟨by decide +kernel, by decide +kernel⟩, List.mem_of_getElem? (i := 14) (by decide +kernel), List.mem_of_getElem? (i := 255) (by decide +kernel), List.mem_of_getElem? (i := 256) (by decide +kernel)⟩
theorem lw_p14 : lw_okq (⟨"DoubleText$Decimal", "roundsUp", "(IJ)Z"⟩, 3) := ⟨⟨by decide +kernel, by decide +kernel⟩, List.mem_of_getElem? (i := 22) (by decide +kernel), List.mem_of_getElem? (i := 276) (by decide +kernel), List.mem_of_getElem? (i := 277) (by decide +kernel)⟩
theorem lw_p15 : lw_okq (⟨"DoubleText$Decimal", "sideOfHalf", "(IJ)I"⟩, 3) := ⟨⟨by decide +kernel, by decide +kernel⟩, List.mem_of_getElem? (i := 22) (by decide +kernel), List.mem_of_getElem? (i := 280) (by decide +kernel), List.mem_of_getElem? (i := 281) (by decide +kernel)⟩
def lw_privs_1 : List (MethodName × Nat) := [(⟨"java/lang/Throwable", "fillInStackTrace", "(I)Ljava/lang/Throwable;"⟩, 6), (⟨"DoubleText", "put", "(I)V"⟩, 10), (⟨"DoubleText", "scanNumeral", "()Z"⟩, 10), (⟨"DoubleText", "isAt", "(II)Z"⟩, 10), (⟨"DoubleText", "endOfDigits", "(I)I"⟩, 10), (⟨"DoubleText", "scanPower", "(I)Z"⟩, 10), (⟨"DoubleText", "nearestToNumeral", "()J"⟩, 10), (⟨"DoubleText", "leadingDigit", "()I"⟩, 10), (⟨"DoubleText", "placeOf", "(I)I"⟩, 10), (⟨"DoubleText", "nearestToNumber", "()J"⟩, 10), (⟨"DoubleText$Decimal", "scaleUp", "(I)V"⟩, 3), (⟨"DoubleText$Decimal", "trim", "()V"⟩, 3), (⟨"DoubleText$Decimal", "scaleDown", "(I)V"⟩, 3), (⟨"DoubleText", "bitsToScale", "(I)I"⟩, 10), (⟨"DoubleText$Decimal", "roundsUp", "(IJ)Z"⟩, 3), (⟨"DoubleText$Decimal", "sideOfHalf", "(IJ)I"⟩, 3)]
theorem lw_r1 : ∀ q ∈ lw_privs_1, lw_okq q := List.forall_mem_cons.mpr ⟨lw_p0, List.forall_mem_cons.mpr ⟨lw_p1, List.forall_mem_cons.mpr ⟨lw_p2, List.forall_mem_cons.mpr ⟨lw_p3, List.forall_mem_cons.mpr ⟨lw_p4, List.forall_mem_cons.mpr ⟨lw_p5, List.forall_mem_cons.mpr ⟨lw_p6, List.forall_mem_cons.mpr ⟨lw_p7, List.forall_mem_cons.mpr ⟨lw_p8, List.forall_mem_cons.mpr ⟨lw_p9, List.forall_mem_cons.mpr ⟨lw_p10, List.forall_mem_cons.mpr ⟨lw_p11, List.forall_mem_cons.mpr ⟨lw_p12, List.forall_mem_cons.mpr ⟨lw_p13, List.forall_mem_cons.mpr ⟨lw_p14, List.forall_mem_cons.mpr ⟨lw_p15, fun _ h => absurd h List.not_mem_nil⟩⟩⟩⟩⟩⟩⟩⟩⟩⟩⟩⟩⟩⟩⟩⟩
theorem lw_p16 : lw_okq (⟨"DoubleText$Decimal", "limb", "(I)J"⟩, 3) := ⟨⟨by decide +kernel, by decide +kernel⟩, List.mem_of_getElem? (i := 22) (by decide +kernel), List.mem_of_getElem? (i := 284) (by decide +kernel), List.mem_of_getElem? (i := 285) (by decide +kernel)⟩
theorem lw_p17 : lw_okq (⟨"DoubleText$Decimal", "countUp", "(IJ)V"⟩, 3) := ⟨⟨by decide +kernel, by decide +kernel⟩, List.mem_of_getElem? (i := 22) (by decide +kernel), List.mem_of_getElem? (i := 292) (by decide +kernel), List.mem_of_getElem? (i := 293) (by decide +kernel)⟩
theorem lw_p18 : lw_okq (⟨"DoubleText", "startText", "(J)V"⟩, 10) := ⟨⟨by decide +kernel, by decide +kernel⟩, List.mem_of_getElem? (i := 14) (by decide +kernel), List.mem_of_getElem? (i := 324) (by decide +kernel), List.mem_of_getElem? (i := 325) (by decide +kernel)⟩
theorem lw_p19 : lw_okq (⟨"DoubleText", "putDigits", "(II)V"⟩, 10) := ⟨⟨by decide +kernel, by decide +kernel⟩, List.mem_of_getElem? (i := 14) (by decide +kernel), List.mem_of_getElem? (i := 332) (by decide +kernel), List.mem_of_getElem? (i := 333) (by decide +kernel)⟩
theorem lw_p20 : lw_okq (⟨"DoubleText", "putPower", "(I)V"⟩, 10) := ⟨⟨by decide +kernel, by decide +kernel⟩, List.mem_of_getElem? (i := 14) (by decide +kernel), List.mem_of_getElem? (i := 348) (by decide +kernel), List.mem_of_getElem? (i := 349) (by decide +kernel)⟩
theorem lw_p21 : lw_okq (⟨"DoubleText", "putShortest", "(JI)V"⟩, 10) := ⟨⟨by decide +kernel, by decide +kernel⟩, List.mem_of_getElem? (i := 14) (by decide +kernel), List.mem_of_getElem? (i := 355) (by decide +kernel), List.mem_of_getElem? (i := 356) (by decide +kernel)⟩
theorem lw_p22 : lw_okq (⟨"DoubleText", "takeEdges", "(JI)V"⟩, 10) := ⟨⟨by decide +kernel, by decide +kernel⟩, List.mem_of_getElem? (i := 14) (by decide +kernel), List.mem_of_getElem? (i := 359) (by decide +kernel), List.mem_of_getElem? (i := 360) (by decide +kernel)⟩
theorem lw_p23 : lw_okq (⟨"DoubleText", "roundToFewest", "(Z)I"⟩, 10) := ⟨⟨by decide +kernel, by decide +kernel⟩, List.mem_of_getElem? (i := 14) (by decide +kernel), List.mem_of_getElem? (i := 365) (by decide +kernel), List.mem_of_getElem? (i := 366) (by decide +kernel)⟩
theorem lw_p24 : lw_okq (⟨"DoubleText", "isBetweenEdges", "(Z)Z"⟩, 10) := ⟨⟨by decide +kernel, by decide +kernel⟩, List.mem_of_getElem? (i := 14) (by decide +kernel), List.mem_of_getElem? (i := 369) (by decide +kernel), List.mem_of_getElem? (i := 370) (by decide +kernel)⟩
theorem lw_p25 : lw_okq (⟨"DoubleTextModel", "is", "(I)Z"⟩, 9) := ⟨⟨by decide +kernel, by decide +kernel⟩, List.mem_of_getElem? (i := 400) (by decide +kernel), List.mem_of_getElem? (i := 450) (by decide +kernel), List.mem_of_getElem? (i := 451) (by decide +kernel)⟩
theorem lw_p26 : lw_okq (⟨"DoubleTextModel", "parse", "()Z"⟩, 9) := ⟨⟨by decide +kernel, by decide +kernel⟩, List.mem_of_getElem? (i := 400) (by decide +kernel), List.mem_of_getElem? (i := 454) (by decide +kernel), List.mem_of_getElem? (i := 455) (by decide +kernel)⟩
theorem lw_p27 : lw_okq (⟨"DoubleTextModel", "isDigit", "()Z"⟩, 9) := ⟨⟨by decide +kernel, by decide +kernel⟩, List.mem_of_getElem? (i := 400) (by decide +kernel), List.mem_of_getElem? (i := 458) (by decide +kernel), List.mem_of_getElem? (i := 459) (by decide +kernel)⟩
theorem lw_p28 : lw_okq (⟨"DoubleTextModel", "more", "(II)V"⟩, 9) := ⟨⟨by decide +kernel, by decide +kernel⟩, List.mem_of_getElem? (i := 400) (by decide +kernel), List.mem_of_getElem? (i := 462) (by decide +kernel), List.mem_of_getElem? (i := 463) (by decide +kernel)⟩
theorem lw_p29 : lw_okq (⟨"DoubleTextModel", "trim", "(I)V"⟩, 9) := ⟨⟨by decide +kernel, by decide +kernel⟩, List.mem_of_getElem? (i := 400) (by decide +kernel), List.mem_of_getElem? (i := 466) (by decide +kernel), List.mem_of_getElem? (i := 467) (by decide +kernel)⟩
theorem lw_p30 : lw_okq (⟨"DoubleTextModel", "nearest", "()J"⟩, 9) := ⟨⟨by decide +kernel, by decide +kernel⟩, List.mem_of_getElem? (i := 400) (by decide +kernel), List.mem_of_getElem? (i := 470) (by decide +kernel), List.mem_of_getElem? (i := 471) (by decide +kernel)⟩
theorem lw_p31 : lw_okq (⟨"DoubleTextModel", "rowOf", "(JI)V"⟩, 9) := ⟨⟨by decide +kernel, by decide +kernel⟩, List.mem_of_getElem? (i := 400) (by decide +kernel), List.mem_of_getElem? (i := 477) (by decide +kernel), List.mem_of_getElem? (i := 478) (by decide +kernel)⟩
def lw_privs_2 : List (MethodName × Nat) := [(⟨"DoubleText$Decimal", "limb", "(I)J"⟩, 3), (⟨"DoubleText$Decimal", "countUp", "(IJ)V"⟩, 3), (⟨"DoubleText", "startText", "(J)V"⟩, 10), (⟨"DoubleText", "putDigits", "(II)V"⟩, 10), (⟨"DoubleText", "putPower", "(I)V"⟩, 10), (⟨"DoubleText", "putShortest", "(JI)V"⟩, 10), (⟨"DoubleText", "takeEdges", "(JI)V"⟩, 10), (⟨"DoubleText", "roundToFewest", "(Z)I"⟩, 10), (⟨"DoubleText", "isBetweenEdges", "(Z)Z"⟩, 10), (⟨"DoubleTextModel", "is", "(I)Z"⟩, 9), (⟨"DoubleTextModel", "parse", "()Z"⟩, 9), (⟨"DoubleTextModel", "isDigit", "()Z"⟩, 9), (⟨"DoubleTextModel", "more", "(II)V"⟩, 9), (⟨"DoubleTextModel", "trim", "(I)V"⟩, 9), (⟨"DoubleTextModel", "nearest", "()J"⟩, 9), (⟨"DoubleTextModel", "rowOf", "(JI)V"⟩, 9)]
theorem lw_r2 : ∀ q ∈ lw_privs_2, lw_okq q := List.forall_mem_cons.mpr ⟨lw_p16, List.forall_mem_cons.mpr ⟨lw_p17, List.forall_mem_cons.mpr ⟨lw_p18, List.forall_mem_cons.mpr ⟨lw_p19, List.forall_mem_cons.mpr ⟨lw_p20, List.forall_mem_cons.mpr ⟨lw_p21, List.forall_mem_cons.mpr ⟨lw_p22, List.forall_mem_cons.mpr ⟨lw_p23, List.forall_mem_cons.mpr ⟨lw_p24, List.forall_mem_cons.mpr ⟨lw_p25, List.forall_mem_cons.mpr ⟨lw_p26, List.forall_mem_cons.mpr ⟨lw_p27, List.forall_mem_cons.mpr ⟨lw_p28, List.forall_mem_cons.mpr ⟨lw_p29, List.forall_mem_cons.mpr ⟨lw_p30, List.forall_mem_cons.mpr ⟨lw_p31, fun _ h => absurd h List.not_mem_nil⟩⟩⟩⟩⟩⟩⟩⟩⟩⟩⟩⟩⟩⟩⟩⟩
theorem lw_p32 : lw_okq (⟨"DoubleTextModel", "row", "(JII)V"⟩, 9) := ⟨⟨by decide +kernel, by decide +kernel⟩, List.mem_of_getElem? (i := 400) (by decide +kernel), List.mem_of_getElem? (i := 489) (by decide +kernel), List.mem_of_getElem? (i := 490) (by decide +kernel)⟩
theorem lw_p33 : lw_okq (⟨"DoubleTextModel", "times", "(J)V"⟩, 9) := ⟨⟨by decide +kernel, by decide +kernel⟩, List.mem_of_getElem? (i := 400) (by decide +kernel), List.mem_of_getElem? (i := 495) (by decide +kernel), List.mem_of_getElem? (i := 496) (by decide +kernel)⟩
theorem lw_p34 : lw_okq (⟨"DoubleTextModel", "against", "(II)I"⟩, 9) := ⟨⟨by decide +kernel, by decide +kernel⟩, List.mem_of_getElem? (i := 400) (by decide +kernel), List.mem_of_getElem? (i := 503) (by decide +kernel), List.mem_of_getElem? (i := 504) (by decide +kernel)⟩
theorem lw_p35 : lw_okq (⟨"DoubleTextModel", "digit", "(II)I"⟩, 9) := ⟨⟨by decide +kernel, by decide +kernel⟩, List.mem_of_getElem? (i := 400) (by decide +kernel), List.mem_of_getElem? (i := 507) (by decide +kernel), List.mem_of_getElem? (i := 508) (by decide +kernel)⟩
theorem lw_p36 : lw_okq (⟨"DoubleTextModel", "begins", "(J)Z"⟩, 9) := ⟨⟨by decide +kernel, by decide +kernel⟩, List.mem_of_getElem? (i := 400) (by decide +kernel), List.mem_of_getElem? (i := 516) (by decide +kernel), List.mem_of_getElem? (i := 517) (by decide +kernel)⟩
theorem lw_p37 : lw_okq (⟨"DoubleTextModel", "put", "(I)V"⟩, 9) := ⟨⟨by decide +kernel, by decide +kernel⟩, List.mem_of_getElem? (i := 400) (by decide +kernel), List.mem_of_getElem? (i := 520) (by decide +kernel), List.mem_of_getElem? (i := 521) (by decide +kernel)⟩
theorem lw_p38 : lw_okq (⟨"DoubleTextModel", "round", "(I)V"⟩, 9) := ⟨⟨by decide +kernel, by decide +kernel⟩, List.mem_of_getElem? (i := 400) (by decide +kernel), List.mem_of_getElem? (i := 525) (by decide +kernel), List.mem_of_getElem? (i := 526) (by decide +kernel)⟩
theorem lw_p39 : lw_okq (⟨"DoubleTextModel", "readsAsIt", "(IZ)Z"⟩, 9) := ⟨⟨by decide +kernel, by decide +kernel⟩, List.mem_of_getElem? (i := 400) (by decide +kernel), List.mem_of_getElem? (i := 534) (by decide +kernel), List.mem_of_getElem? (i := 535) (by decide +kernel)⟩
def lw_privs_3 : List (MethodName × Nat) := [(⟨"DoubleTextModel", "row", "(JII)V"⟩, 9), (⟨"DoubleTextModel", "times", "(J)V"⟩, 9), (⟨"DoubleTextModel", "against", "(II)I"⟩, 9), (⟨"DoubleTextModel", "digit", "(II)I"⟩, 9), (⟨"DoubleTextModel", "begins", "(J)Z"⟩, 9), (⟨"DoubleTextModel", "put", "(I)V"⟩, 9), (⟨"DoubleTextModel", "round", "(I)V"⟩, 9), (⟨"DoubleTextModel", "readsAsIt", "(IZ)Z"⟩, 9)]
theorem lw_r3 : ∀ q ∈ lw_privs_3, lw_okq q := List.forall_mem_cons.mpr ⟨lw_p32, List.forall_mem_cons.mpr ⟨lw_p33, List.forall_mem_cons.mpr ⟨lw_p34, List.forall_mem_cons.mpr ⟨lw_p35, List.forall_mem_cons.mpr ⟨lw_p36, List.forall_mem_cons.mpr ⟨lw_p37, List.forall_mem_cons.mpr ⟨lw_p38, List.forall_mem_cons.mpr ⟨lw_p39, fun _ h => absurd h List.not_mem_nil⟩⟩⟩⟩⟩⟩⟩⟩
def lw_privs : List (MethodName × Nat) := lw_privs_1 ++ (lw_privs_2 ++ (lw_privs_3))
def lw_tbl : List Cond := k2_sels lw_privs ++ tables_1
theorem lw_privs_ok : ∀ q ∈ lw_privs, lw_okq q := by
  show ∀ q ∈ lw_privs_1 ++ (lw_privs_2 ++ (lw_privs_3)), lw_okq q
  exact List.forall_mem_append.mpr ⟨lw_r1, List.forall_mem_append.mpr ⟨lw_r2, lw_r3⟩⟩
-- ===== end of PART A; then your names; then what follows =====
end
section
/-! ===== BEGIN words of one list among another's, by their places ===== -/
theorem goodIn_r {big : List Cond} (ws : List Cond) (ps : List Nat) (hp : ws = ps.filterMap (fun i => big[i]?)) (h : ws.all goodWord = true) : GoodIn big ws := by
  intro w hw
  have h1 := List.all_eq_true.mp h w hw
  rw [hp] at hw
  obtain ⟨i, -, hi⟩ := List.mem_filterMap.mp hw
  have hm : w ∈ big := by first | exact List.mem_of_getElem? hi | exact List.getElem?_mem hi
  exact ⟨hm, good_of_word h1⟩
theorem goodIn_app {big a b : List Cond} (ha : GoodIn big a) (hb : GoodIn big b) : GoodIn big (a ++ b) := fun w h => (List.mem_append.mp h).elim (ha w) (hb w)
theorem goodIn_ca {big a b : List Cond} {c : Cond} (ha : GoodIn big (c :: a)) (hb : GoodIn big b) : GoodIn big (c :: (a ++ b)) := fun w h => (List.mem_cons.mp h).elim (fun e => ha w (List.mem_cons.mpr (Or.inl e))) (fun h => (List.mem_append.mp h).elim (fun h => ha w (List.mem_cons.mpr (Or.inr h))) (hb w))
theorem goodIn_sub {big ws : List Cond} (hm : ∀ w ∈ ws, w ∈ big) (h : ws.all goodWord = true) : GoodIn big ws := fun w hw => ⟨hm w hw, good_of_word (List.all_eq_true.mp h w hw)⟩
/-! ===== END ===== -/

/-! ===== BEGIN exceptions that leave a method, and their catching by the caller (launches without stack traces) ===== -/
section VXA
/-! The laws vx_back, vx_callV, vx_callS, vx_callSW, vx_throw0, vx_throwS follow proofs of the library, with one case more: JvmDerived/Free/Laws.lean (Back.of_free), Shelf42/LK1.lean (callV, callS), Shelf/KitTraced.lean (throwNew0V, throwNewS). -/
/-- where a method has thrown q: the class by its name, the cell, what was written, the world -/
def vx_T (XC : String → State → State → Prop) (st : State) (q : Addr) (t : State) (mc ms : Nat) (free : Addr → Prop) : Prop :=
  ∃ (E : String) (ce : Cell) (L : List Loc), XC E st t ∧ t.heap[q]? = some ce ∧ ce.vm = .none ∧ st.vm.findClass E = some ce.cls ∧ st.WarmedH t.vm ∧ st.sameButNew ({ t with vm := st.vm } : State) L mc ms ∧ ∀ z ∈ L, free z.base
def vx_Q (Qc : Array Value → State → Outcome → State → Prop) (XC : String → State → State → Prop) (mc ms : Nat) (free : Addr → Prop) : Array Value → State → Outcome → State → Prop := fun a st o t =>
  (Qc a st o t ∧ ∃ L, FrameEnd st o t L mc ms ∧ ∀ q ∈ L, free q.base) ∨ ∃ q, o = .threw q ∧ vx_T XC st q t mc ms free
/-- a callee that returns or throws -/
def vx_Met (l : Launch) (y : MethodName) (ws : List Cond) (rm : Room) (Pc : Array Value → State → Prop) (Qc : Array Value → State → Outcome → State → Prop) (XC : String → State → State → Prop) (mc ms : Nat) (free : Addr → Prop) : Prop :=
  MetFree l y (headSpec ws rm) Pc (fun _ _ _ _ _ => True) (vx_Q Qc XC mc ms free)
def vx_Post (XC : String → State → State → Prop) (mc ms : Nat) (free : Addr → Prop) : Pt → Array Value → Addr → Pt → Prop := fun A a q B =>
  ∃ (g : JFrame) (mk : MethodId) (t : State) (L : List Loc) (E : String) (ce : Cell), B.U.heap = t.heap ∧ B.U.vm = t.vm ∧ XC E (A.U.calling g mk a) t ∧ t.heap[q]? = some ce ∧ ce.vm = .none ∧ A.U.vm.findClass E = some ce.cls ∧ B.locs = A.locs ++ L ∧ (∀ z ∈ L, free z.base) ∧ B.cells = A.cells + mc ∧ B.slots = A.slots + ms
def vx_Back (l : Launch) (R : Room) (p : Program) (e : Env) (below : List Frame) (s : State) (sargs : Array Value) (y : MethodName) (len W9 : Nat)
    (Pre : Pt → Array Value → Prop) (Post : Pt → Array Value → Option Value → Pt → Prop) (PostX : Pt → Array Value → Addr → Pt → Prop) : Prop :=
  ∀ (m : MethodId) (meth : Method) (c : Code) (A : Pt) (g : JFrame) (ig : Instr) (mk : MethodId) (a : Array Value),
    Stand p l e R s m sargs below meth c A.U A.locs A.cells A.slots → g.method = m → g.locals.size = c.maxLocals → decode c.code g.pc = .ok (ig, len) →
    2 * g.monitorRoom + (g.stack.map fun v => v.category).sum ≤ W9 → A.U.methodNamed? y = some mk → Pre A a →
    (∃ (v : Option Value) (B : Pt), Stand p l e R s m sargs below meth c B.U B.locs B.cells B.slots ∧ Post A a v B ∧
      Steps p.tables e below (doInvoke e (A.U.setTop g) [] mk a).1 (B.U.setTop { g with pc := g.pc + len, stack := v.toList ++ g.stack })) ∨
    (∃ (q : Addr) (B : Pt), Stand p l e R s m sargs below meth c B.U B.locs B.cells B.slots ∧ PostX A a q B ∧
      Steps p.tables e below (doInvoke e (A.U.setTop g) [] mk a).1 ((B.U.setTop g).pushFrame (.throwing q)))
section Payer
variable {l : Launch} {R : Room} {p : Program} {e : Env} {below : List Frame} {s : State} {sargs : Array Value} {y : MethodName} {len W9 : Nat}
theorem vx_back {ws : List Cond} {rm : Room} {Pc : Array Value → State → Prop} {Qc : Array Value → State → Outcome → State → Prop} {XC : String → State → State → Prop} {mc ms : Nat} {free : Addr → Prop} {bytes : ByteArray} {maxL : Nat} {ret : Option FieldType}
    (hM : vx_Met l y ws rm Pc Qc XC mc ms free) (hblind : FrameBlind Pc) (hrc : rm.cells = mc) (hrs : rm.slots = ms)
    (hframes : rm.frames + 1 ≤ R.frames) (hlocals : W9 + (maxL + 11) + rm.locals ≤ R.locals)
    (hws : ∀ w ∈ ws, ∀ a' U, s.WarmedH U.vm → w.before a' U = true) (hcode : Cond.code y bytes maxL ret ∈ ws) (hinit : ∀ a' U, s.WarmedH U.vm → (Cond.initialized y.cls).before a' U = true) :
    vx_Back l R p e below s sargs y len W9 (PreOf R mc ms Pc) (PostOf Qc mc ms free) (vx_Post XC mc ms free) := by
  intro m meth c A g ig mk a X hg hsize hdg hW hn hp
  have h1 : (headSpec ws rm).pre.before a A.U = true := atoms_intro fun w hw => hws w hw _ _ X.warmed
  have h2 : (Cond.code y bytes maxL ret).before a A.U = true := hws _ hcode _ _ X.warmed
  have h3 : (Cond.initialized y.cls).before a A.U = true := hinit _ _ X.warmed
  have h4 : A.cells + (headSpec ws rm).room.cells ≤ R.cells := by rw [show (headSpec ws rm).room.cells = mc from hrc]; exact hp.1
  have h5 : A.slots + (headSpec ws rm).room.slots ≤ R.slots := by rw [show (headSpec ws rm).room.slots = ms from hrs]; exact hp.2.1
  have hPc : Pc a (A.U.calling g mk a) := hblind _ _ _ _ hp.2.2
  obtain ⟨U, Ls, c0, s0⟩ := A
  dsimp only [Pt.U, Pt.locs, Pt.cells, Pt.slots] at h1 h2 h3 h4 h5 X hn hPc ⊢
  obtain ⟨methY, cY, hmY, hcY, -, hlY, -, -, -, -⟩ := Cond.code_spec hn h2
  obtain ⟨kY, hkY, -⟩ := className_of_methodNamed hn
  have hinitY : kY.init = .initialized := Cond.initialized_spec (findClass_of_methodNamed hn) hkY h3
  have h : At U g.method c below := by rw [hg]; exact X.here
  have hlocals9 : W9 + (maxL + 11) + (headSpec ws rm).room.locals ≤ R.locals := hlocals
  have happ : (headSpec ws rm).appliesLoose y e.platform (U.calling g mk a) = true :=
    Spec.appliesLoose_calling (g := g) h hdg hn hkY hinitY
      (X.room_calling (g := g) (R' := (headSpec ws rm).room) hsize hmY hcY hframes (by rw [hlY]; omega) h4 h5) h1
  obtain ⟨mid, hmid⟩ := h.above
  have hfr : (U.setTop g).frames = (.java g :: mid) ++ below := by rw [State.frames_setTop' g h.top, hmid]; rfl
  obtain ⟨o, s₂, hsteps, -, hend, hq⟩ := Steps.callFree hM p X.admits X.cas X.clock (acts := []) hfr happ hPc trivial
  have hq' : vx_Q Qc XC mc ms free a (U.calling g mk a) o s₂ := hq
  rw [State.frames_setTop' g h.top] at hend
  obtain ⟨g₀, hg0⟩ := Option.isSome_iff_exists.mp h.top
  obtain ⟨r, hr⟩ := State.topJava?_eq_some.mp hg0
  have hr' : (({ U with heap := s₂.heap, slotsUsed := s₂.slotsUsed } : State).setVm s₂.vm).frames = .java g₀ :: r := hr
  rcases hq' with ⟨hqc, L, hfe, hL⟩ | ⟨q, rfl, E, ce, L, hx, hce, hcv, hcl, hW₂, hsm, hL⟩
  · obtain ⟨⟨v, rfl⟩, hW₂, e2, q2, q3, q4, q5, q6⟩ := id hfe
    have e3 : s₂ = ({ (U.calling g mk a).setFrames s₂.frames with heap := s₂.heap, slotsUsed := s₂.slotsUsed } : State).setVm s₂.vm := by
      have : s₂ = ({ s₂ with vm := (U.calling g mk a).vm } : State).setVm s₂.vm := rfl
      rw [e2] at this
      exact this
    obtain ⟨c₂, i₂, len₂, hc₂, hd₂, hf₂⟩ := hend
    have hW' : U.WarmedH s₂.vm := hW₂
    have hcc : c₂ = c := by
      have h1 : s₂.code? g.method = U.code? g.method := by
        rw [State.code?_eq, State.code?_eq, hW'.alike.method?]
      exact Option.some.inj (hc₂.symm.trans (h1.trans h.code))
    subst hcc
    have hlen : len₂ = len := by rw [hdg] at hd₂; cases hd₂; rfl
    subst hlen
    have hs₂ : s₂ = (({ U with heap := s₂.heap, slotsUsed := s₂.slotsUsed } : State).setVm s₂.vm).setTop { g with pc := g.pc + len₂, stack := v.toList ++ g.stack } := by
      refine e3.trans ?_
      rw [hf₂, State.calling_eq h.top, State.setFrames_setFrames, State.setTop_of_frames _ hr', hr]
      rfl
    have hsame : U.sameButNew ({ U with heap := s₂.heap, slotsUsed := s₂.slotsUsed } : State) L mc ms := by
      refine ⟨?_, q2, q3, q4, q5, q6⟩
      obtain ⟨t, ht, -⟩ := State.frames_cons hr
      show ({ U with heap := s₂.heap, slotsUsed := s₂.slotsUsed } : State) = { U.setFrames U.frames with heap := s₂.heap, slotsUsed := s₂.slotsUsed }
      rw [State.setFrames_self ht]
    subst hg
    refine Or.inl ⟨v, ⟨(({ U with heap := s₂.heap, slotsUsed := s₂.slotsUsed } : State).setVm s₂.vm), Ls ++ L, c0 + mc, s0 + ms⟩,
      ⟨X.admits, X.cas, X.clock, X.frames, X.room, X.hears, X.method, X.code, (X.here.setHeapUsed s₂.heap s₂.slotsUsed).setVm hW'.alike, X.tail, State.WarmedH.trans X.warmed hW', X.limits, X.bytes, X.same.trans (hsame.setVm s.vm)⟩,
      ⟨g, mk, s₂, L, rfl, rfl, hqc, rfl, hL, rfl, rfl⟩, ?_⟩
    show Steps p.tables e below _ ((({ U with heap := s₂.heap, slotsUsed := s₂.slotsUsed } : State).setVm s₂.vm).setTop { g with pc := g.pc + len₂, stack := v.toList ++ g.stack })
    rw [← hs₂]
    exact hsteps
  · obtain ⟨e2, q2, q3, q4, q5, q6⟩ := id hsm
    have e3 : s₂ = ({ (U.calling g mk a).setFrames s₂.frames with heap := s₂.heap, slotsUsed := s₂.slotsUsed } : State).setVm s₂.vm := by
      have : s₂ = ({ s₂ with vm := (U.calling g mk a).vm } : State).setVm s₂.vm := rfl
      rw [e2] at this
      exact this
    have hf₂ : s₂.frames = .throwing q :: .java g :: U.frames.tail := hend
    have hW' : U.WarmedH s₂.vm := hW₂
    have hs₂ : s₂ = ((({ U with heap := s₂.heap, slotsUsed := s₂.slotsUsed } : State).setVm s₂.vm).setTop g).pushFrame (.throwing q) := by
      refine e3.trans ?_
      rw [hf₂, State.calling_eq h.top, State.setFrames_setFrames, State.pushFrame, State.frames_setTop _ hr', State.setTop_of_frames _ hr', State.setFrames_setFrames, hr]
      rfl
    have hsame : U.sameButNew ({ U with heap := s₂.heap, slotsUsed := s₂.slotsUsed } : State) L mc ms := by
      refine ⟨?_, q2, q3, q4, q5, q6⟩
      obtain ⟨t, ht, -⟩ := State.frames_cons hr
      show ({ U with heap := s₂.heap, slotsUsed := s₂.slotsUsed } : State) = { U.setFrames U.frames with heap := s₂.heap, slotsUsed := s₂.slotsUsed }
      rw [State.setFrames_self ht]
    subst hg
    refine Or.inr ⟨q, ⟨(({ U with heap := s₂.heap, slotsUsed := s₂.slotsUsed } : State).setVm s₂.vm), Ls ++ L, c0 + mc, s0 + ms⟩,
      ⟨X.admits, X.cas, X.clock, X.frames, X.room, X.hears, X.method, X.code, (X.here.setHeapUsed s₂.heap s₂.slotsUsed).setVm hW'.alike, X.tail, State.WarmedH.trans X.warmed hW', X.limits, X.bytes, X.same.trans (hsame.setVm s.vm)⟩,
      ⟨g, mk, s₂, L, E, ce, rfl, rfl, hx, hce, hcv, hcl, rfl, hL, rfl, rfl⟩, ?_⟩
    show Steps p.tables e below _ (((({ U with heap := s₂.heap, slotsUsed := s₂.slotsUsed } : State).setVm s₂.vm).setTop g).pushFrame (.throwing q))
    rw [← hs₂]
    exact hsteps
end Payer
section Calls
variable {p : Program} {l : Launch} {e : Env} {R : Room} {s : State} {m : MethodId} {args : Array Value} {below : List Frame} {meth : Method} {c : Code} {T : State} {locs : List Loc} {cells slots : Nat}
theorem vx_callV (X : Stand p l e R s m args below meth c T locs cells slots) (hexec : p.tables.exec = Jvm.exec) {own C : String} {index : Nat} {y : MethodName} {bytes : ByteArray} {maxL : Nat} {ret : Option FieldType}
    (hown : s.vm.findClass own = some m.cls) (hlink : (Cond.methodLink own index y).before args s = true) (hinst : (Cond.instanceMethod y).before args s = true) (hsel : (Cond.selects C y y).before args s = true)
    (hcode : (Cond.code y bytes maxL ret).before args s = true) (hy : y.cls ≠ "java/lang/invoke/MethodHandle" ∧ y.cls ≠ "java/lang/invoke/VarHandle")
    {W9 : Nat} {Pre : Pt → Array Value → Prop} {Post : Pt → Array Value → Option Value → Pt → Prop} {PostX : Pt → Array Value → Addr → Pt → Prop} (hK : vx_Back l R p e below s args y 3 W9 Pre Post PostX)
    {b : Addr} {cellB : Cell} (hcell : T.heap[b]? = some cellB) (hobj : cellB.vm.isStatics = false) (hcls : s.vm.findClass C = some cellB.cls)
    {g : JFrame} (hg : g.method = m) (hsize : g.locals.size = c.maxLocals) {argsL rest : List Value} (hlen : ∀ sig, parseMethodDescriptor y.desc = some sig → argsL.length = sig.parameters.length)
    (hstack : g.stack = argsL.reverse ++ .ref b :: rest) (hW : 2 * g.monitorRoom + (rest.map fun v => v.category).sum ≤ W9) (hdg : decode c.code g.pc = .ok (.invokevirtual index, 3))
    (hpre : ∀ vm₁, s.WarmedH vm₁ → Pre ⟨T.setVm vm₁, locs, cells, slots⟩ (Value.ref b :: argsL).toArray) :
    (∃ (v : Option Value) (vm₁ : Vm) (B : Pt), s.WarmedH vm₁ ∧ Stand p l e R s m args below meth c B.U B.locs B.cells B.slots ∧ Post ⟨T.setVm vm₁, locs, cells, slots⟩ (Value.ref b :: argsL).toArray v B ∧
      ∀ target, Steps p.tables e below (B.U.setTop { g with pc := g.pc + 3, stack := v.toList ++ rest }) target → Steps p.tables e below (T.setTop g) target) ∨
    (∃ (q : Addr) (vm₁ : Vm) (B : Pt), s.WarmedH vm₁ ∧ Stand p l e R s m args below meth c B.U B.locs B.cells B.slots ∧ PostX ⟨T.setVm vm₁, locs, cells, slots⟩ (Value.ref b :: argsL).toArray q B ∧
      Steps p.tables e below (T.setTop g) ((B.U.setTop { g with stack := rest }).pushFrame (.throwing q))) := by
  obtain ⟨mk, methM, hnamed, hmethM, hstM, habM⟩ := Cond.instanceMethod_spec hinst
  obtain ⟨methM', cM, hmethM', -, -, -, -, -, -, hsigM⟩ := Cond.code_spec hnamed hcode
  cases hmethM.symm.trans hmethM'
  obtain ⟨c2, r2, m2, q1, q2, q3, q4, kP, hkP, hkPi⟩ := Cond.selects_spec hsel
  cases hcls.symm.trans q1
  cases (State.methodFound?_of_named hnamed hy).symm.trans q2
  cases hnamed.symm.trans q3
  have hselP : selectMethod e.platform s.vm cellB.cls mk = .method mk := by rw [Launch.admits_selectMethod X.admits]; exact q4
  obtain ⟨vm₁, X₁, hstep₁⟩ := X.invokevirtual hexec hown hlink hnamed hmethM hstM hkP hkPi hy (a := b) (cell := cellB) hcell
    (fun z h => by rw [h] at hobj; cases hobj) hselP hmethM habM hkP hkPi (g := g) hg (argsL := argsL) (rest := rest) (hlen _ hsigM) hstack hdg
  rcases hK m meth c ⟨T.setVm vm₁, locs, cells, slots⟩ { g with stack := rest } (.invokevirtual index) mk (Value.ref b :: argsL).toArray X₁ hg hsize hdg hW (X₁.named hnamed) (hpre vm₁ X₁.warmed) with ⟨v, B, X', hpost, hsteps⟩ | ⟨q, B, X', hpost, hsteps⟩
  · exact Or.inl ⟨v, vm₁, B, X₁.warmed, X', hpost, fun target h => hstep₁ _ fun acts => by rw [doInvoke_state]; exact hsteps.trans h⟩
  · exact Or.inr ⟨q, vm₁, B, X₁.warmed, X', hpost, hstep₁ _ fun acts => by rw [doInvoke_state]; exact hsteps⟩
theorem vx_callS (X : Stand p l e R s m args below meth c T locs cells slots) (hexec : p.tables.exec = Jvm.exec) {own : String} {index : Nat} {y : MethodName} {bytes : ByteArray} {maxL : Nat} {ret : Option FieldType}
    (hown : s.vm.findClass own = some m.cls) (hlink : (Cond.methodLink own index y).before args s = true) (hstat : (Cond.static y).before args s = true) (hinit : (Cond.initialized y.cls).before args s = true)
    (hcode : (Cond.code y bytes maxL ret).before args s = true) (hy : y.cls ≠ "java/lang/invoke/MethodHandle" ∧ y.cls ≠ "java/lang/invoke/VarHandle")
    {W9 : Nat} {Pre : Pt → Array Value → Prop} {Post : Pt → Array Value → Option Value → Pt → Prop} {PostX : Pt → Array Value → Addr → Pt → Prop} (hK : vx_Back l R p e below s args y 3 W9 Pre Post PostX)
    {g : JFrame} (hg : g.method = m) (hsize : g.locals.size = c.maxLocals) {argsL rest : List Value} (hlen : ∀ sig, parseMethodDescriptor y.desc = some sig → argsL.length = sig.parameters.length)
    (hstack : g.stack = argsL.reverse ++ rest) (hW : 2 * g.monitorRoom + (rest.map fun v => v.category).sum ≤ W9) (hdg : decode c.code g.pc = .ok (.invokestatic index, 3))
    (hpre : ∀ vm₁, s.WarmedH vm₁ → Pre ⟨T.setVm vm₁, locs, cells, slots⟩ argsL.toArray) :
    (∃ (v : Option Value) (vm₁ : Vm) (B : Pt), s.WarmedH vm₁ ∧ Stand p l e R s m args below meth c B.U B.locs B.cells B.slots ∧ Post ⟨T.setVm vm₁, locs, cells, slots⟩ argsL.toArray v B ∧
      ∀ target, Steps p.tables e below (B.U.setTop { g with pc := g.pc + 3, stack := v.toList ++ rest }) target → Steps p.tables e below (T.setTop g) target) ∨
    (∃ (q : Addr) (vm₁ : Vm) (B : Pt), s.WarmedH vm₁ ∧ Stand p l e R s m args below meth c B.U B.locs B.cells B.slots ∧ PostX ⟨T.setVm vm₁, locs, cells, slots⟩ argsL.toArray q B ∧
      Steps p.tables e below (T.setTop g) ((B.U.setTop { g with stack := rest }).pushFrame (.throwing q))) := by
  obtain ⟨mk, hnamed⟩ := Cond.code_named hcode
  obtain ⟨methM, cM, hmethM, -, -, -, -, -, -, hsigM⟩ := Cond.code_spec hnamed hcode
  have hstatic : methM.isStatic = true := Cond.static_spec hnamed hmethM hstat
  obtain ⟨kP, hkP, -⟩ := className_of_methodNamed hnamed
  have hinitP : kP.init = .initialized := Cond.initialized_spec (findClass_of_methodNamed hnamed) hkP hinit
  obtain ⟨vm₁, X₁, hstep₁⟩ := X.invokestatic hexec hown hlink hnamed hmethM hstatic hkP hinitP hy (g := g) hg (argsL := argsL) (rest := rest) (hlen _ hsigM) hstack hdg
  rcases hK m meth c ⟨T.setVm vm₁, locs, cells, slots⟩ { g with stack := rest } (.invokestatic index) mk argsL.toArray X₁ hg hsize hdg hW (X₁.named hnamed) (hpre vm₁ X₁.warmed) with ⟨v, B, X', hpost, hsteps⟩ | ⟨q, B, X', hpost, hsteps⟩
  · exact Or.inl ⟨v, vm₁, B, X₁.warmed, X', hpost, fun target h => hstep₁ _ fun acts => by rw [doInvoke_state]; exact hsteps.trans h⟩
  · exact Or.inr ⟨q, vm₁, B, X₁.warmed, X', hpost, hstep₁ _ fun acts => by rw [doInvoke_state]; exact hsteps⟩
end Calls
theorem vx_cls {s : State} {T : State} {vm₁ : Vm} {E : String} {k : ClassId} (hW : s.WarmedH vm₁) (h : (T.setVm vm₁).vm.findClass E = some k) : s.vm.findClass E = some k := by
  have h1 : vm₁.findClass E = some k := h
  rw [hW.alike.findClass] at h1
  exact h1
/-- the method's frame g, with q thrown over it -/
def vx_W (p : Program) (l : Launch) (e : Env) (R : Room) (s : State) (m : MethodId) (args : Array Value) (below : List Frame) (meth : Method) (c : Code) (H : Heap) (locs : List Loc) (cells slots : Nat) (Q : State → Prop) (g : JFrame) (q : Addr) : Prop :=
  ∀ T : State, T.heap = H → Stand p l e R s m args below meth c T locs cells slots → ∃ t, Steps p.tables e below ((T.setTop g).pushFrame (.throwing q)) t ∧ Q t
def vx_Run (p : Program) (l : Launch) (e : Env) (R : Room) (s : State) (m : MethodId) (args : Array Value) (below : List Frame) (meth : Method) (c : Code) (H : Heap) (locs : List Loc) (cells slots mc ms : Nat) (g : JFrame) (rest : List Value) (Qa : State → Outcome → State → Prop) (XC : String → State → State → Prop) (free : Addr → Prop) : Prop :=
  ∀ T : State, T.heap = H → Stand p l e R s m args below meth c T locs cells slots →
    (∃ (v : Option Value) (st₀ t T' : State) (L : List Loc), st₀.heap = H ∧ Stand p l e R s m args below meth c T' (locs ++ L) (cells + mc) (slots + ms) ∧ (∀ q ∈ L, free q.base) ∧ T'.heap = t.heap ∧ T'.vm = t.vm ∧ Qa st₀ (.returned v) t ∧
      Goes p e below T g T' { g with pc := g.pc + 3, stack := v.toList ++ rest }) ∨
    (∃ (q : Addr) (st₀ t T' : State) (L : List Loc) (E : String) (ce : Cell), st₀.heap = H ∧ Stand p l e R s m args below meth c T' (locs ++ L) (cells + mc) (slots + ms) ∧ (∀ z ∈ L, free z.base) ∧ T'.heap = t.heap ∧ T'.vm = t.vm ∧ XC E st₀ t ∧ t.heap[q]? = some ce ∧ ce.vm = .none ∧ s.vm.findClass E = some ce.cls ∧
      Steps p.tables e below (T.setTop g) ((T'.setTop { g with stack := rest }).pushFrame (.throwing q)))
def vx_X {S : Type} (px : S → Prop) (B : String → S → State → Prop) (A : Nat → Prop) : String → State → State → Prop := fun E st t => ∃ u : S, px u ∧ B E u t ∧ va_F A st t
section Runs
variable {p : Program} {l : Launch} {e : Env} {R : Room} {s : State} {m : MethodId} {args : Array Value} {below : List Frame} {meth : Method} {c : Code} {H : Heap} {locs : List Loc} {cells slots : Nat}
variable {y : MethodName} {bytes cc : ByteArray} {maxL nL mc ms n index : Nat} {ret : Option FieldType} {ws : List Cond} {rm : Room} {Pc : Array Value → State → Prop} {Qc : Array Value → State → Outcome → State → Prop} {XC : String → State → State → Prop} {free : Addr → Prop} {Ts : List Cond} {own C : String} {b : Addr} {As rest : List Value} {g : JFrame}
theorem vx_callBack (cb : CallB R s args own index y bytes maxL ret ws rm mc ms n) (hM : vx_Met l y ws rm Pc Qc XC mc ms free) (hbl : FrameBlind Pc) : vx_Back l R p e below s args y 3 8 (PreOf R mc ms Pc) (PostOf Qc mc ms free) (vx_Post XC mc ms free) := by
  obtain ⟨hrc, hrs, hfr, hlo, hws, hcw, -, hini, -⟩ := cb
  exact vx_back (bytes := bytes) (maxL := maxL) (ret := ret) hM hbl hrc hrs hfr hlo hws hcw (fun a' U hW => word_at hW (Or.inl (by first | rfl | simp [Cond.onTables, Cond.keeps, Cond.steady])) hini)
theorem vx_runV (S : CallFix p m c cc nL s args Ts own) (hM : vx_Met l y ws rm Pc Qc XC mc ms free) (cw : CallW R s args own C index y bytes maxL ret ws rm mc ms n) (hp : PreV s H C b Pc As)
    (hg : g.method = m) (hn : As.length = n) (hsize : g.locals.size = nL) (hstack : g.stack = As.reverse ++ .ref b :: rest) (hW : 2 * g.monitorRoom + (rest.map fun v => v.category).sum ≤ 8) (hdg : decode cc g.pc = .ok (.invokevirtual index, 3)) (hf : cells + mc ≤ R.cells ∧ slots + ms ≤ R.slots) :
    vx_Run p l e R s m args below meth c H locs cells slots mc ms g rest (Qc (Value.ref b :: As).toArray) XC free := by
  have hK : vx_Back l R p e below s args y 3 8 (PreOf R mc ms Pc) (PostOf Qc mc ms free) (vx_Post XC mc ms free) := vx_callBack cw.1 hM hp.1
  obtain ⟨⟨-, -, -, -, -, -, hcode, -, hy, hlen, hl⟩, hin, hse⟩ := cw
  obtain ⟨hx, hb, hml, ho, -⟩ := S
  obtain ⟨-, ⟨cellB, hcB, hoB, hclB⟩, hPc⟩ := hp
  intro T hT X
  rcases vx_callV X hx (C := C) (bytes := bytes) (maxL := maxL) (ret := ret) ho hl hin hse hcode hy hK (by rw [hT]; exact hcB) hoB hclB hg (hsize.trans hml.symm) (argsL := As) (rest := rest) (fun sig h => hn.trans (hlen sig h)) hstack hW (by rw [hb]; exact hdg)
    (fun vm₁ hW₁ => ⟨hf.1, hf.2, hPc (T.setVm vm₁) hT hW₁⟩) with ⟨v, vm₁, ⟨U', l2, c2, s2⟩, hW₁, X', ⟨g', mk, t, L, e1, e2, hq, h1, hL, h2, h3⟩, st⟩ | ⟨q, vm₁, ⟨U', l2, c2, s2⟩, hW₁, X', ⟨g', mk, t, L, E, ce, e1, e2, hq, hce, hcv, hcl, h1, hL, h2, h3⟩, st⟩
  · dsimp only [Pt.U, Pt.locs, Pt.cells, Pt.slots] at X' e1 e2 h1 h2 h3 st
    subst h1; subst h2; subst h3
    exact Or.inl ⟨v, (T.setVm vm₁).calling g' mk (Value.ref b :: As).toArray, t, U', L, hT, X', hL, e1, e2, hq, st⟩
  · dsimp only [Pt.U, Pt.locs, Pt.cells, Pt.slots] at X' e1 e2 h1 h2 h3 st hcl
    subst h1; subst h2; subst h3
    exact Or.inr ⟨q, (T.setVm vm₁).calling g' mk (Value.ref b :: As).toArray, t, U', L, E, ce, hT, X', hL, e1, e2, hq, hce, hcv, vx_cls hW₁ hcl, st⟩
theorem vx_runS (S : CallFix p m c cc nL s args Ts own) (hM : vx_Met l y ws rm Pc Qc XC mc ms free) (cw : CallB R s args own index y bytes maxL ret ws rm mc ms n ∧ (Cond.static y).before args s = true) (hp : PreS s H Pc As)
    (hg : g.method = m) (hn : As.length = n) (hsize : g.locals.size = nL) (hstack : g.stack = As.reverse ++ rest) (hW : 2 * g.monitorRoom + (rest.map fun v => v.category).sum ≤ 8) (hdg : decode cc g.pc = .ok (.invokestatic index, 3)) (hf : cells + mc ≤ R.cells ∧ slots + ms ≤ R.slots) :
    vx_Run p l e R s m args below meth c H locs cells slots mc ms g rest (Qc As.toArray) XC free := by
  have hK : vx_Back l R p e below s args y 3 8 (PreOf R mc ms Pc) (PostOf Qc mc ms free) (vx_Post XC mc ms free) := vx_callBack cw.1 hM hp.1
  obtain ⟨⟨-, -, -, -, -, -, hcode, hini, hy, hlen, hl⟩, hstt⟩ := cw
  obtain ⟨hx, hb, hml, ho, -⟩ := S
  intro T hT X
  rcases vx_callS X hx (bytes := bytes) (maxL := maxL) (ret := ret) ho hl hstt hini hcode hy hK hg (hsize.trans hml.symm) (argsL := As) (rest := rest) (fun sig h => hn.trans (hlen sig h)) hstack hW (by rw [hb]; exact hdg)
    (fun vm₁ hW₁ => ⟨hf.1, hf.2, hp.2 (T.setVm vm₁) hT hW₁⟩) with ⟨v, vm₁, ⟨U', l2, c2, s2⟩, hW₁, X', ⟨g', mk, t, L, e1, e2, hq, h1, hL, h2, h3⟩, st⟩ | ⟨q, vm₁, ⟨U', l2, c2, s2⟩, hW₁, X', ⟨g', mk, t, L, E, ce, e1, e2, hq, hce, hcv, hcl, h1, hL, h2, h3⟩, st⟩
  · dsimp only [Pt.U, Pt.locs, Pt.cells, Pt.slots] at X' e1 e2 h1 h2 h3 st
    subst h1; subst h2; subst h3
    exact Or.inl ⟨v, (T.setVm vm₁).calling g' mk As.toArray, t, U', L, hT, X', hL, e1, e2, hq, st⟩
  · dsimp only [Pt.U, Pt.locs, Pt.cells, Pt.slots] at X' e1 e2 h1 h2 h3 st hcl
    subst h1; subst h2; subst h3
    exact Or.inr ⟨q, (T.setVm vm₁).calling g' mk As.toArray, t, U', L, E, ce, hT, X', hL, e1, e2, hq, hce, hcv, vx_cls hW₁ hcl, st⟩
end Runs
section Rows
variable {p : Program} {l : Launch} {e : Env} {R : Room} {s : State} {m : MethodId} {args : Array Value} {below : List Frame} {meth : Method} {c : Code} {H : Heap} {locs : List Loc} {cells slots : Nat} {Q : State → Prop}
variable {mc ms : Nat} {free : Addr → Prop} {A0 A1 : Nat → Prop} {H0 : Heap} {a : Array Value} {pc : Nat} {ls : Array Slot} {st0 rest : List Value}
theorem vx_keep {st₀ t T' : State} {L : List Loc} (h0 : st₀.heap = H) (e1 : T'.heap = t.heap) (hS : va_S A0 H0 H locs) (hA : ∀ q, q < H.size → A1 q → A0 q) (hf : ∀ q, free q → A0 q) (hL : ∀ q ∈ L, free q.base) (hF : va_F A1 st₀ t) :
    H.size ≤ T'.heap.size ∧ (∀ q : Nat, q < H.size → ¬ A1 q → T'.heap[q]? = H[q]?) ∧ va_S A0 H0 T'.heap (locs ++ L) := by
  obtain ⟨hz, hk⟩ := hF
  rw [h0] at hz hk
  exact ⟨by rw [e1]; exact hz, fun q h1 h2 => by rw [e1]; exact hk q h1 h2,
    ⟨Nat.le_trans hS.1 (by rw [e1]; exact hz), fun q h1 h2 => by rw [e1, hk q (Nat.lt_of_lt_of_le h1 hS.1) (fun z => h2 (hA q (Nat.lt_of_lt_of_le h1 hS.1) z))]; exact hS.2.1 q h1 h2, fun q hq => by
      rcases List.mem_append.mp hq with h | h
      · exact hS.2.2 q h
      · exact hf _ (hL q h)⟩⟩
theorem vx_calli {S SX : Type} {post : Int32 → S → Prop} {px : SX → Prop} {B : S → State → Prop} {BX : String → SX → State → Prop} {AX : Nat → Prop} (hr : vx_Run p l e R s m args below meth c H locs cells slots mc ms (F0 m pc ls st0) rest (va_Qi post B A1 a) (vx_X px BX AX) free) (hS : va_S A0 H0 H locs) (hA : ∀ q, q < H.size → A1 q → A0 q) (hf : ∀ q, free q → A0 q) (hAX : ∀ q, q < H.size → AX q → A0 q)
    (kx : ∀ (E : String) (ce : Cell) (q9 : Addr) (u : SX) (t : State) (H1 : Heap) (locs1 : List Loc), t.heap = H1 → s.vm.Alike t.vm → px u → BX E u t → H.size ≤ H1.size → (∀ q : Nat, q < H.size → ¬ AX q → H1[q]? = H[q]?) → va_S A0 H0 H1 locs1 → H1[q9]? = some ce → ce.vm = .none → s.vm.findClass E = some ce.cls → vx_W p l e R s m args below meth c H1 locs1 (cells + mc) (slots + ms) Q (F0 m pc ls rest) q9)
    (kk : ∀ (r : Int32) (u : S) (t : State) (H1 : Heap) (locs1 : List Loc), t.heap = H1 → s.vm.Alike t.vm → post r u → B u t → H.size ≤ H1.size → (∀ q : Nat, q < H.size → ¬ A1 q → H1[q]? = H[q]?) → va_S A0 H0 H1 locs1 → W p l e R s m args below meth c H1 locs1 (cells + mc) (slots + ms) Q (F0 m (pc + 3) ls (.int r :: rest))) : W p l e R s m args below meth c H locs cells slots Q (F0 m pc ls st0) := by
  intro T hT X
  rcases hr T hT X with ⟨v, st₀, t, T', L, h0, X', hL, e1, e2, ⟨⟨r, u, hv, hp, hb⟩, hF⟩, st⟩ | ⟨q, st₀, t, T', L, E, ce, h0, X', hL, e1, e2, ⟨u, hp, hb, hF⟩, hce, hcv, hcl, st⟩
  · cases hv
    obtain ⟨k1, k2, k3⟩ := vx_keep h0 e1 hS hA hf hL hF
    obtain ⟨t2, a1, b1⟩ := kk r u t T'.heap (locs ++ L) e1.symm (by rw [← e2]; exact X'.warmed.alike) hp hb k1 k2 k3 T' rfl X'
    exact ⟨t2, st t2 a1, b1⟩
  · obtain ⟨k1, k2, k3⟩ := vx_keep h0 e1 hS hAX hf hL hF
    obtain ⟨t2, a1, b1⟩ := kx E ce q u t T'.heap (locs ++ L) e1.symm (by rw [← e2]; exact X'.warmed.alike) hp hb k1 k2 k3 (by rw [e1]; exact hce) hcv hcl T' rfl X'
    exact ⟨t2, st.trans a1, b1⟩
theorem vx_calll {S SX : Type} {post : Int64 → S → Prop} {px : SX → Prop} {B : S → State → Prop} {BX : String → SX → State → Prop} {AX : Nat → Prop} (hr : vx_Run p l e R s m args below meth c H locs cells slots mc ms (F0 m pc ls st0) rest (va_Ql post B A1 a) (vx_X px BX AX) free) (hS : va_S A0 H0 H locs) (hA : ∀ q, q < H.size → A1 q → A0 q) (hf : ∀ q, free q → A0 q) (hAX : ∀ q, q < H.size → AX q → A0 q)
    (kx : ∀ (E : String) (ce : Cell) (q9 : Addr) (u : SX) (t : State) (H1 : Heap) (locs1 : List Loc), t.heap = H1 → s.vm.Alike t.vm → px u → BX E u t → H.size ≤ H1.size → (∀ q : Nat, q < H.size → ¬ AX q → H1[q]? = H[q]?) → va_S A0 H0 H1 locs1 → H1[q9]? = some ce → ce.vm = .none → s.vm.findClass E = some ce.cls → vx_W p l e R s m args below meth c H1 locs1 (cells + mc) (slots + ms) Q (F0 m pc ls rest) q9)
    (kk : ∀ (r : Int64) (u : S) (t : State) (H1 : Heap) (locs1 : List Loc), t.heap = H1 → s.vm.Alike t.vm → post r u → B u t → H.size ≤ H1.size → (∀ q : Nat, q < H.size → ¬ A1 q → H1[q]? = H[q]?) → va_S A0 H0 H1 locs1 → W p l e R s m args below meth c H1 locs1 (cells + mc) (slots + ms) Q (F0 m (pc + 3) ls (.long r :: rest))) : W p l e R s m args below meth c H locs cells slots Q (F0 m pc ls st0) := by
  intro T hT X
  rcases hr T hT X with ⟨v, st₀, t, T', L, h0, X', hL, e1, e2, ⟨⟨r, u, hv, hp, hb⟩, hF⟩, st⟩ | ⟨q, st₀, t, T', L, E, ce, h0, X', hL, e1, e2, ⟨u, hp, hb, hF⟩, hce, hcv, hcl, st⟩
  · cases hv
    obtain ⟨k1, k2, k3⟩ := vx_keep h0 e1 hS hA hf hL hF
    obtain ⟨t2, a1, b1⟩ := kk r u t T'.heap (locs ++ L) e1.symm (by rw [← e2]; exact X'.warmed.alike) hp hb k1 k2 k3 T' rfl X'
    exact ⟨t2, st t2 a1, b1⟩
  · obtain ⟨k1, k2, k3⟩ := vx_keep h0 e1 hS hAX hf hL hF
    obtain ⟨t2, a1, b1⟩ := kx E ce q u t T'.heap (locs ++ L) e1.symm (by rw [← e2]; exact X'.warmed.alike) hp hb k1 k2 k3 (by rw [e1]; exact hce) hcv hcl T' rfl X'
    exact ⟨t2, st.trans a1, b1⟩
theorem vx_callf {S SX : Type} {post : UInt32 → S → Prop} {px : SX → Prop} {B : S → State → Prop} {BX : String → SX → State → Prop} {AX : Nat → Prop} (hr : vx_Run p l e R s m args below meth c H locs cells slots mc ms (F0 m pc ls st0) rest (va_Qf post B A1 a) (vx_X px BX AX) free) (hS : va_S A0 H0 H locs) (hA : ∀ q, q < H.size → A1 q → A0 q) (hf : ∀ q, free q → A0 q) (hAX : ∀ q, q < H.size → AX q → A0 q)
    (kx : ∀ (E : String) (ce : Cell) (q9 : Addr) (u : SX) (t : State) (H1 : Heap) (locs1 : List Loc), t.heap = H1 → s.vm.Alike t.vm → px u → BX E u t → H.size ≤ H1.size → (∀ q : Nat, q < H.size → ¬ AX q → H1[q]? = H[q]?) → va_S A0 H0 H1 locs1 → H1[q9]? = some ce → ce.vm = .none → s.vm.findClass E = some ce.cls → vx_W p l e R s m args below meth c H1 locs1 (cells + mc) (slots + ms) Q (F0 m pc ls rest) q9)
    (kk : ∀ (r : UInt32) (u : S) (t : State) (H1 : Heap) (locs1 : List Loc), t.heap = H1 → s.vm.Alike t.vm → post r u → B u t → H.size ≤ H1.size → (∀ q : Nat, q < H.size → ¬ A1 q → H1[q]? = H[q]?) → va_S A0 H0 H1 locs1 → W p l e R s m args below meth c H1 locs1 (cells + mc) (slots + ms) Q (F0 m (pc + 3) ls (.float r :: rest))) : W p l e R s m args below meth c H locs cells slots Q (F0 m pc ls st0) := by
  intro T hT X
  rcases hr T hT X with ⟨v, st₀, t, T', L, h0, X', hL, e1, e2, ⟨⟨r, u, hv, hp, hb⟩, hF⟩, st⟩ | ⟨q, st₀, t, T', L, E, ce, h0, X', hL, e1, e2, ⟨u, hp, hb, hF⟩, hce, hcv, hcl, st⟩
  · cases hv
    obtain ⟨k1, k2, k3⟩ := vx_keep h0 e1 hS hA hf hL hF
    obtain ⟨t2, a1, b1⟩ := kk r u t T'.heap (locs ++ L) e1.symm (by rw [← e2]; exact X'.warmed.alike) hp hb k1 k2 k3 T' rfl X'
    exact ⟨t2, st t2 a1, b1⟩
  · obtain ⟨k1, k2, k3⟩ := vx_keep h0 e1 hS hAX hf hL hF
    obtain ⟨t2, a1, b1⟩ := kx E ce q u t T'.heap (locs ++ L) e1.symm (by rw [← e2]; exact X'.warmed.alike) hp hb k1 k2 k3 (by rw [e1]; exact hce) hcv hcl T' rfl X'
    exact ⟨t2, st.trans a1, b1⟩
theorem vx_calld {S SX : Type} {post : UInt64 → S → Prop} {px : SX → Prop} {B : S → State → Prop} {BX : String → SX → State → Prop} {AX : Nat → Prop} (hr : vx_Run p l e R s m args below meth c H locs cells slots mc ms (F0 m pc ls st0) rest (va_Qd post B A1 a) (vx_X px BX AX) free) (hS : va_S A0 H0 H locs) (hA : ∀ q, q < H.size → A1 q → A0 q) (hf : ∀ q, free q → A0 q) (hAX : ∀ q, q < H.size → AX q → A0 q)
    (kx : ∀ (E : String) (ce : Cell) (q9 : Addr) (u : SX) (t : State) (H1 : Heap) (locs1 : List Loc), t.heap = H1 → s.vm.Alike t.vm → px u → BX E u t → H.size ≤ H1.size → (∀ q : Nat, q < H.size → ¬ AX q → H1[q]? = H[q]?) → va_S A0 H0 H1 locs1 → H1[q9]? = some ce → ce.vm = .none → s.vm.findClass E = some ce.cls → vx_W p l e R s m args below meth c H1 locs1 (cells + mc) (slots + ms) Q (F0 m pc ls rest) q9)
    (kk : ∀ (r : UInt64) (u : S) (t : State) (H1 : Heap) (locs1 : List Loc), t.heap = H1 → s.vm.Alike t.vm → post r u → B u t → H.size ≤ H1.size → (∀ q : Nat, q < H.size → ¬ A1 q → H1[q]? = H[q]?) → va_S A0 H0 H1 locs1 → W p l e R s m args below meth c H1 locs1 (cells + mc) (slots + ms) Q (F0 m (pc + 3) ls (.double r :: rest))) : W p l e R s m args below meth c H locs cells slots Q (F0 m pc ls st0) := by
  intro T hT X
  rcases hr T hT X with ⟨v, st₀, t, T', L, h0, X', hL, e1, e2, ⟨⟨r, u, hv, hp, hb⟩, hF⟩, st⟩ | ⟨q, st₀, t, T', L, E, ce, h0, X', hL, e1, e2, ⟨u, hp, hb, hF⟩, hce, hcv, hcl, st⟩
  · cases hv
    obtain ⟨k1, k2, k3⟩ := vx_keep h0 e1 hS hA hf hL hF
    obtain ⟨t2, a1, b1⟩ := kk r u t T'.heap (locs ++ L) e1.symm (by rw [← e2]; exact X'.warmed.alike) hp hb k1 k2 k3 T' rfl X'
    exact ⟨t2, st t2 a1, b1⟩
  · obtain ⟨k1, k2, k3⟩ := vx_keep h0 e1 hS hAX hf hL hF
    obtain ⟨t2, a1, b1⟩ := kx E ce q u t T'.heap (locs ++ L) e1.symm (by rw [← e2]; exact X'.warmed.alike) hp hb k1 k2 k3 (by rw [e1]; exact hce) hcv hcl T' rfl X'
    exact ⟨t2, st.trans a1, b1⟩
theorem vx_callv {S SX : Type} {post : S → Prop} {px : SX → Prop} {B : S → State → Prop} {BX : String → SX → State → Prop} {AX : Nat → Prop} (hr : vx_Run p l e R s m args below meth c H locs cells slots mc ms (F0 m pc ls st0) rest (va_Qv post B A1 a) (vx_X px BX AX) free) (hS : va_S A0 H0 H locs) (hA : ∀ q, q < H.size → A1 q → A0 q) (hf : ∀ q, free q → A0 q) (hAX : ∀ q, q < H.size → AX q → A0 q)
    (kx : ∀ (E : String) (ce : Cell) (q9 : Addr) (u : SX) (t : State) (H1 : Heap) (locs1 : List Loc), t.heap = H1 → s.vm.Alike t.vm → px u → BX E u t → H.size ≤ H1.size → (∀ q : Nat, q < H.size → ¬ AX q → H1[q]? = H[q]?) → va_S A0 H0 H1 locs1 → H1[q9]? = some ce → ce.vm = .none → s.vm.findClass E = some ce.cls → vx_W p l e R s m args below meth c H1 locs1 (cells + mc) (slots + ms) Q (F0 m pc ls rest) q9)
    (kk : ∀ (u : S) (t : State) (H1 : Heap) (locs1 : List Loc), t.heap = H1 → s.vm.Alike t.vm → post u → B u t → H.size ≤ H1.size → (∀ q : Nat, q < H.size → ¬ A1 q → H1[q]? = H[q]?) → va_S A0 H0 H1 locs1 → W p l e R s m args below meth c H1 locs1 (cells + mc) (slots + ms) Q (F0 m (pc + 3) ls (rest))) : W p l e R s m args below meth c H locs cells slots Q (F0 m pc ls st0) := by
  intro T hT X
  rcases hr T hT X with ⟨v, st₀, t, T', L, h0, X', hL, e1, e2, ⟨⟨u, hv, hp, hb⟩, hF⟩, st⟩ | ⟨q, st₀, t, T', L, E, ce, h0, X', hL, e1, e2, ⟨u, hp, hb, hF⟩, hce, hcv, hcl, st⟩
  · cases hv
    obtain ⟨k1, k2, k3⟩ := vx_keep h0 e1 hS hA hf hL hF
    obtain ⟨t2, a1, b1⟩ := kk u t T'.heap (locs ++ L) e1.symm (by rw [← e2]; exact X'.warmed.alike) hp hb k1 k2 k3 T' rfl X'
    exact ⟨t2, st t2 a1, b1⟩
  · obtain ⟨k1, k2, k3⟩ := vx_keep h0 e1 hS hAX hf hL hF
    obtain ⟨t2, a1, b1⟩ := kx E ce q u t T'.heap (locs ++ L) e1.symm (by rw [← e2]; exact X'.warmed.alike) hp hb k1 k2 k3 (by rw [e1]; exact hce) hcv hcl T' rfl X'
    exact ⟨t2, st.trans a1, b1⟩
/-- caught by the row x of this method's table; the rows ahead don't take it -/
theorem vx_catch_0 : True := trivial
end Rows
section Ends
variable {p : Program} {l : Launch} {e : Env} {R : Room} {s : State} {m : MethodId} {args : Array Value} {below : List Frame} {meth : Method} {c : Code} {H : Heap} {locs : List Loc} {cells slots : Nat} {Q : State → Prop}
variable {mc ms : Nat} {free : Addr → Prop} {A0 A1 : Nat → Prop} {H0 : Heap} {a : Array Value} {ls : Array Slot} {st0 rest : List Value}
variable {Qc : Array Value → State → Outcome → State → Prop} {XC : String → State → State → Prop}
/-- what a body that may throw owes at its end -/
def vx_MQ (below : List Frame) (Qc : Array Value → State → Outcome → State → Prop) (XC : String → State → State → Prop) (a : Array Value) (s : State) (mc ms : Nat) (free : Addr → Prop) : State → Prop := fun t =>
  ∃ o, t.status = .running ∧ Ended t below o ∧ vx_Q Qc XC mc ms free a s o t
theorem vx_ret {g : JFrame} {mc ms : Nat} (k : W p l e R s m args below meth c H locs cells slots (MQ below Qc args s mc ms free) g) : W p l e R s m args below meth c H locs cells slots (vx_MQ below Qc XC args s mc ms free) g := by
  intro T hT X
  obtain ⟨t, a1, o, b1, b2, b3, b4⟩ := k T hT X
  exact ⟨t, a1, o, b1, b2, Or.inl ⟨b3, b4⟩⟩
/-- not caught here: it goes on to the caller -/
theorem vx_widen {g : JFrame} {q : Addr} {k n : Nat} (h1 : cells ≤ k) (h2 : slots ≤ n) (kk : vx_W p l e R s m args below meth c H locs k n Q g q) : vx_W p l e R s m args below meth c H locs cells slots Q g q := fun T hT X => kk T hT (stand_widen X h1 h2)
theorem vx_out {pc : Nat} {E : String} {ce : Cell} {q : Addr} {mc ms : Nat} (hout : ∀ x ∈ c.exceptionTable.toList, covers x pc = false) (hlocks : meth.locks = false) (hcell : H[q]? = some ce) (hv : ce.vm = .none) (hcl : s.vm.findClass E = some ce.cls)
    (hx : ∀ t : State, t.heap = H → s.vm.Alike t.vm → XC E s t) (hf : ∀ z ∈ locs, free z.base) (hc : cells ≤ mc) (hs : slots ≤ ms) :
    vx_W p l e R s m args below meth c H locs cells slots (vx_MQ below Qc XC args s mc ms free) (F0 m pc ls rest) q := by
  intro T hT X
  obtain ⟨st1, hrun, hend, hW, hsm⟩ := X.leaveThrown q (g := F0 m pc ls rest) rfl rfl rfl hout hlocks
  have hcell9 : (T.setFrames (.throwing q :: below)).heap[q]? = some ce := by
    show T.heap[q]? = some ce
    rw [hT]; exact hcell
  exact ⟨_, st1, .threw q, hrun, hend, Or.inr ⟨q, rfl, E, ce, locs, hx _ hT hW.alike, hcell9, hv, hcl, hW, hsm.mono hc hs, hf⟩⟩
theorem vx_frame {U : State} {k n : Nat} (h : s.sameButNew ({ U with vm := s.vm } : State) locs k n) : s.heap.size ≤ U.heap.size ∧ ∀ q : Nat, q < s.heap.size → (∀ z ∈ locs, z.base ≠ q) → U.heap[q]? = s.heap[q]? := by
  obtain ⟨-, h2, -, -, -, h6⟩ := h
  refine ⟨h2, fun q hq hz => ?_⟩
  obtain ⟨c9, e1, e2, e3, e4⟩ := h6 q _ (Array.getElem?_eq_getElem hq)
  have hs : c9.slots = (s.heap[q]).slots := Array.ext_getElem? fun i => e4 i fun hm => hz _ hm rfl
  have h9 : c9 = s.heap[q] := by
    rw [hs] at e2
    exact e2
  have e5 : U.heap[q]? = some c9 := e1
  rw [e5, h9, Array.getElem?_eq_getElem hq]
/-- the words of a throw but the four that speak of the heap -/
def vx_no (w : Cond) : Bool := decide (w ≠ .isRef (.static Bundle.tN "UNASSIGNED_STACK" Bundle.steD)) && decide (w ≠ .isRef (.static Bundle.tN "SUPPRESSED_SENTINEL" Bundle.listD)) && decide (w ≠ .laysStatic Bundle.tN "UNASSIGNED_STACK" Bundle.steD) && decide (w ≠ .laysStatic Bundle.tN "SUPPRESSED_SENTINEL" Bundle.listD)
def vx_at0 (own : String) (ic : Nat) (X : String) (names : List String) : List Cond := (Bundle.ownAtoms0 own ic X names).filter vx_no
def vx_atS (own : String) (ic : Nat) (X : String) (names : List String) : List Cond := (Bundle.ownAtoms own ic X names).filter vx_no
/-- a word that the tables alone decide, or a good one -/
def vx_ot (w : Cond) : Bool := w.onTables || goodWord w
theorem vx_ot_at {args a' : Array Value} {s U : State} {w : Cond} (hW : s.WarmedH U.vm) (hvm : s.vm = U.vm) (hg : vx_ot w = true) (h : w.before args s = true) : w.before a' U = true := by
  simp only [vx_ot, Bool.or_eq_true] at hg
  rcases hg with hg | hg
  · exact va_tabs hg hvm h
  · exact word_at hW (good_of_word hg) h
/-- a list's words: the good ones out of the method's own list, the others by premises of their own -/
theorem vx_hat {args : Array Value} {s : State} {L B : List Cond} (h1 : ∀ w ∈ L.filter goodWord, w.before args s = true) (h2 : ∀ w ∈ L.filter (fun w => !goodWord w), w ∈ B) (h3 : ∀ w ∈ B, w.before args s = true) : ∀ w ∈ L, w.before args s = true := by
  intro w hw
  by_cases g : goodWord w = true
  · exact h1 w (List.mem_filter.mpr ⟨hw, g⟩)
  · refine h3 w (h2 w (List.mem_filter.mpr ⟨hw, ?_⟩))
    show (!goodWord w) = true
    cases hgw : goodWord w
    · rfl
    · exact absurd hgw g
theorem vx_c {args : Array Value} {s : State} {w : Cond} {B : List Cond} (h : w.before args s = true) (t : ∀ w ∈ B, w.before args s = true) : ∀ w' ∈ w :: B, w'.before args s = true := fun w' h' => (List.mem_cons.mp h').elim (fun e => by rw [e]; exact h) (t w')
theorem vx_n {args : Array Value} {s : State} : ∀ w ∈ ([] : List Cond), w.before args s = true := fun _ h => nomatch h
theorem vx_own {args : Array Value} {s : State} {L : List Cond} (h1 : ∀ w ∈ L.filter vx_no, w.before args s = true)
    (hU : (Cond.isRef (.static Bundle.tN "UNASSIGNED_STACK" Bundle.steD)).before args s = true) (hN : (Cond.isRef (.static Bundle.tN "SUPPRESSED_SENTINEL" Bundle.listD)).before args s = true)
    (lU : (Cond.laysStatic Bundle.tN "UNASSIGNED_STACK" Bundle.steD).before args s = true) (lN : (Cond.laysStatic Bundle.tN "SUPPRESSED_SENTINEL" Bundle.listD).before args s = true) : ∀ w ∈ L, w.before args s = true := by
  intro w hw
  by_cases e1 : w = .isRef (.static Bundle.tN "UNASSIGNED_STACK" Bundle.steD)
  · rw [e1]; exact hU
  · by_cases e2 : w = .isRef (.static Bundle.tN "SUPPRESSED_SENTINEL" Bundle.listD)
    · rw [e2]; exact hN
    · by_cases e3 : w = .laysStatic Bundle.tN "UNASSIGNED_STACK" Bundle.steD
      · rw [e3]; exact lU
      · by_cases e4 : w = .laysStatic Bundle.tN "SUPPRESSED_SENTINEL" Bundle.listD
        · rw [e4]; exact lN
        · exact h1 w (List.mem_filter.mpr ⟨hw, by unfold vx_no; rw [decide_eq_true e1, decide_eq_true e2, decide_eq_true e3, decide_eq_true e4]; rfl⟩)
/-- where a static field lies, its class's statics cell in H -/
def vx_L (C n d : String) (A : Nat → Prop) (U : State) (H : Heap) : Prop := ∃ (c : ClassId) (k : Class) (i : Nat) (f : Field) (a : Nat) (cell : Cell), U.vm.findClass C = some c ∧ U.fieldFound? C n d = some (c, k, i, f) ∧ f.isStatic = true ∧ k.statics = some a ∧ H[a]? = some cell ∧ cell.vm.isStatics = true ∧ cell.cls = c ∧ f.slot < cell.slots.size ∧ k.staticTypes[f.slot]? = some f.type ∧ ¬ A a
theorem vx_L.moved {C n d : String} {A : Nat → Prop} {u U : State} {H : Heap} (hvm : u.vm.Alike U.vm) (h : vx_L C n d A u H) : vx_L C n d A U H := by
  obtain ⟨c, k, i, f, a, cell, h1, h2, h3, h4, h5, h6, h7, h8, h9, h10⟩ := h
  obtain ⟨k', hi', he⟩ := State.fieldFound?_setVm hvm h2
  exact ⟨c, k', i, f, a, cell, by rw [hvm.findClass]; exact h1, hi', h3, by rw [he]; exact h4, h5, h6, h7, h8, by rw [he]; exact h9, h10⟩
theorem vx_L.kept {C n d : String} {A : Nat → Prop} {U : State} {H H1 : Heap} (h : vx_L C n d A U H) (hq : ∀ a : Nat, a < H.size → ¬ A a → H1[a]? = H[a]?) : vx_L C n d A U H1 := by
  obtain ⟨c, k, i, f, a, cell, h1, h2, h3, h4, h5, h6, h7, h8, h9, h10⟩ := h
  exact ⟨c, k, i, f, a, cell, h1, h2, h3, h4, by rw [hq a (Array.getElem?_eq_some_iff.mp h5).1 h10]; exact h5, h6, h7, h8, h9, h10⟩
theorem vx_L.narrow {C n d : String} {A B : Nat → Prop} {U : State} {H : Heap} (h : vx_L C n d A U H) (hAB : ∀ q, B q → A q) : vx_L C n d B U H := by
  obtain ⟨c, k, i, f, a, cell, h1, h2, h3, h4, h5, h6, h7, h8, h9, h10⟩ := h
  exact ⟨c, k, i, f, a, cell, h1, h2, h3, h4, h5, h6, h7, h8, h9, fun z => h10 (hAB _ z)⟩
theorem vx_L.word {C n d : String} {A : Nat → Prop} {s : State} {args : Array Value} (h : vx_L C n d A s s.heap) : (Cond.laysStatic C n d).before args s = true := by
  obtain ⟨c, k, i, f, a, cell, h1, h2, h3, h4, h5, h6, h7, h8, h9, -⟩ := h
  show (Cond.laysStatic C n d).holds args s none s [] = true
  exact Cond.laysStatic_of h1 h2 h3 h4 h5 h6 h7 h8 h9
/-- .. and what it holds: null or some reference -/
def vx_Zq (C n d : String) (A : Nat → Prop) (U : State) (H : Heap) : Prop := va_Zq C n d A U H ∧ vx_L C n d A U H
theorem vx_Zq.moved {C n d : String} {A : Nat → Prop} {u U : State} {H : Heap} (hvm : u.vm.Alike U.vm) (h : vx_Zq C n d A u H) : vx_Zq C n d A U H := ⟨va_Zq.moved hvm h.1, vx_L.moved hvm h.2⟩
theorem vx_Zq.kept {C n d : String} {A : Nat → Prop} {U : State} {H H1 : Heap} (h : vx_Zq C n d A U H) (hq : ∀ a : Nat, a < H.size → ¬ A a → H1[a]? = H[a]?) : vx_Zq C n d A U H1 := ⟨va_Zq.kept h.1 hq, vx_L.kept h.2 hq⟩
theorem vx_Zq.narrow {C n d : String} {A B : Nat → Prop} {U : State} {H : Heap} (h : vx_Zq C n d A U H) (hAB : ∀ q, B q → A q) : vx_Zq C n d B U H := ⟨va_Zq.narrow h.1 hAB, vx_L.narrow h.2 hAB⟩
theorem vx_Zqof {args : Array Value} {s : State} {C n d : String} {A : Nat → Prop} (hl : (Cond.laysStatic C n d).before args s = true) (hini : (Cond.initialized C).before args s = true) (h : (Cond.isRef (.static C n d)).before args s = true) (hA : ∀ a : Nat, a < s.heap.size → ¬ A a) : vx_Zq C n d A s s.heap := by
  refine ⟨va_Zqof hl hini h hA, ?_⟩
  obtain ⟨c, k, i, f, a, cell, h1, h2, h3, h4, h5, h6, h7, h8, h9⟩ := Cond.laysStatic_spec hl
  exact ⟨c, k, i, f, a, cell, h1, h2, h3, h4, h5, h6, h7, h8, h9, hA a (Array.getElem?_eq_some_iff.mp h5).1⟩
theorem vx_isRef {C n d : String} {v : Value} {A : Nat → Prop} {s : State} {args : Array Value} (h : va_Z C n d v A s s.heap) (hv : v.isRef = true) : (Cond.isRef (.static C n d)).before args s = true := by
  obtain ⟨cf, kf, fi, f, a, cell, h1, h2, h3, h4, h5, h6, h7, -⟩ := h
  have he : (Term.static C n d).eval args s none [] s = some v := by
    simp [Term.eval, State.fieldNamed?, h1, h2, h4, h5, h6, h7]
  simp only [Cond.before, Cond.holds, Cond.value, he]
  cases v <;> simp_all [Value.isRef]
theorem vx_isRefq {C n d : String} {A : Nat → Prop} {s : State} {args : Array Value} (h : va_Zq C n d A s s.heap) : (Cond.isRef (.static C n d)).before args s = true := by
  rcases h with h | ⟨t, h⟩
  · exact vx_isRef h rfl
  · exact vx_isRef h rfl
/-- the same frame, seen from here: as if the method were called anew in this heap -/
theorem vx_rebase {T : State} (X : Stand p l e R s m args below meth c T locs cells slots) {R' : Room} (hf : R'.frames ≤ R.frames) (hl : R'.locals ≤ R.locals) (hc : cells + R'.cells ≤ R.cells) (hs : slots + R'.slots ≤ R.slots) :
    Stand p l e R' ((T.setVm s.vm).setFrames (.invoking m args :: below)) m args below meth c T [] 0 0 := by
  have htop : (T.setVm s.vm).topJava?.isSome := X.here.top
  have hF : ((T.setVm s.vm).setFrames (.invoking m args :: below)).frames = .invoking m args :: below := State.frames_setFrames _ (State.cur_lt_of_top htop)
  obtain ⟨g₀, hg0⟩ := Option.isSome_iff_exists.mp htop
  obtain ⟨r, hr⟩ := State.topJava?_eq_some.mp hg0
  have hl9 : e.platform.stackLimits (T.setVm s.vm).me = e.platform.stackLimits s.me := X.limits
  have hb9 : (T.setVm s.vm).me.stackBytes = s.me.stackBytes := X.bytes
  refine ⟨X.admits, X.cas, X.clock, hF, ?_, X.hears, X.method, X.code, X.here, X.tail, X.warmed, ?_, ?_, ?_⟩
  · have h := X.room
    have hU : ((T.setVm s.vm).setFrames (.invoking m args :: below)).localsInUse = s.localsInUse := by
      rw [State.localsInUse_invoking hF (meth := meth) (c := c) X.method X.code, State.localsInUse_invoking X.frames X.method X.code]
    simp only [State.hasRoom, Bool.and_eq_true, decide_eq_true_eq] at h ⊢
    obtain ⟨⟨⟨⟨h1, h2, h3, h4, h5, h6⟩, h7⟩, h8⟩, h9⟩ := h
    rw [X.frames, List.length_cons] at h2 h3
    have q1 := X.heapSize
    have q2 := X.used
    simp only [hF, hU, List.length_cons, State.stackLimits_setFrames, State.stackBytes_setFrames, hl9, hb9]
    refine ⟨⟨⟨⟨by omega, by omega, by omega, by omega, by omega, h6⟩, ?_⟩, ?_⟩, X.book⟩
    · show T.heap.size + R'.cells ≤ e.platform.maxCells
      omega
    · show T.slotsUsed + R'.slots ≤ e.platform.maxSlots
      omega
  · rw [State.stackLimits_setFrames]; rfl
  · rw [State.stackBytes_setFrames]; rfl
  · refine ⟨?_, Nat.le_refl _, Nat.le_refl _, ?_, ?_, fun a c9 h9 => ⟨c9, h9, rfl, rfl, fun _ _ => rfl⟩⟩
    · obtain ⟨t, ht, -⟩ := State.frames_cons hr
      show T.setVm s.vm = { ((T.setVm s.vm).setFrames (.invoking m args :: below)).setFrames (T.setVm s.vm).frames with heap := T.heap, slotsUsed := T.slotsUsed }
      rw [State.setFrames_setFrames, State.setFrames_self ht]
      rfl
    · show T.slotsUsed = T.slotsUsed + ((T.heap.toList.drop T.heap.size).map (·.slots.size)).sum
      rw [List.drop_eq_nil_of_le (Nat.le_of_eq Array.length_toList)]
      rfl
    · show ((T.heap.toList.drop T.heap.size).map (·.slots.size)).sum ≤ 0
      rw [List.drop_eq_nil_of_le (Nat.le_of_eq Array.length_toList)]
      exact Nat.le_refl _
/-- 'throw new E()': new; dup; invokespecial; athrow -/
theorem vx_throw0 {cc : ByteArray} {pc : Nat} (hexec : p.tables.exec = Jvm.exec) (hb : c.code = cc) (hl : l.stackTraces = false) {own cls : String} {names : List String} {ik ic mc ms : Nat} {A : Nat → Prop}
    (hown : s.vm.findClass own = some m.cls) (hcls : Bundle.fit cls = true) (hnames : ∀ n ∈ names, Bundle.fit n = true)
    (hk : (Cond.classLink own ik cls).before args s = true) (hini : (Cond.initialized cls).before args s = true) (hat : ∀ w ∈ vx_at0 own ic cls names, w.before args s = true)
    (hgood : ∀ w ∈ Cond.classLink own ik cls :: Cond.initialized cls :: vx_at0 own ic cls names, vx_ot w = true)
    (hU : vx_Zq Bundle.tN "UNASSIGNED_STACK" Bundle.steD A s s.heap) (hN : vx_Zq Bundle.tN "SUPPRESSED_SENTINEL" Bundle.listD A s s.heap) (hS : va_S A s.heap H locs) (hsize : ls.size = c.maxLocals)
    (d0 : decode cc pc = .ok (.new ik, 3)) (d3 : decode cc (pc + 3) = .ok (.dup, 1)) (d4 : decode cc (pc + 4) = .ok (.invokespecial ic, 3)) (d7 : decode cc (pc + 7) = .ok (.athrow, 1))
    (hout : ∀ x ∈ c.exceptionTable.toList, covers x (pc + 7) = false)
    (hRframes : names.length + 3 < R.frames) (hRlocals : (rest.map fun v => v.category).sum + (13 * (names.length + 1) + 42) ≤ R.locals) (hRcells : cells + 1 ≤ R.cells) (hRslots : slots + 6 ≤ R.slots) (hlocks : meth.locks = false)
    (hx : ∀ t : State, s.vm.Alike t.vm → H.size ≤ t.heap.size → (∀ q : Nat, q < H.size → t.heap[q]? = H[q]?) → XC cls s t)
    (hf : ∀ z ∈ locs, free z.base) (hc : cells + 1 ≤ mc) (hs : slots + 6 ≤ ms) :
    W p l e R s m args below meth c H locs cells slots (vx_MQ below Qc XC args s mc ms free) (F0 m pc ls rest) := by
  intro T hT X
  have htr : e.platform.stackTraces = false := (show e.platform.stackTraces = l.stackTraces by rw [X.admits.platform]).trans hl
  have Y := vx_rebase X (R' := { frames := R.frames, locals := R.locals, cells := 1, slots := 6 }) (Nat.le_refl _) (Nat.le_refl _) hRcells hRslots
  obtain ⟨s', hA⟩ : ∃ z, z = (T.setVm s.vm).setFrames (.invoking m args :: below) := ⟨_, rfl⟩
  rw [← hA] at Y
  have hvm : s'.vm = s.vm := by rw [hA]; rfl
  have hhp : s'.heap = H := by rw [hA]; exact hT
  have hW0 : s.WarmedH s'.vm := by rw [hvm]; exact State.WarmedH.refl s
  have hat' : ∀ w ∈ vx_at0 own ic cls names, w.before args s' = true := fun w hw => vx_ot_at hW0 hvm.symm (hgood w (List.mem_cons_of_mem _ (List.mem_cons_of_mem _ hw))) (hat w hw)
  have hk' : (Cond.classLink own ik cls).before args s' = true := vx_ot_at hW0 hvm.symm (hgood _ List.mem_cons_self) hk
  have hini' : (Cond.initialized cls).before args s' = true := vx_ot_at hW0 hvm.symm (hgood _ (List.mem_cons_of_mem _ List.mem_cons_self)) hini
  have hU' : vx_Zq Bundle.tN "UNASSIGNED_STACK" Bundle.steD A s' s'.heap := by rw [hhp]; exact vx_Zq.moved hW0.alike (hU.kept hS.2.1)
  have hN' : vx_Zq Bundle.tN "SUPPRESSED_SENTINEL" Bundle.listD A s' s'.heap := by rw [hhp]; exact vx_Zq.moved hW0.alike (hN.kept hS.2.1)
  have h : ∀ w ∈ Bundle.ownAtoms0 own ic cls names, w.before args s' = true := vx_own hat' (vx_isRefq hU'.1) (vx_isRefq hN'.1) hU'.2.word hN'.2.word
  have hown' : s'.vm.findClass own = some m.cls := by rw [hvm]; exact hown
  have hins : (Cond.instantiable cls 6).before args s' = true := h _ (by simp [Bundle.ownAtoms0])
  obtain ⟨vm₁, cX, kX, hfX, hkX, -, -, X₁, st1⟩ := Y.newCold hexec (own := own) (C := cls) (index := ik) (n := 6) hown' hk' hins hini'
    (g := F0 m pc ls rest) rfl (by rw [hb]; exact d0) (Nat.le_refl _) (Nat.le_refl _)
  generalize hT1 : (T.setVm vm₁).pushCell { cls := cX, slots := kX.instanceTypes.map defaultValue, vm := .none } = T1 at X₁ st1
  have hcat : (Value.ref T.heap.size).category = 1 := rfl
  have hcellA : T1.heap[T.heap.size]? = some (freshCell cX kX) := by rw [← hT1]; exact State.heap_pushCell_size _ _
  have d3' : decode c.code (pc + 3) = .ok (.dup, 1) := by rw [hb]; exact d3
  obtain ⟨U, hsteps, hrun, hend, hW, hsame, ce, hce, hO⟩ := X₁.ctorThrow0 hexec htr (own := own) (cls := cls) (names := names) (ic := ic) hown' hcls hnames h (fun x hx => nomatch hx) hfX hkX hcellA (by rw [hhp, hT]; exact Nat.le_refl _)
    (g := { method := m, pc := pc + 4, locals := ls, stack := .ref T.heap.size :: .ref T.heap.size :: rest, locked := none }) rfl hsize rfl rfl (rest := rest) rfl
    (by rw [hb]; exact d4) (by rw [hb]; exact d7) hout hRframes (by simp only [List.map_cons, List.sum_cons, hcat]; omega) hlocks
  obtain ⟨f1, f2⟩ := vx_frame hsame
  rw [hhp] at f1 f2
  have hWs : s.WarmedH U.vm := State.WarmedH.trans hW0 hW
  have hcl : s.vm.findClass cls = some ce.cls := by
    have h9 := hO.cls
    rw [hvm] at h9
    exact h9
  have hall : s.sameButNew ({ U with vm := s.vm } : State) locs mc ms := by
    subst hA
    obtain ⟨e1, e2⟩ := hsame
    rw [State.setFrames_setFrames] at e1
    have h2 : (T.setVm s.vm).sameButNew ({ U with vm := s.vm } : State) [] (0 + 1) (0 + 6) := ⟨e1, e2⟩
    have h3 := X.same.trans h2
    rw [List.append_nil] at h3
    exact h3.mono hc hs
  refine ⟨U, ?_, .threw T.heap.size, hrun, hend, Or.inr ⟨T.heap.size, rfl, cls, ce, locs, hx U hWs.alike f1 (fun q hq => f2 q hq (fun z hz => nomatch hz)), hce, hO.vm, hcl, hWs, hall, hf⟩⟩
  refine st1 _ ?_
  show Steps p.tables e below (T1.setTop { method := m, pc := pc + 3, locals := ls, stack := .ref T.heap.size :: rest, locked := none }) _
  jvm_step X₁.here [X₁.here.top, hexec, d3', Value.category]
  exact hsteps
/-- 'throw new E("text")': new; dup; ldc; invokespecial; athrow -/
theorem vx_throwS {cc : ByteArray} {pc : Nat} (hexec : p.tables.exec = Jvm.exec) (hb : c.code = cc) (hl : l.stackTraces = false) {own cls text : String} {names : List String} {ik is ic mc ms sa : Nat} {A : Nat → Prop}
    (hown : s.vm.findClass own = some m.cls) (hcls : Bundle.fit cls = true) (hnames : ∀ n ∈ names, Bundle.fit n = true)
    (hk : (Cond.classLink own ik cls).before args s = true) (hini : (Cond.initialized cls).before args s = true) (hstr : vk_R own is text sa s) (hat : ∀ w ∈ vx_atS own ic cls names, w.before args s = true)
    (hgood : ∀ w ∈ Cond.classLink own ik cls :: Cond.initialized cls :: vx_atS own ic cls names, vx_ot w = true)
    (hU : vx_Zq Bundle.tN "UNASSIGNED_STACK" Bundle.steD A s s.heap) (hN : vx_Zq Bundle.tN "SUPPRESSED_SENTINEL" Bundle.listD A s s.heap) (hS : va_S A s.heap H locs) (hsize : ls.size = c.maxLocals)
    (d0 : decode cc pc = .ok (.new ik, 3)) (d3 : decode cc (pc + 3) = .ok (.dup, 1)) (d4 : decode cc (pc + 4) = .ok (.ldc is, 2)) (d6 : decode cc (pc + 6) = .ok (.invokespecial ic, 3)) (d9 : decode cc (pc + 9) = .ok (.athrow, 1))
    (hout : ∀ x ∈ c.exceptionTable.toList, covers x (pc + 9) = false)
    (hRframes : names.length + 3 < R.frames) (hRlocals : (rest.map fun v => v.category).sum + (13 * (names.length + 1) + 43) ≤ R.locals) (hRcells : cells + 1 ≤ R.cells) (hRslots : slots + 6 ≤ R.slots) (hlocks : meth.locks = false)
    (hx : ∀ t : State, s.vm.Alike t.vm → H.size ≤ t.heap.size → (∀ q : Nat, q < H.size → t.heap[q]? = H[q]?) → XC cls s t)
    (hf : ∀ z ∈ locs, free z.base) (hc : cells + 1 ≤ mc) (hs : slots + 6 ≤ ms) :
    W p l e R s m args below meth c H locs cells slots (vx_MQ below Qc XC args s mc ms free) (F0 m pc ls rest) := by
  intro T hT X
  have htr : e.platform.stackTraces = false := (show e.platform.stackTraces = l.stackTraces by rw [X.admits.platform]).trans hl
  have Y := vx_rebase X (R' := { frames := R.frames, locals := R.locals, cells := 1, slots := 6 }) (Nat.le_refl _) (Nat.le_refl _) hRcells hRslots
  obtain ⟨s', hA⟩ : ∃ z, z = (T.setVm s.vm).setFrames (.invoking m args :: below) := ⟨_, rfl⟩
  rw [← hA] at Y
  have hvm : s'.vm = s.vm := by rw [hA]; rfl
  have hhp : s'.heap = H := by rw [hA]; exact hT
  have hW0 : s.WarmedH s'.vm := by rw [hvm]; exact State.WarmedH.refl s
  have hat' : ∀ w ∈ vx_atS own ic cls names, w.before args s' = true := fun w hw => vx_ot_at hW0 hvm.symm (hgood w (List.mem_cons_of_mem _ (List.mem_cons_of_mem _ hw))) (hat w hw)
  have hk' : (Cond.classLink own ik cls).before args s' = true := vx_ot_at hW0 hvm.symm (hgood _ List.mem_cons_self) hk
  have hini' : (Cond.initialized cls).before args s' = true := vx_ot_at hW0 hvm.symm (hgood _ (List.mem_cons_of_mem _ List.mem_cons_self)) hini
  have hU' : vx_Zq Bundle.tN "UNASSIGNED_STACK" Bundle.steD A s' s'.heap := by rw [hhp]; exact vx_Zq.moved hW0.alike (hU.kept hS.2.1)
  have hN' : vx_Zq Bundle.tN "SUPPRESSED_SENTINEL" Bundle.listD A s' s'.heap := by rw [hhp]; exact vx_Zq.moved hW0.alike (hN.kept hS.2.1)
  have h : ∀ w ∈ Bundle.ownAtoms own ic cls names, w.before args s' = true := vx_own hat' (vx_isRefq hU'.1) (vx_isRefq hN'.1) hU'.2.word hN'.2.word
  have hown' : s'.vm.findClass own = some m.cls := by rw [hvm]; exact hown
  have hins : (Cond.instantiable cls 6).before args s' = true := h _ (by simp [Bundle.ownAtoms])
  obtain ⟨vm₁, cX, kX, hfX, hkX, -, -, X₁, st1⟩ := Y.newCold hexec (own := own) (C := cls) (index := ik) (n := 6) hown' hk' hins hini'
    (g := F0 m pc ls rest) rfl (by rw [hb]; exact d0) (Nat.le_refl _) (Nat.le_refl _)
  generalize hT1 : (T.setVm vm₁).pushCell { cls := cX, slots := kX.instanceTypes.map defaultValue, vm := .none } = T1 at X₁ st1
  have hcat : (Value.ref T.heap.size).category = 1 := rfl
  have hcellA : T1.heap[T.heap.size]? = some (freshCell cX kX) := by rw [← hT1]; exact State.heap_pushCell_size _ _
  have d3' : decode c.code (pc + 3) = .ok (.dup, 1) := by rw [hb]; exact d3
  have d4' : decode c.code (pc + 4) = .ok (.ldc is, 2) := by rw [hb]; exact d4
  have hstr' : vk_R own is text sa s' := vk_R.warm hW0 hstr
  obtain ⟨U, hsteps, hrun, hend, hW, hsame, ce, hce, hO⟩ := X₁.ctorThrowS hexec htr (own := own) (cls := cls) (names := names) (ic := ic) hown' hcls hnames h (fun x hx => nomatch hx) hfX hkX hcellA (by rw [hhp, hT]; exact Nat.le_refl _) (msg := .ref sa) rfl
    (g := { method := m, pc := pc + 6, locals := ls, stack := .ref sa :: .ref T.heap.size :: .ref T.heap.size :: rest, locked := none }) rfl hsize rfl rfl (rest := rest) rfl
    (by rw [hb]; exact d6) (by rw [hb]; exact d9) hout hRframes (by simp only [List.map_cons, List.sum_cons, hcat]; omega) hlocks
  obtain ⟨f1, f2⟩ := vx_frame hsame
  rw [hhp] at f1 f2
  have hWs : s.WarmedH U.vm := State.WarmedH.trans hW0 hW
  have hcl : s.vm.findClass cls = some ce.cls := by
    have h9 := hO.cls
    rw [hvm] at h9
    exact h9
  have hall : s.sameButNew ({ U with vm := s.vm } : State) locs mc ms := by
    subst hA
    obtain ⟨e1, e2⟩ := hsame
    rw [State.setFrames_setFrames] at e1
    have h2 : (T.setVm s.vm).sameButNew ({ U with vm := s.vm } : State) [] (0 + 1) (0 + 6) := ⟨e1, e2⟩
    have h3 := X.same.trans h2
    rw [List.append_nil] at h3
    exact h3.mono hc hs
  refine ⟨U, ?_, .threw T.heap.size, hrun, hend, Or.inr ⟨T.heap.size, rfl, cls, ce, locs, hx U hWs.alike f1 (fun q hq => f2 q hq (fun z hz => nomatch hz)), hce, hO.vm, hcl, hWs, hall, hf⟩⟩
  refine st1 _ ?_
  show Steps p.tables e below (T1.setTop { method := m, pc := pc + 3, locals := ls, stack := .ref T.heap.size :: rest, locked := none }) _
  jvm_step X₁.here [X₁.here.top, hexec, d3', Value.category]
  exact X₁.ldcString hexec (own := own) (text := text) (index := is) (a := sa) hown' hstr'.1 hstr'.2
    (g := { method := m, pc := pc + 4, locals := ls, stack := .ref T.heap.size :: .ref T.heap.size :: rest, locked := none }) rfl d4' _ hsteps
/-- 'throw new E("text")', the text by a wide index -/
theorem vx_throwSW {cc : ByteArray} {pc : Nat} (hexec : p.tables.exec = Jvm.exec) (hb : c.code = cc) (hl : l.stackTraces = false) {own cls text : String} {names : List String} {ik is ic mc ms sa : Nat} {A : Nat → Prop}
    (hown : s.vm.findClass own = some m.cls) (hcls : Bundle.fit cls = true) (hnames : ∀ n ∈ names, Bundle.fit n = true)
    (hk : (Cond.classLink own ik cls).before args s = true) (hini : (Cond.initialized cls).before args s = true) (hstr : vk_R own is text sa s) (hat : ∀ w ∈ vx_atS own ic cls names, w.before args s = true)
    (hgood : ∀ w ∈ Cond.classLink own ik cls :: Cond.initialized cls :: vx_atS own ic cls names, vx_ot w = true)
    (hU : vx_Zq Bundle.tN "UNASSIGNED_STACK" Bundle.steD A s s.heap) (hN : vx_Zq Bundle.tN "SUPPRESSED_SENTINEL" Bundle.listD A s s.heap) (hS : va_S A s.heap H locs) (hsize : ls.size = c.maxLocals)
    (d0 : decode cc pc = .ok (.new ik, 3)) (d3 : decode cc (pc + 3) = .ok (.dup, 1)) (d4 : decode cc (pc + 4) = .ok (.ldc_w is, 3)) (d7 : decode cc (pc + 7) = .ok (.invokespecial ic, 3)) (d10 : decode cc (pc + 10) = .ok (.athrow, 1))
    (hout : ∀ x ∈ c.exceptionTable.toList, covers x (pc + 10) = false)
    (hRframes : names.length + 3 < R.frames) (hRlocals : (rest.map fun v => v.category).sum + (13 * (names.length + 1) + 43) ≤ R.locals) (hRcells : cells + 1 ≤ R.cells) (hRslots : slots + 6 ≤ R.slots) (hlocks : meth.locks = false)
    (hx : ∀ t : State, s.vm.Alike t.vm → H.size ≤ t.heap.size → (∀ q : Nat, q < H.size → t.heap[q]? = H[q]?) → XC cls s t)
    (hf : ∀ z ∈ locs, free z.base) (hc : cells + 1 ≤ mc) (hs : slots + 6 ≤ ms) :
    W p l e R s m args below meth c H locs cells slots (vx_MQ below Qc XC args s mc ms free) (F0 m pc ls rest) := by
  intro T hT X
  have htr : e.platform.stackTraces = false := (show e.platform.stackTraces = l.stackTraces by rw [X.admits.platform]).trans hl
  have Y := vx_rebase X (R' := { frames := R.frames, locals := R.locals, cells := 1, slots := 6 }) (Nat.le_refl _) (Nat.le_refl _) hRcells hRslots
  obtain ⟨s', hA⟩ : ∃ z, z = (T.setVm s.vm).setFrames (.invoking m args :: below) := ⟨_, rfl⟩
  rw [← hA] at Y
  have hvm : s'.vm = s.vm := by rw [hA]; rfl
  have hhp : s'.heap = H := by rw [hA]; exact hT
  have hW0 : s.WarmedH s'.vm := by rw [hvm]; exact State.WarmedH.refl s
  have hat' : ∀ w ∈ vx_atS own ic cls names, w.before args s' = true := fun w hw => vx_ot_at hW0 hvm.symm (hgood w (List.mem_cons_of_mem _ (List.mem_cons_of_mem _ hw))) (hat w hw)
  have hk' : (Cond.classLink own ik cls).before args s' = true := vx_ot_at hW0 hvm.symm (hgood _ List.mem_cons_self) hk
  have hini' : (Cond.initialized cls).before args s' = true := vx_ot_at hW0 hvm.symm (hgood _ (List.mem_cons_of_mem _ List.mem_cons_self)) hini
  have hU' : vx_Zq Bundle.tN "UNASSIGNED_STACK" Bundle.steD A s' s'.heap := by rw [hhp]; exact vx_Zq.moved hW0.alike (hU.kept hS.2.1)
  have hN' : vx_Zq Bundle.tN "SUPPRESSED_SENTINEL" Bundle.listD A s' s'.heap := by rw [hhp]; exact vx_Zq.moved hW0.alike (hN.kept hS.2.1)
  have h : ∀ w ∈ Bundle.ownAtoms own ic cls names, w.before args s' = true := vx_own hat' (vx_isRefq hU'.1) (vx_isRefq hN'.1) hU'.2.word hN'.2.word
  have hown' : s'.vm.findClass own = some m.cls := by rw [hvm]; exact hown
  have hins : (Cond.instantiable cls 6).before args s' = true := h _ (by simp [Bundle.ownAtoms])
  obtain ⟨vm₁, cX, kX, hfX, hkX, -, -, X₁, st1⟩ := Y.newCold hexec (own := own) (C := cls) (index := ik) (n := 6) hown' hk' hins hini'
    (g := F0 m pc ls rest) rfl (by rw [hb]; exact d0) (Nat.le_refl _) (Nat.le_refl _)
  generalize hT1 : (T.setVm vm₁).pushCell { cls := cX, slots := kX.instanceTypes.map defaultValue, vm := .none } = T1 at X₁ st1
  have hcat : (Value.ref T.heap.size).category = 1 := rfl
  have hcellA : T1.heap[T.heap.size]? = some (freshCell cX kX) := by rw [← hT1]; exact State.heap_pushCell_size _ _
  have d3' : decode c.code (pc + 3) = .ok (.dup, 1) := by rw [hb]; exact d3
  have d4' : decode c.code (pc + 4) = .ok (.ldc_w is, 3) := by rw [hb]; exact d4
  have hstr' : vk_R own is text sa s' := vk_R.warm hW0 hstr
  obtain ⟨U, hsteps, hrun, hend, hW, hsame, ce, hce, hO⟩ := X₁.ctorThrowS hexec htr (own := own) (cls := cls) (names := names) (ic := ic) hown' hcls hnames h (fun x hx => nomatch hx) hfX hkX hcellA (by rw [hhp, hT]; exact Nat.le_refl _) (msg := .ref sa) rfl
    (g := { method := m, pc := pc + 7, locals := ls, stack := .ref sa :: .ref T.heap.size :: .ref T.heap.size :: rest, locked := none }) rfl hsize rfl rfl (rest := rest) rfl
    (by rw [hb]; exact d7) (by rw [hb]; exact d10) hout hRframes (by simp only [List.map_cons, List.sum_cons, hcat]; omega) hlocks
  obtain ⟨f1, f2⟩ := vx_frame hsame
  rw [hhp] at f1 f2
  have hWs : s.WarmedH U.vm := State.WarmedH.trans hW0 hW
  have hcl : s.vm.findClass cls = some ce.cls := by
    have h9 := hO.cls
    rw [hvm] at h9
    exact h9
  have hall : s.sameButNew ({ U with vm := s.vm } : State) locs mc ms := by
    subst hA
    obtain ⟨e1, e2⟩ := hsame
    rw [State.setFrames_setFrames] at e1
    have h2 : (T.setVm s.vm).sameButNew ({ U with vm := s.vm } : State) [] (0 + 1) (0 + 6) := ⟨e1, e2⟩
    have h3 := X.same.trans h2
    rw [List.append_nil] at h3
    exact h3.mono hc hs
  refine ⟨U, ?_, .threw T.heap.size, hrun, hend, Or.inr ⟨T.heap.size, rfl, cls, ce, locs, hx U hWs.alike f1 (fun q hq => f2 q hq (fun z hz => nomatch hz)), hce, hO.vm, hcl, hWs, hall, hf⟩⟩
  refine st1 _ ?_
  show Steps p.tables e below (T1.setTop { method := m, pc := pc + 3, locals := ls, stack := .ref T.heap.size :: rest, locked := none }) _
  jvm_step X₁.here [X₁.here.top, hexec, d3', Value.category]
  exact X₁.ldcStringW hexec (own := own) (text := text) (index := is) (a := sa) hown' hstr'.1 hstr'.2
    (g := { method := m, pc := pc + 4, locals := ls, stack := .ref T.heap.size :: .ref T.heap.size :: rest, locked := none }) rfl d4' _ hsteps
end Ends
section Bodies
variable {l : Launch}
theorem vx_ofW {y : MethodName} {ws ws' : List Cond} {rm : Room} {Pc : Array Value → State → Prop} {Qc : Array Value → State → Outcome → State → Prop} {XC : String → State → State → Prop} {mc ms : Nat} {free : Addr → Prop} {cc : ByteArray} {maxL : Nat} {ret : Option FieldType}
    (hy : plainName y.cls = true) (hw : ws = Cond.code y cc maxL ret :: ws')
    (body : ∀ p e s m args below meth c s₁, BodyLoose p l y (headSpec ws rm) cc maxL ret e s m args below meth c s₁ → c.maxLocals = maxL → (∀ x ∈ c.exceptionTable.toList, False) → Pc args s →
      W p l e (headSpec ws rm).room s m args below meth c s.heap [] 0 0 (vx_MQ below Qc XC args s mc ms free) (entryFrame m args maxL)) : vx_Met l y ws rm Pc Qc XC mc ms free := by
  refine MetFree.of_bodyS (code := cc) (maxLocals := maxL) (ret := ret) hy ?_ ?_
  · intro args s m h hn
    obtain ⟨meth, c, h1, h2, h3, h4, h5, h6, -, -⟩ := Cond.code_spec hn (atoms_spec (ws := ws) h _ (by rw [hw]; exact List.mem_cons_self))
    exact ⟨meth, c, h1, h2, h3, h4, h5, h6⟩
  · intro p e s m args below meth c s₁ B hml hP _
    have hh0 : s₁.heap = s.heap := by rw [B.state]; rfl
    have ht : ∀ x ∈ c.exceptionTable.toList, False := by
      obtain ⟨meth9, c9, h1, h2, -, -, -, -, h7, -⟩ := Cond.code_spec B.named (atoms_spec (ws := ws) B.pre _ (by rw [hw]; exact List.mem_cons_self))
      cases Option.some.inj (h1.symm.trans B.method)
      cases Option.some.inj (h2.symm.trans (Stand.of_body B).code)
      intro x hx
      rw [Array.isEmpty_iff.mp h7] at hx
      cases hx
    obtain ⟨t, a1, o, b1, b2, b3⟩ := body p e s m args below meth c s₁ B hml ht hP s₁ hh0 (Stand.of_body B)
    exact ⟨t, o, a1, b1, b2, b3⟩
/-- the table of a body with handlers -/
theorem vx_table {p : Program} {x y : MethodName} {S : Spec} {cc bytes : ByteArray} {maxL maxL' : Nat} {ret ret' : Option FieldType} {e : Env} {s s₁ : State} {m : MethodId} {args : Array Value} {below : List Frame} {meth : Method} {c : Code} {hh : List (Nat × Nat × Nat × Nat)}
    (B : BodyLoose p l y S cc maxL ret e s m args below meth c s₁) (h : (Cond.codeWith y bytes maxL' ret' hh).before args s = true) : c.exceptionTable.toList = tableOf hh := by
  obtain ⟨m9, meth9, c9, hn9, h1, h2, -, -, h6, -⟩ := Cond.codeWith_spec h
  cases Option.some.inj (hn9.symm.trans B.named)
  cases Option.some.inj (h1.symm.trans B.method)
  cases Option.some.inj (h2.symm.trans (Stand.of_body B).code)
  rw [← h6, table_eq]
end Bodies
end VXA
/-! ===== END ===== -/
/-! ===== BEGIN a static call of a method with an exception table ===== -/
section VXS
variable {p : Program} {l : Launch} {e : Env} {R : Room} {s : State} {m : MethodId} {args : Array Value} {below : List Frame} {meth : Method} {c : Code} {T : State} {H : Heap} {locs : List Loc} {cells slots : Nat}
abbrev vx_CSW (R : Room) (s : State) (args : Array Value) (own : String) (index : Nat) (y : MethodName) (bytes : ByteArray) (maxL : Nat) (ret : Option FieldType) (hh : List (Nat × Nat × Nat × Nat)) (ws : List Cond) (rm : Room) (mc ms n : Nat) : Prop :=
  (rm.cells = mc ∧ rm.slots = ms ∧ rm.frames + 1 ≤ R.frames ∧ 8 + (maxL + 11) + rm.locals ≤ R.locals ∧ (∀ w ∈ ws, ∀ (a' : Array Value) (U : State), s.WarmedH U.vm → w.before a' U = true) ∧ Cond.codeWith y bytes maxL ret hh ∈ ws) ∧
  (Cond.codeWith y bytes maxL ret hh).before args s = true ∧ (Cond.initialized y.cls).before args s = true ∧ (y.cls ≠ "java/lang/invoke/MethodHandle" ∧ y.cls ≠ "java/lang/invoke/VarHandle") ∧
  (∀ sig, parseMethodDescriptor y.desc = some sig → n = sig.parameters.length) ∧ (Cond.methodLink own index y).before args s = true ∧ (Cond.static y).before args s = true
theorem vx_cwSW {own : String} {index maxL mc ms : Nat} {y : MethodName} {bytes : ByteArray} {ret : Option FieldType} {hh : List (Nat × Nat × Nat × Nat)} {Ts ws ws' : List Cond} {rm : Room} (n : Nat) (ht : ∀ w ∈ Ts, w.before args s = true) (hT : GoodIn Ts (va_wsS own index y ws)) (hw : ws = Cond.codeWith y bytes maxL ret hh :: ws') (hrc : rm.cells = mc) (hrs : rm.slots = ms)
    (hd : y.cls ≠ "java/lang/invoke/MethodHandle" ∧ y.cls ≠ "java/lang/invoke/VarHandle" ∧ (parseMethodDescriptor y.desc).map (fun d => d.parameters.length) = some n) (hR : rm.frames + 1 ≤ R.frames ∧ 8 + (maxL + 11) + rm.locals ≤ R.locals) :
    vx_CSW R s args own index y bytes maxL ret hh ws rm mc ms n := by
  have ok : ∀ w ∈ va_wsS own index y ws, w.before args s = true := fun w h => ht w (hT w h).1
  have hG : GoodIn Ts ws := fun w h => hT w (by unfold va_wsS; exact List.mem_append_right _ h)
  have hc : Cond.codeWith y bytes maxL ret hh ∈ ws := by rw [hw]; exact List.mem_cons_self
  refine ⟨⟨hrc, hrs, hR.1, hR.2, pay_in ht hG, hc⟩, ht _ (hG _ hc).1, ok _ (by simp [va_wsS]), ⟨hd.1, hd.2.1⟩, fun sig h => ?_, ok _ (by simp [va_wsS]), ok _ (by simp [va_wsS])⟩
  have h2 := hd.2.2
  rw [h] at h2
  exact (Option.some.inj h2).symm
theorem vx_callSW (X : Stand p l e R s m args below meth c T locs cells slots) (hexec : p.tables.exec = Jvm.exec) {own : String} {index : Nat} {y : MethodName} {bytes : ByteArray} {maxL : Nat} {ret : Option FieldType} {hh : List (Nat × Nat × Nat × Nat)}
    (hown : s.vm.findClass own = some m.cls) (hlink : (Cond.methodLink own index y).before args s = true) (hstat : (Cond.static y).before args s = true) (hinit : (Cond.initialized y.cls).before args s = true)
    (hcode : (Cond.codeWith y bytes maxL ret hh).before args s = true) (hy : y.cls ≠ "java/lang/invoke/MethodHandle" ∧ y.cls ≠ "java/lang/invoke/VarHandle")
    {W9 : Nat} {Pre : Pt → Array Value → Prop} {Post : Pt → Array Value → Option Value → Pt → Prop} (hK : Back l R p e below s args y 3 W9 Pre Post)
    {g : JFrame} (hg : g.method = m) (hsize : g.locals.size = c.maxLocals) {argsL rest : List Value} (hlen : ∀ sig, parseMethodDescriptor y.desc = some sig → argsL.length = sig.parameters.length)
    (hstack : g.stack = argsL.reverse ++ rest) (hW : 2 * g.monitorRoom + (rest.map fun v => v.category).sum ≤ W9) (hdg : decode c.code g.pc = .ok (.invokestatic index, 3))
    (hpre : ∀ vm₁, s.WarmedH vm₁ → Pre ⟨T.setVm vm₁, locs, cells, slots⟩ argsL.toArray) :
    ∃ (v : Option Value) (vm₁ : Vm) (B : Pt), s.WarmedH vm₁ ∧ Stand p l e R s m args below meth c B.U B.locs B.cells B.slots ∧ Post ⟨T.setVm vm₁, locs, cells, slots⟩ argsL.toArray v B ∧
      ∀ target, Steps p.tables e below (B.U.setTop { g with pc := g.pc + 3, stack := v.toList ++ rest }) target → Steps p.tables e below (T.setTop g) target := by
  obtain ⟨mk, methM, cM, hnamed, hmethM, -, -, -, -, -, -, hsigM⟩ := Cond.codeWith_spec hcode
  have hstatic : methM.isStatic = true := Cond.static_spec hnamed hmethM hstat
  obtain ⟨kP, hkP, -⟩ := className_of_methodNamed hnamed
  have hinitP : kP.init = .initialized := Cond.initialized_spec (findClass_of_methodNamed hnamed) hkP hinit
  obtain ⟨vm₁, X₁, hstep₁⟩ := X.invokestatic hexec hown hlink hnamed hmethM hstatic hkP hinitP hy (g := g) hg (argsL := argsL) (rest := rest) (hlen _ hsigM) hstack hdg
  obtain ⟨v, B, X', hpost, hsteps⟩ := hK m meth c ⟨T.setVm vm₁, locs, cells, slots⟩ { g with stack := rest } (.invokestatic index) mk argsL.toArray X₁ hg hsize hdg hW (X₁.named hnamed) (hpre vm₁ X₁.warmed)
  exact ⟨v, vm₁, B, X₁.warmed, X', hpost, fun target h => hstep₁ _ fun acts => by rw [doInvoke_state]; exact hsteps.trans h⟩
theorem vx_runSW {y : MethodName} {bytes cc : ByteArray} {maxL nL mc ms n index : Nat} {ret : Option FieldType} {hh : List (Nat × Nat × Nat × Nat)} {ws : List Cond} {rm : Room} {Pc : Array Value → State → Prop} {Qc : Array Value → State → Outcome → State → Prop} {free : Addr → Prop} {Ts : List Cond} {own : String} {As rest : List Value} {g : JFrame}
    (S : CallFix p m c cc nL s args Ts own) (hM : Met l y ws rm Pc Qc mc ms free) (cw : vx_CSW R s args own index y bytes maxL ret hh ws rm mc ms n) (hp : PreS s H Pc As)
    (hg : g.method = m) (hn : As.length = n) (hsize : g.locals.size = nL) (hstack : g.stack = As.reverse ++ rest) (hW : 2 * g.monitorRoom + (rest.map fun v => v.category).sum ≤ 8) (hdg : decode cc g.pc = .ok (.invokestatic index, 3)) (hf : cells + mc ≤ R.cells ∧ slots + ms ≤ R.slots) :
    va_Run p l e R s m args below meth c H locs cells slots mc ms g rest (Qc As.toArray) (free) := by
  obtain ⟨⟨hrc, hrs, hfr, hlo, hws, hcw⟩, hcode, hini, hy, hlen, hl, hstt⟩ := cw
  have hK : Back l R p e below s args y 3 8 (PreOf R mc ms Pc) (PostOf Qc mc ms free) := va_backW (hh := hh) (bytes := bytes) (maxL := maxL) (ret := ret) hM hp.1 hrc hrs hfr hlo hws hcw (fun a' U hW => word_at hW (Or.inl (by first | rfl | simp [Cond.onTables, Cond.keeps, Cond.steady])) hini)
  obtain ⟨hx, hb, hml, ho, -⟩ := S
  intro T hT X
  obtain ⟨v, vm₁, ⟨U', l2, c2, s2⟩, hW₁, X', ⟨g', mk, t, L, e1, e2, hq, h1, hL, h2, h3⟩, st⟩ := vx_callSW X hx (hh := hh) (bytes := bytes) (maxL := maxL) (ret := ret) ho hl hstt hini hcode hy hK hg (hsize.trans hml.symm) (argsL := As) (rest := rest) (fun sig h => hn.trans (hlen sig h)) hstack hW (by rw [hb]; exact hdg)
    (fun vm₁ hW₁ => ⟨hf.1, hf.2, hp.2 (T.setVm vm₁) hT hW₁⟩)
  dsimp only [Pt.U, Pt.locs, Pt.cells, Pt.slots] at X' e1 e2 h1 h2 h3 st
  subst h1; subst h2; subst h3
  exact ⟨v, (T.setVm vm₁).calling g' mk As.toArray, t, U', L, hT, X', hL, e1, e2, hq, st⟩
/-- not caught here, past rows that name other classes: it goes on to the caller -/
theorem vx_outP_0 : True := trivial
/-- a thing of a world lies in the heap -/
theorem vx_lt {D : va_G} {cl : List vw_C} {ws : va_W} {H1 : Heap} (h : va_P D cl ws H1) {k : Nat} {q : Nat × va_E} (hk : ws[k]? = some q) : q.1 < H1.size := (h k q hk).lt
end VXS
/-! ===== END ===== -/
/-! ===== BEGIN methods with a table of their own: called by a name, returning or throwing ===== -/
section VXH
/-! vx_backW, vx_callVX, vx_callSX, vx_callVW, vx_runVW, vx_runVX, vx_runSX, vx_ofWH follow the same proofs as their sisters above (Free/Laws.lean, Shelf42/LK1.lean); vx_outP calls Shelf42/NT130.lean (outThrough). -/
section
variable {l : Launch} {R : Room} {p : Program} {e : Env} {below : List Frame} {s : State} {sargs : Array Value} {y : MethodName} {len W9 : Nat}
theorem vx_backW {ws : List Cond} {rm : Room} {Pc : Array Value → State → Prop} {Qc : Array Value → State → Outcome → State → Prop} {XC : String → State → State → Prop} {mc ms : Nat} {free : Addr → Prop} {bytes : ByteArray} {maxL : Nat} {ret : Option FieldType} {hh : List (Nat × Nat × Nat × Nat)}
    (hM : vx_Met l y ws rm Pc Qc XC mc ms free) (hblind : FrameBlind Pc) (hrc : rm.cells = mc) (hrs : rm.slots = ms)
    (hframes : rm.frames + 1 ≤ R.frames) (hlocals : W9 + (maxL + 11) + rm.locals ≤ R.locals)
    (hws : ∀ w ∈ ws, ∀ a' U, s.WarmedH U.vm → w.before a' U = true) (hcode : Cond.codeWith y bytes maxL ret hh ∈ ws) (hinit : ∀ a' U, s.WarmedH U.vm → (Cond.initialized y.cls).before a' U = true) :
    vx_Back l R p e below s sargs y len W9 (PreOf R mc ms Pc) (PostOf Qc mc ms free) (vx_Post XC mc ms free) := by
  intro m meth c A g ig mk a X hg hsize hdg hW hn hp
  have h1 : (headSpec ws rm).pre.before a A.U = true := atoms_intro fun w hw => hws w hw _ _ X.warmed
  have h2 : (Cond.codeWith y bytes maxL ret hh).before a A.U = true := hws _ hcode _ _ X.warmed
  have h3 : (Cond.initialized y.cls).before a A.U = true := hinit _ _ X.warmed
  have h4 : A.cells + (headSpec ws rm).room.cells ≤ R.cells := by rw [show (headSpec ws rm).room.cells = mc from hrc]; exact hp.1
  have h5 : A.slots + (headSpec ws rm).room.slots ≤ R.slots := by rw [show (headSpec ws rm).room.slots = ms from hrs]; exact hp.2.1
  have hPc : Pc a (A.U.calling g mk a) := hblind _ _ _ _ hp.2.2
  obtain ⟨U, Ls, c0, s0⟩ := A
  dsimp only [Pt.U, Pt.locs, Pt.cells, Pt.slots] at h1 h2 h3 h4 h5 X hn hPc ⊢
  obtain ⟨m9, methY, cY, hn9, hmY, hcY, -, hlY, -⟩ := Cond.codeWith_spec h2
  cases Option.some.inj (hn9.symm.trans hn)
  obtain ⟨kY, hkY, -⟩ := className_of_methodNamed hn
  have hinitY : kY.init = .initialized := Cond.initialized_spec (findClass_of_methodNamed hn) hkY h3
  have h : At U g.method c below := by rw [hg]; exact X.here
  have hlocals9 : W9 + (maxL + 11) + (headSpec ws rm).room.locals ≤ R.locals := hlocals
  have happ : (headSpec ws rm).appliesLoose y e.platform (U.calling g mk a) = true :=
    Spec.appliesLoose_calling (g := g) h hdg hn hkY hinitY
      (X.room_calling (g := g) (R' := (headSpec ws rm).room) hsize hmY hcY hframes (by rw [hlY]; omega) h4 h5) h1
  obtain ⟨mid, hmid⟩ := h.above
  have hfr : (U.setTop g).frames = (.java g :: mid) ++ below := by rw [State.frames_setTop' g h.top, hmid]; rfl
  obtain ⟨o, s₂, hsteps, -, hend, hq⟩ := Steps.callFree hM p X.admits X.cas X.clock (acts := []) hfr happ hPc trivial
  have hq' : vx_Q Qc XC mc ms free a (U.calling g mk a) o s₂ := hq
  rw [State.frames_setTop' g h.top] at hend
  obtain ⟨g₀, hg0⟩ := Option.isSome_iff_exists.mp h.top
  obtain ⟨r, hr⟩ := State.topJava?_eq_some.mp hg0
  have hr' : (({ U with heap := s₂.heap, slotsUsed := s₂.slotsUsed } : State).setVm s₂.vm).frames = .java g₀ :: r := hr
  rcases hq' with ⟨hqc, L, hfe, hL⟩ | ⟨q, rfl, E, ce, L, hx, hce, hcv, hcl, hW₂, hsm, hL⟩
  · obtain ⟨⟨v, rfl⟩, hW₂, e2, q2, q3, q4, q5, q6⟩ := id hfe
    have e3 : s₂ = ({ (U.calling g mk a).setFrames s₂.frames with heap := s₂.heap, slotsUsed := s₂.slotsUsed } : State).setVm s₂.vm := by
      have : s₂ = ({ s₂ with vm := (U.calling g mk a).vm } : State).setVm s₂.vm := rfl
      rw [e2] at this
      exact this
    obtain ⟨c₂, i₂, len₂, hc₂, hd₂, hf₂⟩ := hend
    have hW' : U.WarmedH s₂.vm := hW₂
    have hcc : c₂ = c := by
      have h1 : s₂.code? g.method = U.code? g.method := by
        rw [State.code?_eq, State.code?_eq, hW'.alike.method?]
      exact Option.some.inj (hc₂.symm.trans (h1.trans h.code))
    subst hcc
    have hlen : len₂ = len := by rw [hdg] at hd₂; cases hd₂; rfl
    subst hlen
    have hs₂ : s₂ = (({ U with heap := s₂.heap, slotsUsed := s₂.slotsUsed } : State).setVm s₂.vm).setTop { g with pc := g.pc + len₂, stack := v.toList ++ g.stack } := by
      refine e3.trans ?_
      rw [hf₂, State.calling_eq h.top, State.setFrames_setFrames, State.setTop_of_frames _ hr', hr]
      rfl
    have hsame : U.sameButNew ({ U with heap := s₂.heap, slotsUsed := s₂.slotsUsed } : State) L mc ms := by
      refine ⟨?_, q2, q3, q4, q5, q6⟩
      obtain ⟨t, ht, -⟩ := State.frames_cons hr
      show ({ U with heap := s₂.heap, slotsUsed := s₂.slotsUsed } : State) = { U.setFrames U.frames with heap := s₂.heap, slotsUsed := s₂.slotsUsed }
      rw [State.setFrames_self ht]
    subst hg
    refine Or.inl ⟨v, ⟨(({ U with heap := s₂.heap, slotsUsed := s₂.slotsUsed } : State).setVm s₂.vm), Ls ++ L, c0 + mc, s0 + ms⟩,
      ⟨X.admits, X.cas, X.clock, X.frames, X.room, X.hears, X.method, X.code, (X.here.setHeapUsed s₂.heap s₂.slotsUsed).setVm hW'.alike, X.tail, State.WarmedH.trans X.warmed hW', X.limits, X.bytes, X.same.trans (hsame.setVm s.vm)⟩,
      ⟨g, mk, s₂, L, rfl, rfl, hqc, rfl, hL, rfl, rfl⟩, ?_⟩
    show Steps p.tables e below _ ((({ U with heap := s₂.heap, slotsUsed := s₂.slotsUsed } : State).setVm s₂.vm).setTop { g with pc := g.pc + len₂, stack := v.toList ++ g.stack })
    rw [← hs₂]
    exact hsteps
  · obtain ⟨e2, q2, q3, q4, q5, q6⟩ := id hsm
    have e3 : s₂ = ({ (U.calling g mk a).setFrames s₂.frames with heap := s₂.heap, slotsUsed := s₂.slotsUsed } : State).setVm s₂.vm := by
      have : s₂ = ({ s₂ with vm := (U.calling g mk a).vm } : State).setVm s₂.vm := rfl
      rw [e2] at this
      exact this
    have hf₂ : s₂.frames = .throwing q :: .java g :: U.frames.tail := hend
    have hW' : U.WarmedH s₂.vm := hW₂
    have hs₂ : s₂ = ((({ U with heap := s₂.heap, slotsUsed := s₂.slotsUsed } : State).setVm s₂.vm).setTop g).pushFrame (.throwing q) := by
      refine e3.trans ?_
      rw [hf₂, State.calling_eq h.top, State.setFrames_setFrames, State.pushFrame, State.frames_setTop _ hr', State.setTop_of_frames _ hr', State.setFrames_setFrames, hr]
      rfl
    have hsame : U.sameButNew ({ U with heap := s₂.heap, slotsUsed := s₂.slotsUsed } : State) L mc ms := by
      refine ⟨?_, q2, q3, q4, q5, q6⟩
      obtain ⟨t, ht, -⟩ := State.frames_cons hr
      show ({ U with heap := s₂.heap, slotsUsed := s₂.slotsUsed } : State) = { U.setFrames U.frames with heap := s₂.heap, slotsUsed := s₂.slotsUsed }
      rw [State.setFrames_self ht]
    subst hg
    refine Or.inr ⟨q, ⟨(({ U with heap := s₂.heap, slotsUsed := s₂.slotsUsed } : State).setVm s₂.vm), Ls ++ L, c0 + mc, s0 + ms⟩,
      ⟨X.admits, X.cas, X.clock, X.frames, X.room, X.hears, X.method, X.code, (X.here.setHeapUsed s₂.heap s₂.slotsUsed).setVm hW'.alike, X.tail, State.WarmedH.trans X.warmed hW', X.limits, X.bytes, X.same.trans (hsame.setVm s.vm)⟩,
      ⟨g, mk, s₂, L, E, ce, rfl, rfl, hx, hce, hcv, hcl, rfl, hL, rfl, rfl⟩, ?_⟩
    show Steps p.tables e below _ (((({ U with heap := s₂.heap, slotsUsed := s₂.slotsUsed } : State).setVm s₂.vm).setTop g).pushFrame (.throwing q))
    rw [← hs₂]
    exact hsteps
end
variable {p : Program} {l : Launch} {e : Env} {R : Room} {s : State} {m : MethodId} {args : Array Value} {below : List Frame} {meth : Method} {c : Code} {T : State} {H : Heap} {locs : List Loc} {cells slots : Nat}
theorem vx_callVX (X : Stand p l e R s m args below meth c T locs cells slots) (hexec : p.tables.exec = Jvm.exec) {own C : String} {index : Nat} {y : MethodName} {bytes : ByteArray} {maxL : Nat} {ret : Option FieldType} {hh : List (Nat × Nat × Nat × Nat)}
    (hown : s.vm.findClass own = some m.cls) (hlink : (Cond.methodLink own index y).before args s = true) (hinst : (Cond.instanceMethod y).before args s = true) (hsel : (Cond.selects C y y).before args s = true)
    (hcode : (Cond.codeWith y bytes maxL ret hh).before args s = true) (hy : y.cls ≠ "java/lang/invoke/MethodHandle" ∧ y.cls ≠ "java/lang/invoke/VarHandle")
    {W9 : Nat} {Pre : Pt → Array Value → Prop} {Post : Pt → Array Value → Option Value → Pt → Prop} {PostX : Pt → Array Value → Addr → Pt → Prop} (hK : vx_Back l R p e below s args y 3 W9 Pre Post PostX)
    {b : Addr} {cellB : Cell} (hcell : T.heap[b]? = some cellB) (hobj : cellB.vm.isStatics = false) (hcls : s.vm.findClass C = some cellB.cls)
    {g : JFrame} (hg : g.method = m) (hsize : g.locals.size = c.maxLocals) {argsL rest : List Value} (hlen : ∀ sig, parseMethodDescriptor y.desc = some sig → argsL.length = sig.parameters.length)
    (hstack : g.stack = argsL.reverse ++ .ref b :: rest) (hW : 2 * g.monitorRoom + (rest.map fun v => v.category).sum ≤ W9) (hdg : decode c.code g.pc = .ok (.invokevirtual index, 3))
    (hpre : ∀ vm₁, s.WarmedH vm₁ → Pre ⟨T.setVm vm₁, locs, cells, slots⟩ (Value.ref b :: argsL).toArray) :
    (∃ (v : Option Value) (vm₁ : Vm) (B : Pt), s.WarmedH vm₁ ∧ Stand p l e R s m args below meth c B.U B.locs B.cells B.slots ∧ Post ⟨T.setVm vm₁, locs, cells, slots⟩ (Value.ref b :: argsL).toArray v B ∧
      ∀ target, Steps p.tables e below (B.U.setTop { g with pc := g.pc + 3, stack := v.toList ++ rest }) target → Steps p.tables e below (T.setTop g) target) ∨
    (∃ (q : Addr) (vm₁ : Vm) (B : Pt), s.WarmedH vm₁ ∧ Stand p l e R s m args below meth c B.U B.locs B.cells B.slots ∧ PostX ⟨T.setVm vm₁, locs, cells, slots⟩ (Value.ref b :: argsL).toArray q B ∧
      Steps p.tables e below (T.setTop g) ((B.U.setTop { g with stack := rest }).pushFrame (.throwing q))) := by
  obtain ⟨mk, methM, hnamed, hmethM, hstM, habM⟩ := Cond.instanceMethod_spec hinst
  obtain ⟨m8, methM', cM, hn8, hmethM', -, -, -, -, -, -, hsigM⟩ := Cond.codeWith_spec hcode
  cases Option.some.inj (hn8.symm.trans hnamed)
  cases hmethM.symm.trans hmethM'
  obtain ⟨c2, r2, m2, q1, q2, q3, q4, kP, hkP, hkPi⟩ := Cond.selects_spec hsel
  cases hcls.symm.trans q1
  cases (State.methodFound?_of_named hnamed hy).symm.trans q2
  cases hnamed.symm.trans q3
  have hselP : selectMethod e.platform s.vm cellB.cls mk = .method mk := by rw [Launch.admits_selectMethod X.admits]; exact q4
  obtain ⟨vm₁, X₁, hstep₁⟩ := X.invokevirtual hexec hown hlink hnamed hmethM hstM hkP hkPi hy (a := b) (cell := cellB) hcell
    (fun z h => by rw [h] at hobj; cases hobj) hselP hmethM habM hkP hkPi (g := g) hg (argsL := argsL) (rest := rest) (hlen _ hsigM) hstack hdg
  rcases hK m meth c ⟨T.setVm vm₁, locs, cells, slots⟩ { g with stack := rest } (.invokevirtual index) mk (Value.ref b :: argsL).toArray X₁ hg hsize hdg hW (X₁.named hnamed) (hpre vm₁ X₁.warmed) with ⟨v, B, X', hpost, hsteps⟩ | ⟨q, B, X', hpost, hsteps⟩
  · exact Or.inl ⟨v, vm₁, B, X₁.warmed, X', hpost, fun target h => hstep₁ _ fun acts => by rw [doInvoke_state]; exact hsteps.trans h⟩
  · exact Or.inr ⟨q, vm₁, B, X₁.warmed, X', hpost, hstep₁ _ fun acts => by rw [doInvoke_state]; exact hsteps⟩
theorem vx_callSX (X : Stand p l e R s m args below meth c T locs cells slots) (hexec : p.tables.exec = Jvm.exec) {own : String} {index : Nat} {y : MethodName} {bytes : ByteArray} {maxL : Nat} {ret : Option FieldType} {hh : List (Nat × Nat × Nat × Nat)}
    (hown : s.vm.findClass own = some m.cls) (hlink : (Cond.methodLink own index y).before args s = true) (hstat : (Cond.static y).before args s = true) (hinit : (Cond.initialized y.cls).before args s = true)
    (hcode : (Cond.codeWith y bytes maxL ret hh).before args s = true) (hy : y.cls ≠ "java/lang/invoke/MethodHandle" ∧ y.cls ≠ "java/lang/invoke/VarHandle")
    {W9 : Nat} {Pre : Pt → Array Value → Prop} {Post : Pt → Array Value → Option Value → Pt → Prop} {PostX : Pt → Array Value → Addr → Pt → Prop} (hK : vx_Back l R p e below s args y 3 W9 Pre Post PostX)
    {g : JFrame} (hg : g.method = m) (hsize : g.locals.size = c.maxLocals) {argsL rest : List Value} (hlen : ∀ sig, parseMethodDescriptor y.desc = some sig → argsL.length = sig.parameters.length)
    (hstack : g.stack = argsL.reverse ++ rest) (hW : 2 * g.monitorRoom + (rest.map fun v => v.category).sum ≤ W9) (hdg : decode c.code g.pc = .ok (.invokestatic index, 3))
    (hpre : ∀ vm₁, s.WarmedH vm₁ → Pre ⟨T.setVm vm₁, locs, cells, slots⟩ argsL.toArray) :
    (∃ (v : Option Value) (vm₁ : Vm) (B : Pt), s.WarmedH vm₁ ∧ Stand p l e R s m args below meth c B.U B.locs B.cells B.slots ∧ Post ⟨T.setVm vm₁, locs, cells, slots⟩ argsL.toArray v B ∧
      ∀ target, Steps p.tables e below (B.U.setTop { g with pc := g.pc + 3, stack := v.toList ++ rest }) target → Steps p.tables e below (T.setTop g) target) ∨
    (∃ (q : Addr) (vm₁ : Vm) (B : Pt), s.WarmedH vm₁ ∧ Stand p l e R s m args below meth c B.U B.locs B.cells B.slots ∧ PostX ⟨T.setVm vm₁, locs, cells, slots⟩ argsL.toArray q B ∧
      Steps p.tables e below (T.setTop g) ((B.U.setTop { g with stack := rest }).pushFrame (.throwing q))) := by
  obtain ⟨mk, methM, cM, hnamed, hmethM, -, -, -, -, -, -, hsigM⟩ := Cond.codeWith_spec hcode
  have hstatic : methM.isStatic = true := Cond.static_spec hnamed hmethM hstat
  obtain ⟨kP, hkP, -⟩ := className_of_methodNamed hnamed
  have hinitP : kP.init = .initialized := Cond.initialized_spec (findClass_of_methodNamed hnamed) hkP hinit
  obtain ⟨vm₁, X₁, hstep₁⟩ := X.invokestatic hexec hown hlink hnamed hmethM hstatic hkP hinitP hy (g := g) hg (argsL := argsL) (rest := rest) (hlen _ hsigM) hstack hdg
  rcases hK m meth c ⟨T.setVm vm₁, locs, cells, slots⟩ { g with stack := rest } (.invokestatic index) mk argsL.toArray X₁ hg hsize hdg hW (X₁.named hnamed) (hpre vm₁ X₁.warmed) with ⟨v, B, X', hpost, hsteps⟩ | ⟨q, B, X', hpost, hsteps⟩
  · exact Or.inl ⟨v, vm₁, B, X₁.warmed, X', hpost, fun target h => hstep₁ _ fun acts => by rw [doInvoke_state]; exact hsteps.trans h⟩
  · exact Or.inr ⟨q, vm₁, B, X₁.warmed, X', hpost, hstep₁ _ fun acts => by rw [doInvoke_state]; exact hsteps⟩
theorem vx_callVW (X : Stand p l e R s m args below meth c T locs cells slots) (hexec : p.tables.exec = Jvm.exec) {own C : String} {index : Nat} {y : MethodName} {bytes : ByteArray} {maxL : Nat} {ret : Option FieldType} {hh : List (Nat × Nat × Nat × Nat)}
    (hown : s.vm.findClass own = some m.cls) (hlink : (Cond.methodLink own index y).before args s = true) (hinst : (Cond.instanceMethod y).before args s = true) (hsel : (Cond.selects C y y).before args s = true)
    (hcode : (Cond.codeWith y bytes maxL ret hh).before args s = true) (hy : y.cls ≠ "java/lang/invoke/MethodHandle" ∧ y.cls ≠ "java/lang/invoke/VarHandle")
    {W9 : Nat} {Pre : Pt → Array Value → Prop} {Post : Pt → Array Value → Option Value → Pt → Prop} (hK : Back l R p e below s args y 3 W9 Pre Post)
    {b : Addr} {cellB : Cell} (hcell : T.heap[b]? = some cellB) (hobj : cellB.vm.isStatics = false) (hcls : s.vm.findClass C = some cellB.cls)
    {g : JFrame} (hg : g.method = m) (hsize : g.locals.size = c.maxLocals) {argsL rest : List Value} (hlen : ∀ sig, parseMethodDescriptor y.desc = some sig → argsL.length = sig.parameters.length)
    (hstack : g.stack = argsL.reverse ++ .ref b :: rest) (hW : 2 * g.monitorRoom + (rest.map fun v => v.category).sum ≤ W9) (hdg : decode c.code g.pc = .ok (.invokevirtual index, 3))
    (hpre : ∀ vm₁, s.WarmedH vm₁ → Pre ⟨T.setVm vm₁, locs, cells, slots⟩ (Value.ref b :: argsL).toArray) :
    ∃ (v : Option Value) (vm₁ : Vm) (B : Pt), s.WarmedH vm₁ ∧ Stand p l e R s m args below meth c B.U B.locs B.cells B.slots ∧ Post ⟨T.setVm vm₁, locs, cells, slots⟩ (Value.ref b :: argsL).toArray v B ∧
      ∀ target, Steps p.tables e below (B.U.setTop { g with pc := g.pc + 3, stack := v.toList ++ rest }) target → Steps p.tables e below (T.setTop g) target := by
  obtain ⟨mk, methM, hnamed, hmethM, hstM, habM⟩ := Cond.instanceMethod_spec hinst
  obtain ⟨m8, methM', cM, hn8, hmethM', -, -, -, -, -, -, hsigM⟩ := Cond.codeWith_spec hcode
  cases Option.some.inj (hn8.symm.trans hnamed)
  cases hmethM.symm.trans hmethM'
  obtain ⟨c2, r2, m2, q1, q2, q3, q4, kP, hkP, hkPi⟩ := Cond.selects_spec hsel
  cases hcls.symm.trans q1
  cases (State.methodFound?_of_named hnamed hy).symm.trans q2
  cases hnamed.symm.trans q3
  have hselP : selectMethod e.platform s.vm cellB.cls mk = .method mk := by rw [Launch.admits_selectMethod X.admits]; exact q4
  obtain ⟨vm₁, X₁, hstep₁⟩ := X.invokevirtual hexec hown hlink hnamed hmethM hstM hkP hkPi hy (a := b) (cell := cellB) hcell
    (fun z h => by rw [h] at hobj; cases hobj) hselP hmethM habM hkP hkPi (g := g) hg (argsL := argsL) (rest := rest) (hlen _ hsigM) hstack hdg
  obtain ⟨v, B, X', hpost, hsteps⟩ := hK m meth c ⟨T.setVm vm₁, locs, cells, slots⟩ { g with stack := rest } (.invokevirtual index) mk (Value.ref b :: argsL).toArray X₁ hg hsize hdg hW (X₁.named hnamed) (hpre vm₁ X₁.warmed)
  exact ⟨v, vm₁, B, X₁.warmed, X', hpost, fun target h => hstep₁ _ fun acts => by rw [doInvoke_state]; exact hsteps.trans h⟩
abbrev vx_CVW (R : Room) (s : State) (args : Array Value) (own C : String) (index : Nat) (y : MethodName) (bytes : ByteArray) (maxL : Nat) (ret : Option FieldType) (hh : List (Nat × Nat × Nat × Nat)) (ws : List Cond) (rm : Room) (mc ms n : Nat) : Prop :=
  (rm.cells = mc ∧ rm.slots = ms ∧ rm.frames + 1 ≤ R.frames ∧ 8 + (maxL + 11) + rm.locals ≤ R.locals ∧ (∀ w ∈ ws, ∀ (a' : Array Value) (U : State), s.WarmedH U.vm → w.before a' U = true) ∧ Cond.codeWith y bytes maxL ret hh ∈ ws) ∧
  (Cond.codeWith y bytes maxL ret hh).before args s = true ∧ (Cond.initialized y.cls).before args s = true ∧ (y.cls ≠ "java/lang/invoke/MethodHandle" ∧ y.cls ≠ "java/lang/invoke/VarHandle") ∧
  (∀ sig, parseMethodDescriptor y.desc = some sig → n = sig.parameters.length) ∧ (Cond.methodLink own index y).before args s = true ∧ (Cond.instanceMethod y).before args s = true ∧ (Cond.selects C y y).before args s = true
theorem vx_cwVW {own C : String} {index maxL mc ms : Nat} {y : MethodName} {bytes : ByteArray} {ret : Option FieldType} {hh : List (Nat × Nat × Nat × Nat)} {Ts ws ws' : List Cond} {rm : Room} (n : Nat) (ht : ∀ w ∈ Ts, w.before args s = true) (hT : GoodIn Ts (wsV own index C y ws)) (hw : ws = Cond.codeWith y bytes maxL ret hh :: ws') (hrc : rm.cells = mc) (hrs : rm.slots = ms)
    (hd : y.cls = C ∧ y.cls ≠ "java/lang/invoke/MethodHandle" ∧ y.cls ≠ "java/lang/invoke/VarHandle" ∧ (parseMethodDescriptor y.desc).map (fun d => d.parameters.length) = some n) (hR : rm.frames + 1 ≤ R.frames ∧ 8 + (maxL + 11) + rm.locals ≤ R.locals) :
    vx_CVW R s args own C index y bytes maxL ret hh ws rm mc ms n := by
  obtain ⟨hC, hd⟩ := hd
  subst hC
  have ok : ∀ w ∈ wsV own index y.cls y ws, w.before args s = true := fun w h => ht w (hT w h).1
  have hG : GoodIn Ts ws := fun w h => hT w (by unfold wsV; exact List.mem_append_right _ h)
  have hc : Cond.codeWith y bytes maxL ret hh ∈ ws := by rw [hw]; exact List.mem_cons_self
  refine ⟨⟨hrc, hrs, hR.1, hR.2, pay_in ht hG, hc⟩, ht _ (hG _ hc).1, ok _ (by simp [wsV]), ⟨hd.1, hd.2.1⟩, fun sig h => ?_, ok _ (by simp [wsV]), ok _ (by simp [wsV]), ok _ (by simp [wsV])⟩
  have h2 := hd.2.2
  rw [h] at h2
  exact (Option.some.inj h2).symm
theorem vx_runVW {y : MethodName} {bytes cc : ByteArray} {maxL nL mc ms n index : Nat} {ret : Option FieldType} {hh : List (Nat × Nat × Nat × Nat)} {ws : List Cond} {rm : Room} {Pc : Array Value → State → Prop} {Qc : Array Value → State → Outcome → State → Prop} {free : Addr → Prop} {Ts : List Cond} {own C : String} {b : Addr} {As rest : List Value} {g : JFrame}
    (S : CallFix p m c cc nL s args Ts own) (hM : Met l y ws rm Pc Qc mc ms free) (cw : vx_CVW R s args own C index y bytes maxL ret hh ws rm mc ms n) (hp : PreV s H C b Pc As)
    (hg : g.method = m) (hn : As.length = n) (hsize : g.locals.size = nL) (hstack : g.stack = As.reverse ++ .ref b :: rest) (hW : 2 * g.monitorRoom + (rest.map fun v => v.category).sum ≤ 8) (hdg : decode cc g.pc = .ok (.invokevirtual index, 3)) (hf : cells + mc ≤ R.cells ∧ slots + ms ≤ R.slots) :
    va_Run p l e R s m args below meth c H locs cells slots mc ms g rest (Qc (Value.ref b :: As).toArray) free := by
  obtain ⟨⟨hrc, hrs, hfr, hlo, hws, hcw⟩, hcode, hini, hy, hlen, hl, hin, hse⟩ := cw
  have hK : Back l R p e below s args y 3 8 (PreOf R mc ms Pc) (PostOf Qc mc ms free) := va_backW (hh := hh) (bytes := bytes) (maxL := maxL) (ret := ret) hM hp.1 hrc hrs hfr hlo hws hcw (fun a' U hW => word_at hW (Or.inl (by first | rfl | simp [Cond.onTables, Cond.keeps, Cond.steady])) hini)
  obtain ⟨hx, hb, hml, ho, -⟩ := S
  obtain ⟨-, ⟨cellB, hcB, hoB, hclB⟩, hPc⟩ := hp
  intro T hT X
  obtain ⟨v, vm₁, ⟨U', l2, c2, s2⟩, hW₁, X', ⟨g', mk, t, L, e1, e2, hq, h1, hL, h2, h3⟩, st⟩ := vx_callVW X hx (C := C) (hh := hh) (bytes := bytes) (maxL := maxL) (ret := ret) ho hl hin hse hcode hy hK (by rw [hT]; exact hcB) hoB hclB hg (hsize.trans hml.symm) (argsL := As) (rest := rest) (fun sig h => hn.trans (hlen sig h)) hstack hW (by rw [hb]; exact hdg)
    (fun vm₁ hW₁ => ⟨hf.1, hf.2, hPc (T.setVm vm₁) hT hW₁⟩)
  dsimp only [Pt.U, Pt.locs, Pt.cells, Pt.slots] at X' e1 e2 h1 h2 h3 st
  subst h1; subst h2; subst h3
  exact ⟨v, (T.setVm vm₁).calling g' mk (Value.ref b :: As).toArray, t, U', L, hT, X', hL, e1, e2, hq, st⟩
section
variable {y : MethodName} {bytes cc : ByteArray} {maxL nL mc ms n index : Nat} {ret : Option FieldType} {ws : List Cond} {rm : Room} {Pc : Array Value → State → Prop} {Qc : Array Value → State → Outcome → State → Prop} {XC : String → State → State → Prop} {free : Addr → Prop} {Ts : List Cond} {own C : String} {b : Addr} {As rest : List Value} {g : JFrame}
theorem vx_runVX {hh : List (Nat × Nat × Nat × Nat)} (S : CallFix p m c cc nL s args Ts own) (hM : vx_Met l y ws rm Pc Qc XC mc ms free) (cw : vx_CVW R s args own C index y bytes maxL ret hh ws rm mc ms n) (hp : PreV s H C b Pc As)
    (hg : g.method = m) (hn : As.length = n) (hsize : g.locals.size = nL) (hstack : g.stack = As.reverse ++ .ref b :: rest) (hW : 2 * g.monitorRoom + (rest.map fun v => v.category).sum ≤ 8) (hdg : decode cc g.pc = .ok (.invokevirtual index, 3)) (hf : cells + mc ≤ R.cells ∧ slots + ms ≤ R.slots) :
    vx_Run p l e R s m args below meth c H locs cells slots mc ms g rest (Qc (Value.ref b :: As).toArray) XC free := by
  obtain ⟨⟨hrc, hrs, hfr, hlo, hws, hcw⟩, hcode, hini, hy, hlen, hl, hin, hse⟩ := cw
  have hK : vx_Back l R p e below s args y 3 8 (PreOf R mc ms Pc) (PostOf Qc mc ms free) (vx_Post XC mc ms free) := vx_backW (hh := hh) (bytes := bytes) (maxL := maxL) (ret := ret) hM hp.1 hrc hrs hfr hlo hws hcw (fun a' U hW => word_at hW (Or.inl (by first | rfl | simp [Cond.onTables, Cond.keeps, Cond.steady])) hini)
  obtain ⟨hx, hb, hml, ho, -⟩ := S
  obtain ⟨-, ⟨cellB, hcB, hoB, hclB⟩, hPc⟩ := hp
  intro T hT X
  rcases vx_callVX X hx (C := C) (hh := hh) (bytes := bytes) (maxL := maxL) (ret := ret) ho hl hin hse hcode hy hK (by rw [hT]; exact hcB) hoB hclB hg (hsize.trans hml.symm) (argsL := As) (rest := rest) (fun sig h => hn.trans (hlen sig h)) hstack hW (by rw [hb]; exact hdg)
    (fun vm₁ hW₁ => ⟨hf.1, hf.2, hPc (T.setVm vm₁) hT hW₁⟩) with ⟨v, vm₁, ⟨U', l2, c2, s2⟩, hW₁, X', ⟨g', mk, t, L, e1, e2, hq, h1, hL, h2, h3⟩, st⟩ | ⟨q, vm₁, ⟨U', l2, c2, s2⟩, hW₁, X', ⟨g', mk, t, L, E, ce, e1, e2, hq, hce, hcv, hcl, h1, hL, h2, h3⟩, st⟩
  · dsimp only [Pt.U, Pt.locs, Pt.cells, Pt.slots] at X' e1 e2 h1 h2 h3 st
    subst h1; subst h2; subst h3
    exact Or.inl ⟨v, (T.setVm vm₁).calling g' mk (Value.ref b :: As).toArray, t, U', L, hT, X', hL, e1, e2, hq, st⟩
  · dsimp only [Pt.U, Pt.locs, Pt.cells, Pt.slots] at X' e1 e2 h1 h2 h3 st hcl
    subst h1; subst h2; subst h3
    exact Or.inr ⟨q, (T.setVm vm₁).calling g' mk (Value.ref b :: As).toArray, t, U', L, E, ce, hT, X', hL, e1, e2, hq, hce, hcv, vx_cls hW₁ hcl, st⟩
theorem vx_runSX {hh : List (Nat × Nat × Nat × Nat)} (S : CallFix p m c cc nL s args Ts own) (hM : vx_Met l y ws rm Pc Qc XC mc ms free) (cw : vx_CSW R s args own index y bytes maxL ret hh ws rm mc ms n) (hp : PreS s H Pc As)
    (hg : g.method = m) (hn : As.length = n) (hsize : g.locals.size = nL) (hstack : g.stack = As.reverse ++ rest) (hW : 2 * g.monitorRoom + (rest.map fun v => v.category).sum ≤ 8) (hdg : decode cc g.pc = .ok (.invokestatic index, 3)) (hf : cells + mc ≤ R.cells ∧ slots + ms ≤ R.slots) :
    vx_Run p l e R s m args below meth c H locs cells slots mc ms g rest (Qc As.toArray) XC free := by
  obtain ⟨⟨hrc, hrs, hfr, hlo, hws, hcw⟩, hcode, hini, hy, hlen, hl, hstt⟩ := cw
  have hK : vx_Back l R p e below s args y 3 8 (PreOf R mc ms Pc) (PostOf Qc mc ms free) (vx_Post XC mc ms free) := vx_backW (hh := hh) (bytes := bytes) (maxL := maxL) (ret := ret) hM hp.1 hrc hrs hfr hlo hws hcw (fun a' U hW => word_at hW (Or.inl (by first | rfl | simp [Cond.onTables, Cond.keeps, Cond.steady])) hini)
  obtain ⟨hx, hb, hml, ho, -⟩ := S
  intro T hT X
  rcases vx_callSX X hx (hh := hh) (bytes := bytes) (maxL := maxL) (ret := ret) ho hl hstt hini hcode hy hK hg (hsize.trans hml.symm) (argsL := As) (rest := rest) (fun sig h => hn.trans (hlen sig h)) hstack hW (by rw [hb]; exact hdg)
    (fun vm₁ hW₁ => ⟨hf.1, hf.2, hp.2 (T.setVm vm₁) hT hW₁⟩) with ⟨v, vm₁, ⟨U', l2, c2, s2⟩, hW₁, X', ⟨g', mk, t, L, e1, e2, hq, h1, hL, h2, h3⟩, st⟩ | ⟨q, vm₁, ⟨U', l2, c2, s2⟩, hW₁, X', ⟨g', mk, t, L, E, ce, e1, e2, hq, hce, hcv, hcl, h1, hL, h2, h3⟩, st⟩
  · dsimp only [Pt.U, Pt.locs, Pt.cells, Pt.slots] at X' e1 e2 h1 h2 h3 st
    subst h1; subst h2; subst h3
    exact Or.inl ⟨v, (T.setVm vm₁).calling g' mk As.toArray, t, U', L, hT, X', hL, e1, e2, hq, st⟩
  · dsimp only [Pt.U, Pt.locs, Pt.cells, Pt.slots] at X' e1 e2 h1 h2 h3 st hcl
    subst h1; subst h2; subst h3
    exact Or.inr ⟨q, (T.setVm vm₁).calling g' mk As.toArray, t, U', L, E, ce, hT, X', hL, e1, e2, hq, hce, hcv, vx_cls hW₁ hcl, st⟩
end
end VXH
theorem vx_ofWH {l : Launch} {y : MethodName} {ws ws' : List Cond} {rm : Room} {Pc : Array Value → State → Prop} {Qc : Array Value → State → Outcome → State → Prop} {XC : String → State → State → Prop} {mc ms : Nat} {free : Addr → Prop} {cc : ByteArray} {maxL : Nat} {ret : Option FieldType} {hh : List (Nat × Nat × Nat × Nat)}
    (hy : plainName y.cls = true) (hw : ws = Cond.codeWith y cc maxL ret hh :: ws')
    (body : ∀ p e s m args below meth c s₁, BodyLoose p l y (headSpec ws rm) cc maxL ret e s m args below meth c s₁ → c.maxLocals = maxL → Pc args s →
      W p l e (headSpec ws rm).room s m args below meth c s.heap [] 0 0 (vx_MQ below Qc XC args s mc ms free) (entryFrame m args maxL)) : vx_Met l y ws rm Pc Qc XC mc ms free := by
  refine MetFree.of_bodyS (code := cc) (maxLocals := maxL) (ret := ret) hy ?_ ?_
  · intro args s m h hn
    obtain ⟨m9, meth, c, hn9, h1, h2, h3, h4, -, h5, h6, -⟩ := Cond.codeWith_spec (atoms_spec (ws := ws) h _ (by rw [hw]; exact List.mem_cons_self))
    cases hn.symm.trans hn9
    exact ⟨meth, c, h1, h2, h3, h4, h5, h6⟩
  · intro p e s m args below meth c s₁ B hml hP _
    have hh0 : s₁.heap = s.heap := by rw [B.state]; rfl
    obtain ⟨t, a1, o, b1, b2, b3⟩ := body p e s m args below meth c s₁ B hml hP s₁ hh0 (Stand.of_body B)
    exact ⟨t, o, a1, b1, b2, b3⟩
/-! ===== END ===== -/
end
section
/-! ===== BEGIN printed: names, fields, word lists, decode rows ===== -/
def RX0 : String := "DoubleText$Decimal"
def TX0 : u_T := fun k => match k with
  | 0 => ("DoubleText$Decimal", "limbs", "[J", true)
  | 1 => ("DoubleText$Decimal", "first", "I", false)
  | _ => ("DoubleText$Decimal", "last", "I", false)
def tyX0 : Nat → FieldType := fun k => match k with
  | 0 => .array .long
  | 1 => .int
  | _ => .int
abbrev wsX00 : List Cond := u_ws RX0 TX0 3
theorem nmX0 : ∀ a, a < 3 → ∀ b, b < 3 → a ≠ b → (TX0 a).2.1 ≠ (TX0 b).2.1 := by decide +kernel
theorem tyX0_ok : ∀ k, k < 3 → parseFieldDescriptor (TX0 k).2.2.1 = some (tyX0 k) := by decide +kernel
abbrev cX0_init : ByteArray := prog_2_method_1_code
def yX0_init : MethodName := ⟨RX0, "<init>", "()V"⟩
abbrev cX0_wipe : ByteArray := prog_2_method_2_code
def yX0_wipe : MethodName := ⟨RX0, "wipe", "()V"⟩
abbrev cX0_setDigit : ByteArray := prog_2_method_3_code
def yX0_setDigit : MethodName := ⟨RX0, "setDigit", "(II)V"⟩
abbrev cX0_digit : ByteArray := prog_2_method_4_code
def yX0_digit : MethodName := ⟨RX0, "digit", "(I)I"⟩
abbrev cX0_topPlace : ByteArray := prog_2_method_5_code
def yX0_topPlace : MethodName := ⟨RX0, "topPlace", "()I"⟩
abbrev cX0_isWide : ByteArray := prog_2_method_6_code
def yX0_isWide : MethodName := ⟨RX0, "isWide", "()Z"⟩
abbrev cX0_whole : ByteArray := prog_2_method_7_code
def yX0_whole : MethodName := ⟨RX0, "whole", "()J"⟩
abbrev cX0_takeScaled : ByteArray := prog_2_method_8_code
def yX0_takeScaled : MethodName := ⟨RX0, "takeScaled", "(JI)V"⟩
abbrev cX0_scale : ByteArray := prog_2_method_9_code
def yX0_scale : MethodName := ⟨RX0, "scale", "(I)V"⟩
abbrev cX0_scaleUp : ByteArray := prog_2_method_10_code
def yX0_scaleUp : MethodName := ⟨RX0, "scaleUp", "(I)V"⟩
abbrev cX0_scaleDown : ByteArray := prog_2_method_11_code
def yX0_scaleDown : MethodName := ⟨RX0, "scaleDown", "(I)V"⟩
abbrev cX0_takeRounded : ByteArray := prog_2_method_12_code
def yX0_takeRounded : MethodName := ⟨RX0, "takeRounded", "(LDoubleText$Decimal;I)V"⟩
abbrev cX0_roundsUp : ByteArray := prog_2_method_13_code
def yX0_roundsUp : MethodName := ⟨RX0, "roundsUp", "(IJ)Z"⟩
abbrev cX0_sideOfHalf : ByteArray := prog_2_method_14_code
def yX0_sideOfHalf : MethodName := ⟨RX0, "sideOfHalf", "(IJ)I"⟩
abbrev cX0_countUp : ByteArray := prog_2_method_15_code
def yX0_countUp : MethodName := ⟨RX0, "countUp", "(IJ)V"⟩
abbrev cX0_comparedTo : ByteArray := prog_2_method_16_code
def yX0_comparedTo : MethodName := ⟨RX0, "comparedTo", "(LDoubleText$Decimal;)I"⟩
abbrev cX0_trim : ByteArray := prog_2_method_17_code
def yX0_trim : MethodName := ⟨RX0, "trim", "()V"⟩
abbrev cX0_limb : ByteArray := prog_2_method_18_code
def yX0_limb : MethodName := ⟨RX0, "limb", "(I)J"⟩
abbrev cX0_limbOf : ByteArray := prog_2_method_19_code
def yX0_limbOf : MethodName := ⟨RX0, "limbOf", "(I)I"⟩
abbrev cX0_unitOf : ByteArray := prog_2_method_20_code
def yX0_unitOf : MethodName := ⟨RX0, "unitOf", "(I)J"⟩
def RX1 : String := "DoubleText"
def TX1 : u_T := fun k => match k with
  | 0 => ("DoubleText", "text", "[I", true)
  | 1 => ("DoubleText", "length", "I", false)
  | 2 => ("DoubleText", "digitsStart", "I", false)
  | 3 => ("DoubleText", "digitsEnd", "I", false)
  | 4 => ("DoubleText", "unitsAt", "I", false)
  | 5 => ("DoubleText", "tenPower", "I", false)
  | 6 => ("DoubleText", "number", "LDoubleText$Decimal;", true)
  | 7 => ("DoubleText", "rounded", "LDoubleText$Decimal;", true)
  | 8 => ("DoubleText", "lowEdge", "LDoubleText$Decimal;", true)
  | _ => ("DoubleText", "highEdge", "LDoubleText$Decimal;", true)
def tyX1 : Nat → FieldType := fun k => match k with
  | 0 => .array .int
  | 1 => .int
  | 2 => .int
  | 3 => .int
  | 4 => .int
  | 5 => .int
  | 6 => .object "DoubleText$Decimal"
  | 7 => .object "DoubleText$Decimal"
  | 8 => .object "DoubleText$Decimal"
  | _ => .object "DoubleText$Decimal"
abbrev wsX10 : List Cond := u_ws RX1 TX1 10
theorem nmX1 : ∀ a, a < 10 → ∀ b, b < 10 → a ≠ b → (TX1 a).2.1 ≠ (TX1 b).2.1 := by decide +kernel
theorem tyX1_ok : ∀ k, k < 10 → parseFieldDescriptor (TX1 k).2.2.1 = some (tyX1 k) := by decide +kernel
abbrev cX1_init : ByteArray := prog_1_method_1_code
def yX1_init : MethodName := ⟨RX1, "<init>", "()V"⟩
abbrev cX1_clear : ByteArray := prog_1_method_2_code
def yX1_clear : MethodName := ⟨RX1, "clear", "()V"⟩
abbrev cX1_add : ByteArray := prog_1_method_3_code
def yX1_add : MethodName := ⟨RX1, "add", "(I)I"⟩
abbrev cX1_read : ByteArray := prog_1_method_4_code
def yX1_read : MethodName := ⟨RX1, "read", "()J"⟩
abbrev cX1_print : ByteArray := prog_1_method_5_code
def yX1_print : MethodName := ⟨RX1, "print", "(JI)I"⟩
abbrev cX1_shortest : ByteArray := prog_1_method_6_code
def yX1_shortest : MethodName := ⟨RX1, "shortest", "(J)I"⟩
abbrev cX1_letter : ByteArray := prog_1_method_7_code
def yX1_letter : MethodName := ⟨RX1, "letter", "(I)I"⟩
abbrev cX1_isNone : ByteArray := prog_1_method_8_code
def yX1_isNone : MethodName := ⟨RX1, "isNone", "(J)Z"⟩
abbrev cX1_mantissaOf : ByteArray := prog_1_method_9_code
def yX1_mantissaOf : MethodName := ⟨RX1, "mantissaOf", "(J)J"⟩
abbrev cX1_powerOf : ByteArray := prog_1_method_10_code
def yX1_powerOf : MethodName := ⟨RX1, "powerOf", "(J)I"⟩
abbrev cX1_isAt : ByteArray := prog_1_method_11_code
def yX1_isAt : MethodName := ⟨RX1, "isAt", "(II)Z"⟩
abbrev cX1_scanNumeral : ByteArray := prog_1_method_12_code
def yX1_scanNumeral : MethodName := ⟨RX1, "scanNumeral", "()Z"⟩
abbrev cX1_scanPower : ByteArray := prog_1_method_13_code
def yX1_scanPower : MethodName := ⟨RX1, "scanPower", "(I)Z"⟩
abbrev cX1_endOfDigits : ByteArray := prog_1_method_14_code
def yX1_endOfDigits : MethodName := ⟨RX1, "endOfDigits", "(I)I"⟩
abbrev cX1_nearestToNumeral : ByteArray := prog_1_method_15_code
def yX1_nearestToNumeral : MethodName := ⟨RX1, "nearestToNumeral", "()J"⟩
abbrev cX1_leadingDigit : ByteArray := prog_1_method_16_code
def yX1_leadingDigit : MethodName := ⟨RX1, "leadingDigit", "()I"⟩
abbrev cX1_placeOf : ByteArray := prog_1_method_17_code
def yX1_placeOf : MethodName := ⟨RX1, "placeOf", "(I)I"⟩
abbrev cX1_nearestToNumber : ByteArray := prog_1_method_18_code
def yX1_nearestToNumber : MethodName := ⟨RX1, "nearestToNumber", "()J"⟩
abbrev cX1_bitsToScale : ByteArray := prog_1_method_19_code
def yX1_bitsToScale : MethodName := ⟨RX1, "bitsToScale", "(I)I"⟩
abbrev cX1_joined : ByteArray := prog_1_method_20_code
def yX1_joined : MethodName := ⟨RX1, "joined", "(JI)J"⟩
abbrev cX1_putShortest : ByteArray := prog_1_method_21_code
def yX1_putShortest : MethodName := ⟨RX1, "putShortest", "(JI)V"⟩
abbrev cX1_takeEdges : ByteArray := prog_1_method_22_code
def yX1_takeEdges : MethodName := ⟨RX1, "takeEdges", "(JI)V"⟩
abbrev cX1_roundToFewest : ByteArray := prog_1_method_23_code
def yX1_roundToFewest : MethodName := ⟨RX1, "roundToFewest", "(Z)I"⟩
abbrev cX1_isBetweenEdges : ByteArray := prog_1_method_24_code
def yX1_isBetweenEdges : MethodName := ⟨RX1, "isBetweenEdges", "(Z)Z"⟩
abbrev cX1_startText : ByteArray := prog_1_method_25_code
def yX1_startText : MethodName := ⟨RX1, "startText", "(J)V"⟩
abbrev cX1_put : ByteArray := prog_1_method_26_code
def yX1_put : MethodName := ⟨RX1, "put", "(I)V"⟩
abbrev cX1_putDigits : ByteArray := prog_1_method_27_code
def yX1_putDigits : MethodName := ⟨RX1, "putDigits", "(II)V"⟩
abbrev cX1_putPower : ByteArray := prog_1_method_28_code
def yX1_putPower : MethodName := ⟨RX1, "putPower", "(I)V"⟩
def RX2 : String := "DoubleTextModel"
def TX2 : u_T := fun k => match k with
  | 0 => ("DoubleTextModel", "thrown", "I", false)
  | 1 => ("DoubleTextModel", "text", "[I", true)
  | 2 => ("DoubleTextModel", "size", "I", false)
  | 3 => ("DoubleTextModel", "d", "[I", true)
  | 4 => ("DoubleTextModel", "n", "[I", true)
  | 5 => ("DoubleTextModel", "power", "[I", true)
  | 6 => ("DoubleTextModel", "limbs", "[J", true)
  | 7 => ("DoubleTextModel", "used", "I", false)
  | _ => ("DoubleTextModel", "at", "I", false)
def tyX2 : Nat → FieldType := fun k => match k with
  | 0 => .int
  | 1 => .array .int
  | 2 => .int
  | 3 => .array .int
  | 4 => .array .int
  | 5 => .array .int
  | 6 => .array .long
  | 7 => .int
  | _ => .int
abbrev wsX20 : List Cond := u_ws RX2 TX2 9
theorem nmX2 : ∀ a, a < 9 → ∀ b, b < 9 → a ≠ b → (TX2 a).2.1 ≠ (TX2 b).2.1 := by decide +kernel
theorem tyX2_ok : ∀ k, k < 9 → parseFieldDescriptor (TX2 k).2.2.1 = some (tyX2 k) := by decide +kernel
abbrev cX2_init : ByteArray := prog_4_method_1_code
def yX2_init : MethodName := ⟨RX2, "<init>", "()V"⟩
abbrev cX2_thrown : ByteArray := prog_4_method_2_code
def yX2_thrown : MethodName := ⟨RX2, "thrown", "()I"⟩
abbrev cX2_clear : ByteArray := prog_4_method_3_code
def yX2_clear : MethodName := ⟨RX2, "clear", "()V"⟩
abbrev cX2_add : ByteArray := prog_4_method_4_code
def yX2_add : MethodName := ⟨RX2, "add", "(I)I"⟩
abbrev cX2_digit : ByteArray := prog_4_method_5_code
def yX2_digit : MethodName := ⟨RX2, "digit", "(II)I"⟩
abbrev cX2_more : ByteArray := prog_4_method_6_code
def yX2_more : MethodName := ⟨RX2, "more", "(II)V"⟩
abbrev cX2_trim : ByteArray := prog_4_method_7_code
def yX2_trim : MethodName := ⟨RX2, "trim", "(I)V"⟩
abbrev cX2_round : ByteArray := prog_4_method_8_code
def yX2_round : MethodName := ⟨RX2, "round", "(I)V"⟩
abbrev cX2_against : ByteArray := prog_4_method_9_code
def yX2_against : MethodName := ⟨RX2, "against", "(II)I"⟩
abbrev cX2_times : ByteArray := prog_4_method_10_code
def yX2_times : MethodName := ⟨RX2, "times", "(J)V"⟩
abbrev cX2_row : ByteArray := prog_4_method_11_code
def yX2_row : MethodName := ⟨RX2, "row", "(JII)V"⟩
abbrev cX2_whole : ByteArray := prog_4_method_12_code
def yX2_whole : MethodName := ⟨RX2, "whole", "(J)J"⟩
abbrev cX2_two : ByteArray := prog_4_method_13_code
def yX2_two : MethodName := ⟨RX2, "two", "(J)I"⟩
abbrev cX2_rowOf : ByteArray := prog_4_method_14_code
def yX2_rowOf : MethodName := ⟨RX2, "rowOf", "(JI)V"⟩
abbrev cX2_is : ByteArray := prog_4_method_15_code
def yX2_is : MethodName := ⟨RX2, "is", "(I)Z"⟩
abbrev cX2_isDigit : ByteArray := prog_4_method_16_code
def yX2_isDigit : MethodName := ⟨RX2, "isDigit", "()Z"⟩
abbrev cX2_parse : ByteArray := prog_4_method_17_code
def yX2_parse : MethodName := ⟨RX2, "parse", "()Z"⟩
abbrev cX2_nearest : ByteArray := prog_4_method_18_code
def yX2_nearest : MethodName := ⟨RX2, "nearest", "()J"⟩
abbrev cX2_read : ByteArray := prog_4_method_19_code
def yX2_read : MethodName := ⟨RX2, "read", "()J"⟩
abbrev cX2_put : ByteArray := prog_4_method_20_code
def yX2_put : MethodName := ⟨RX2, "put", "(I)V"⟩
abbrev cX2_begins : ByteArray := prog_4_method_21_code
def yX2_begins : MethodName := ⟨RX2, "begins", "(J)Z"⟩
abbrev cX2_print : ByteArray := prog_4_method_22_code
def yX2_print : MethodName := ⟨RX2, "print", "(JI)I"⟩
abbrev cX2_shortest : ByteArray := prog_4_method_23_code
def yX2_shortest : MethodName := ⟨RX2, "shortest", "(J)I"⟩
abbrev cX2_readsAsIt : ByteArray := prog_4_method_24_code
def yX2_readsAsIt : MethodName := ⟨RX2, "readsAsIt", "(IZ)Z"⟩
abbrev cX2_letter : ByteArray := prog_4_method_25_code
def yX2_letter : MethodName := ⟨RX2, "letter", "(I)I"⟩
def RJ6 : String := "java/lang/Integer"
def TJ6 : u_T := fun k => match k with
  | _ => ("", "", "", false)
def tyJ6 : Nat → FieldType := fun k => match k with
  | _ => .int
abbrev wsJ60 : List Cond := u_ws RJ6 TJ6 0
theorem nmJ6 : ∀ a, a < 0 → ∀ b, b < 0 → a ≠ b → (TJ6 a).2.1 ≠ (TJ6 b).2.1 := by decide +kernel
theorem tyJ6_ok : ∀ k, k < 0 → parseFieldDescriptor (TJ6 k).2.2.1 = some (tyJ6 k) := by decide +kernel
abbrev cJ6_numberOfLeadingZeros_0f7a4 : ByteArray := prog_8_method_47_code
def yJ6_numberOfLeadingZeros_0f7a4 : MethodName := ⟨RJ6, "numberOfLeadingZeros", "(I)I"⟩
def RJ13 : String := "java/lang/Long"
def TJ13 : u_T := fun k => match k with
  | _ => ("", "", "", false)
def tyJ13 : Nat → FieldType := fun k => match k with
  | _ => .int
abbrev wsJ130 : List Cond := u_ws RJ13 TJ13 0
theorem nmJ13 : ∀ a, a < 0 → ∀ b, b < 0 → a ≠ b → (TJ13 a).2.1 ≠ (TJ13 b).2.1 := by decide +kernel
theorem tyJ13_ok : ∀ k, k < 0 → parseFieldDescriptor (TJ13 k).2.2.1 = some (tyJ13 k) := by decide +kernel
abbrev cJ13_compare_74951 : ByteArray := prog_9_method_42_code
def yJ13_compare_74951 : MethodName := ⟨RJ13, "compare", "(JJ)I"⟩
abbrev cJ13_numberOfLeadingZeros_95d88 : ByteArray := prog_9_method_48_code
def yJ13_numberOfLeadingZeros_95d88 : MethodName := ⟨RJ13, "numberOfLeadingZeros", "(J)I"⟩
def RJ9 : String := "java/lang/Math"
def TJ9 : u_T := fun k => match k with
  | _ => ("", "", "", false)
def tyJ9 : Nat → FieldType := fun k => match k with
  | _ => .int
abbrev wsJ90 : List Cond := u_ws RJ9 TJ9 0
theorem nmJ9 : ∀ a, a < 0 → ∀ b, b < 0 → a ≠ b → (TJ9 a).2.1 ≠ (TJ9 b).2.1 := by decide +kernel
theorem tyJ9_ok : ∀ k, k < 0 → parseFieldDescriptor (TJ9 k).2.2.1 = some (tyJ9 k) := by decide +kernel
abbrev cJ9_floorDiv_7cf53 : ByteArray := prog_10_method_47_code
def yJ9_floorDiv_7cf53 : MethodName := ⟨RJ9, "floorDiv", "(II)I"⟩
abbrev cJ9_floorMod_7cf53 : ByteArray := prog_10_method_50_code
def yJ9_floorMod_7cf53 : MethodName := ⟨RJ9, "floorMod", "(II)I"⟩
abbrev cJ9_abs_0f7a4 : ByteArray := prog_10_method_59_code
def yJ9_abs_0f7a4 : MethodName := ⟨RJ9, "abs", "(I)I"⟩
abbrev cJ9_max_7cf53 : ByteArray := prog_10_method_65_code
def yJ9_max_7cf53 : MethodName := ⟨RJ9, "max", "(II)I"⟩
abbrev cJ9_min_7cf53 : ByteArray := prog_10_method_69_code
def yJ9_min_7cf53 : MethodName := ⟨RJ9, "min", "(II)I"⟩
def RL : String := "DoubleTextLaw"
abbrev cL_add : ByteArray := method_3_code
def yL_add : MethodName := ⟨RL, "add", "(LDoubleText;I[J)I"⟩
abbrev cL_read : ByteArray := method_4_code
def yL_read : MethodName := ⟨RL, "read", "(LDoubleText;[J)I"⟩
abbrev cL_print : ByteArray := method_5_code
def yL_print : MethodName := ⟨RL, "print", "(LDoubleText;JI[J)I"⟩
abbrev cL_shortest : ByteArray := method_6_code
def yL_shortest : MethodName := ⟨RL, "shortest", "(LDoubleText;J[J)I"⟩
abbrev cL_letter : ByteArray := method_7_code
def yL_letter : MethodName := ⟨RL, "letter", "(LDoubleText;I[J)I"⟩
abbrev cL_law : ByteArray := code
def yL_law : MethodName := ⟨RL, "law", "([I)Z"⟩
def wsL_law0_r1 : List Cond := [Cond.classLink RL 8 RX1, Cond.instantiable RX1 10, Cond.initialized RX1, Cond.classLink RL 35 RX2, Cond.instantiable RX2 9, Cond.initialized RX2, Cond.arrayClass .long, Cond.constantLong RL 56 (4294967295), Cond.methodLink RL 34 yX1_init, Cond.instanceMethod yX1_init, Cond.code yX1_init cX1_init 1 none, Cond.methodLink RX1 1 objectInit, Cond.instanceMethod objectInit, Cond.code objectInit ⟨#[0xb1]⟩ 1 none, Cond.arrayClass .int, Cond.fieldLink RX1 9 "DoubleText" "text" "[I", Cond.classLink RX1 13 RX0, Cond.instantiable RX0 3, Cond.initialized RX0, Cond.fieldLink RX1 16 "DoubleText" "number" "LDoubleText$Decimal;", Cond.fieldLink RX1 20 "DoubleText" "rounded" "LDoubleText$Decimal;", Cond.fieldLink RX1 23 "DoubleText" "lowEdge" "LDoubleText$Decimal;", Cond.fieldLink RX1 26 "DoubleText" "highEdge" "LDoubleText$Decimal;", Cond.methodLink RX1 15 yX0_init]
def wsL_law0_r2 : List Cond := [Cond.instanceMethod yX0_init, Cond.code yX0_init cX0_init 1 none, Cond.methodLink RX0 1 objectInit, Cond.fieldLink RX0 9 "DoubleText$Decimal" "limbs" "[J", Cond.fieldLink RX0 13 "DoubleText$Decimal" "first" "I", Cond.fieldLink RX0 17 "DoubleText$Decimal" "last" "I", Cond.methodLink RL 37 yX2_init, Cond.instanceMethod yX2_init, Cond.code yX2_init cX2_init 1 none, Cond.methodLink RX2 1 objectInit, Cond.fieldLink RX2 7 "DoubleTextModel" "text" "[I", Cond.fieldLink RX2 13 "DoubleTextModel" "d" "[I", Cond.fieldLink RX2 16 "DoubleTextModel" "n" "[I", Cond.fieldLink RX2 19 "DoubleTextModel" "power" "[I", Cond.fieldLink RX2 22 "DoubleTextModel" "limbs" "[J", Cond.methodLink RL 38 yX1_clear, Cond.instanceMethod yX1_clear, Cond.selects RX1 yX1_clear yX1_clear, Cond.code yX1_clear cX1_clear 1 none, Cond.fieldLink RX1 29 "DoubleText" "length" "I", Cond.methodLink RL 41 yX2_clear, Cond.instanceMethod yX2_clear, Cond.selects RX2 yX2_clear yX2_clear, Cond.code yX2_clear cX2_clear 1 none]
def wsL_law0_r3 : List Cond := [Cond.fieldLink RX2 26 "DoubleTextModel" "thrown" "I", Cond.fieldLink RX2 30 "DoubleTextModel" "size" "I", Cond.methodLink RL 42 yL_add, Cond.static yL_add, Cond.initialized RL, Cond.codeWith yL_add cL_add 4 (some .int) [(0, 9, 12, 13), (0, 9, 15, 15)], Cond.classLink RL 13 "java/lang/IllegalArgumentException", Cond.classLink RL 15 "java/lang/IllegalStateException", Cond.methodLink RL 7 yX1_add, Cond.instanceMethod yX1_add, Cond.selects RX1 yX1_add yX1_add, Cond.code yX1_add cX1_add 2 (some .int), Cond.classLink RX1 33 "java/lang/IllegalArgumentException", Cond.initialized "java/lang/IllegalArgumentException", Cond.classLink RX1 36 "java/lang/IllegalStateException", Cond.initialized "java/lang/IllegalStateException", Cond.methodLink RX1 39 yX1_put, Cond.instanceMethod yX1_put, Cond.selects RX1 yX1_put yX1_put, Cond.code yX1_put cX1_put 2 none, Cond.methodLink RL 47 yX2_add, Cond.instanceMethod yX2_add, Cond.selects RX2 yX2_add yX2_add, Cond.code yX2_add cX2_add 2 (some .int)]
def wsL_law0_r4 : List Cond := [Cond.methodLink RL 48 yX2_thrown, Cond.instanceMethod yX2_thrown, Cond.selects RX2 yX2_thrown yX2_thrown, Cond.code yX2_thrown cX2_thrown 1 (some .int), Cond.methodLink RL 52 yL_read, Cond.static yL_read, Cond.codeWith yL_read cL_read 3 (some .int) [(0, 7, 10, 15)], Cond.methodLink RL 17 yX1_read, Cond.instanceMethod yX1_read, Cond.selects RX1 yX1_read yX1_read, Cond.code yX1_read cX1_read 3 (some .long), Cond.constantLong RX1 55 (-9223372036854775808), Cond.methodLink RX1 43 yX1_scanNumeral, Cond.instanceMethod yX1_scanNumeral, Cond.selects RX1 yX1_scanNumeral yX1_scanNumeral, Cond.code yX1_scanNumeral cX1_scanNumeral 2 (some .boolean), Cond.fieldLink RX1 110 "DoubleText" "digitsStart" "I", Cond.fieldLink RX1 117 "DoubleText" "digitsEnd" "I", Cond.fieldLink RX1 120 "DoubleText" "unitsAt" "I", Cond.fieldLink RX1 123 "DoubleText" "tenPower" "I", Cond.methodLink RX1 51 yX1_isAt, Cond.instanceMethod yX1_isAt, Cond.selects RX1 yX1_isAt yX1_isAt, Cond.code yX1_isAt cX1_isAt 3 (some .boolean)]
def wsL_law0_r5 : List Cond := [Cond.methodLink RX1 113 yX1_endOfDigits, Cond.instanceMethod yX1_endOfDigits, Cond.selects RX1 yX1_endOfDigits yX1_endOfDigits, Cond.code yX1_endOfDigits cX1_endOfDigits 3 (some .int), Cond.methodLink RX1 126 yX1_scanPower, Cond.instanceMethod yX1_scanPower, Cond.selects RX1 yX1_scanPower yX1_scanPower, Cond.code yX1_scanPower cX1_scanPower 6 (some .boolean), Cond.methodLink RX1 47 yX1_nearestToNumeral, Cond.instanceMethod yX1_nearestToNumeral, Cond.selects RX1 yX1_nearestToNumeral yX1_nearestToNumeral, Cond.code yX1_nearestToNumeral cX1_nearestToNumeral 3 (some .long), Cond.constantLong RX1 104 (9218868437227405312), Cond.methodLink RX1 130 yX1_leadingDigit, Cond.instanceMethod yX1_leadingDigit, Cond.selects RX1 yX1_leadingDigit yX1_leadingDigit, Cond.code yX1_leadingDigit cX1_leadingDigit 2 (some .int), Cond.methodLink RX1 133 yX1_placeOf, Cond.instanceMethod yX1_placeOf, Cond.selects RX1 yX1_placeOf yX1_placeOf, Cond.code yX1_placeOf cX1_placeOf 3 (some .int), Cond.methodLink RX1 136 yX0_wipe, Cond.instanceMethod yX0_wipe, Cond.selects RX0 yX0_wipe yX0_wipe]
def wsL_law0_r6 : List Cond := [Cond.code yX0_wipe cX0_wipe 2 none, Cond.methodLink RX1 139 yX0_setDigit, Cond.instanceMethod yX0_setDigit, Cond.selects RX0 yX0_setDigit yX0_setDigit, Cond.code yX0_setDigit cX0_setDigit 4 none, Cond.methodLink RX0 28 Lib.Math.min.name, Cond.static Lib.Math.min.name, Cond.initialized "java/lang/Math", Cond.code Lib.Math.min.name Lib.Math.min.code 2 (some .int), Cond.methodLink RX0 34 Lib.Math.max.name, Cond.static Lib.Math.max.name, Cond.code Lib.Math.max.name Lib.Math.max.code 2 (some .int), Cond.methodLink RX0 20 yX0_limbOf, Cond.static yX0_limbOf, Cond.code yX0_limbOf cX0_limbOf 1 (some .int), Cond.methodLink RX0 83 yJ9_floorDiv_7cf53, Cond.static yJ9_floorDiv_7cf53, Cond.initialized RJ9, Cond.code yJ9_floorDiv_7cf53 cJ9_floorDiv_7cf53 3 (some .int), Cond.methodLink RX0 24 yX0_unitOf, Cond.static yX0_unitOf, Cond.code yX0_unitOf cX0_unitOf 1 (some .long), Cond.fieldLink RX0 42 "DoubleText$Decimal" "TENS" "[J", Cond.methodLink RX0 86 yJ9_floorMod_7cf53]
def wsL_law0_r7 : List Cond := [Cond.static yJ9_floorMod_7cf53, Cond.code yJ9_floorMod_7cf53 cJ9_floorMod_7cf53 3 (some .int), Cond.methodLink RX1 142 yX1_nearestToNumber, Cond.instanceMethod yX1_nearestToNumber, Cond.selects RX1 yX1_nearestToNumber yX1_nearestToNumber, Cond.code yX1_nearestToNumber cX1_nearestToNumber 4 (some .long), Cond.methodLink RX1 145 yX0_isWide, Cond.instanceMethod yX0_isWide, Cond.selects RX0 yX0_isWide yX0_isWide, Cond.code yX0_isWide cX0_isWide 1 (some .boolean), Cond.methodLink RX1 148 yX0_scale, Cond.instanceMethod yX0_scale, Cond.selects RX0 yX0_scale yX0_scale, Cond.code yX0_scale cX0_scale 3 none, Cond.methodLink RX0 57 yX0_scaleUp, Cond.instanceMethod yX0_scaleUp, Cond.selects RX0 yX0_scaleUp yX0_scaleUp, Cond.code yX0_scaleUp cX0_scaleUp 7 none, Cond.constantLong RX0 45 (1000000000), Cond.methodLink RX0 50 yX0_trim, Cond.instanceMethod yX0_trim, Cond.selects RX0 yX0_trim yX0_trim, Cond.code yX0_trim cX0_trim 1 none, Cond.methodLink RX0 60 yX0_scaleDown]
def wsL_law0_r8 : List Cond := [Cond.instanceMethod yX0_scaleDown, Cond.selects RX0 yX0_scaleDown yX0_scaleDown, Cond.code yX0_scaleDown cX0_scaleDown 9 none, Cond.methodLink RX1 151 yX1_bitsToScale, Cond.instanceMethod yX1_bitsToScale, Cond.selects RX1 yX1_bitsToScale yX1_bitsToScale, Cond.code yX1_bitsToScale cX1_bitsToScale 4 (some .int), Cond.methodLink RX1 166 Lib.Math.min.name, Cond.methodLink RX1 154 yX0_whole, Cond.instanceMethod yX0_whole, Cond.selects RX0 yX0_whole yX0_whole, Cond.code yX0_whole cX0_whole 1 (some .long), Cond.methodLink RX1 161 yJ13_numberOfLeadingZeros_95d88, Cond.static yJ13_numberOfLeadingZeros_95d88, Cond.initialized RJ13, Cond.code yJ13_numberOfLeadingZeros_95d88 cJ13_numberOfLeadingZeros_95d88 3 (some .int), Cond.methodLink RJ13 308 yJ6_numberOfLeadingZeros_0f7a4, Cond.static yJ6_numberOfLeadingZeros_0f7a4, Cond.initialized RJ6, Cond.code yJ6_numberOfLeadingZeros_0f7a4 cJ6_numberOfLeadingZeros_0f7a4 2 (some .int), Cond.constant RJ6 264 (65536), Cond.methodLink RX1 73 yX0_takeRounded, Cond.instanceMethod yX0_takeRounded, Cond.selects RX0 yX0_takeRounded yX0_takeRounded]
def wsL_law0_r9 : List Cond := [Cond.code yX0_takeRounded cX0_takeRounded 6 none, Cond.methodLink RX0 47 yX0_wipe, Cond.methodLink RX0 63 yX0_roundsUp, Cond.instanceMethod yX0_roundsUp, Cond.selects RX0 yX0_roundsUp yX0_roundsUp, Cond.code yX0_roundsUp cX0_roundsUp 5 (some .boolean), Cond.constantLong RX0 75 (2), Cond.methodLink RX0 71 yX0_sideOfHalf, Cond.instanceMethod yX0_sideOfHalf, Cond.selects RX0 yX0_sideOfHalf yX0_sideOfHalf, Cond.code yX0_sideOfHalf cX0_sideOfHalf 8 (some .int), Cond.methodLink RX0 37 yX0_limb, Cond.instanceMethod yX0_limb, Cond.selects RX0 yX0_limb yX0_limb, Cond.code yX0_limb cX0_limb 2 (some .long), Cond.methodLink RX0 77 yJ13_compare_74951, Cond.static yJ13_compare_74951, Cond.code yJ13_compare_74951 cJ13_compare_74951 4 (some .int), Cond.methodLink RX0 67 yX0_countUp, Cond.instanceMethod yX0_countUp, Cond.selects RX0 yX0_countUp yX0_countUp, Cond.code yX0_countUp cX0_countUp 5 none, Cond.methodLink RX1 157 yX1_joined, Cond.static yX1_joined]
def wsL_law0_r10 : List Cond := [Cond.code yX1_joined cX1_joined 3 (some .long), Cond.methodLink RL 55 yX2_read, Cond.instanceMethod yX2_read, Cond.selects RX2 yX2_read yX2_read, Cond.code yX2_read cX2_read 2 (some .long), Cond.fieldLink RX2 80 "DoubleTextModel" "at" "I", Cond.constantLong RX2 111 (-9223372036854775808), Cond.methodLink RX2 87 yX2_is, Cond.instanceMethod yX2_is, Cond.selects RX2 yX2_is yX2_is, Cond.code yX2_is cX2_is 2 (some .boolean), Cond.methodLink RX2 104 yX2_parse, Cond.instanceMethod yX2_parse, Cond.selects RX2 yX2_parse yX2_parse, Cond.code yX2_parse cX2_parse 4 (some .boolean), Cond.methodLink RX2 83 yX2_isDigit, Cond.instanceMethod yX2_isDigit, Cond.selects RX2 yX2_isDigit yX2_isDigit, Cond.code yX2_isDigit cX2_isDigit 1 (some .boolean), Cond.methodLink RX2 56 yX2_more, Cond.instanceMethod yX2_more, Cond.selects RX2 yX2_more yX2_more, Cond.code yX2_more cX2_more 3 none, Cond.methodLink RX2 60 yX2_trim]
def wsL_law0_r11 : List Cond := [Cond.instanceMethod yX2_trim, Cond.selects RX2 yX2_trim yX2_trim, Cond.code yX2_trim cX2_trim 4 none, Cond.methodLink RX2 107 yX2_nearest, Cond.instanceMethod yX2_nearest, Cond.selects RX2 yX2_nearest yX2_nearest, Cond.code yX2_nearest cX2_nearest 7 (some .long), Cond.constantLong RX2 91 (9218868437227405312), Cond.constantLong RX2 93 (9218868437227405311), Cond.constantLong RX2 95 (2), Cond.methodLink RX2 97 yX2_rowOf, Cond.instanceMethod yX2_rowOf, Cond.selects RX2 yX2_rowOf yX2_rowOf, Cond.code yX2_rowOf cX2_rowOf 4 none, Cond.methodLink RX2 68 yX2_whole, Cond.static yX2_whole, Cond.code yX2_whole cX2_whole 2 (some .long), Cond.constantLong RX2 64 (4503599627370495), Cond.constantLong RX2 66 (4503599627370496), Cond.methodLink RX2 72 yX2_two, Cond.static yX2_two, Cond.code yX2_two cX2_two 2 (some .int), Cond.methodLink RX2 76 yX2_row, Cond.instanceMethod yX2_row]
def wsL_law0_r12 : List Cond := [Cond.selects RX2 yX2_row yX2_row, Cond.code yX2_row cX2_row 8 none, Cond.fieldLink RX2 37 "DoubleTextModel" "used" "I", Cond.constantLong RX2 40 (1000000000), Cond.constantLong RX2 42 (536870912), Cond.constantLong RX2 48 (244140625), Cond.constantLong RX2 50 (5), Cond.constantLong RX2 52 (100000000), Cond.constantLong RX2 54 (10), Cond.methodLink RX2 44 yX2_times, Cond.instanceMethod yX2_times, Cond.selects RX2 yX2_times yX2_times, Cond.code yX2_times cX2_times 6 none, Cond.methodLink RX2 101 yX2_against, Cond.instanceMethod yX2_against, Cond.selects RX2 yX2_against yX2_against, Cond.code yX2_against cX2_against 4 (some .int), Cond.methodLink RX2 33 yX2_digit, Cond.instanceMethod yX2_digit, Cond.selects RX2 yX2_digit yX2_digit, Cond.code yX2_digit cX2_digit 3 (some .int), Cond.methodLink RL 58 yL_print, Cond.static yL_print, Cond.codeWith yL_print cL_print 6 (some .int) [(0, 11, 14, 13), (0, 11, 18, 15)]]
def wsL_law0_r13 : List Cond := [Cond.methodLink RL 21 yX1_print, Cond.instanceMethod yX1_print, Cond.selects RX1 yX1_print yX1_print, Cond.code yX1_print cX1_print 4 (some .int), Cond.methodLink RX1 85 Lib.Math.max.name, Cond.methodLink RX1 57 yX1_isNone, Cond.static yX1_isNone, Cond.code yX1_isNone cX1_isNone 2 (some .boolean), Cond.methodLink RX1 61 yX1_mantissaOf, Cond.static yX1_mantissaOf, Cond.code yX1_mantissaOf cX1_mantissaOf 4 (some .long), Cond.constantLong RX1 106 (4503599627370495), Cond.constantLong RX1 108 (4503599627370496), Cond.methodLink RX1 65 yX1_powerOf, Cond.static yX1_powerOf, Cond.code yX1_powerOf cX1_powerOf 3 (some .int), Cond.methodLink RX1 69 yX0_takeScaled, Cond.instanceMethod yX0_takeScaled, Cond.selects RX0 yX0_takeScaled yX0_takeScaled, Cond.code yX0_takeScaled cX0_takeScaled 4 none, Cond.methodLink RX0 53 yX0_scale, Cond.methodLink RX1 77 yX1_startText, Cond.instanceMethod yX1_startText, Cond.selects RX1 yX1_startText yX1_startText]
def wsL_law0_r14 : List Cond := [Cond.code yX1_startText cX1_startText 3 none, Cond.methodLink RX1 81 yX0_topPlace, Cond.instanceMethod yX0_topPlace, Cond.selects RX0 yX0_topPlace yX0_topPlace, Cond.code yX0_topPlace cX0_topPlace 4 (some .int), Cond.methodLink RX1 91 yX1_putDigits, Cond.instanceMethod yX1_putDigits, Cond.selects RX1 yX1_putDigits yX1_putDigits, Cond.code yX1_putDigits cX1_putDigits 4 none, Cond.methodLink RX1 188 yX0_digit, Cond.instanceMethod yX0_digit, Cond.selects RX0 yX0_digit yX0_digit, Cond.code yX0_digit cX0_digit 2 (some .int), Cond.constantLong RX0 40 (10), Cond.methodLink RL 61 yX2_print, Cond.instanceMethod yX2_print, Cond.selects RX2 yX2_print yX2_print, Cond.code yX2_print cX2_print 5 (some .int), Cond.constantLong RX2 120 (9223372036854775807), Cond.methodLink RX2 116 yX2_begins, Cond.instanceMethod yX2_begins, Cond.selects RX2 yX2_begins yX2_begins, Cond.code yX2_begins cX2_begins 3 (some .boolean), Cond.methodLink RX2 113 yX2_put]
def wsL_law0_r15 : List Cond := [Cond.instanceMethod yX2_put, Cond.selects RX2 yX2_put yX2_put, Cond.code yX2_put cX2_put 2 none, Cond.methodLink RX2 122 yX2_round, Cond.instanceMethod yX2_round, Cond.selects RX2 yX2_round yX2_round, Cond.code yX2_round cX2_round 7 none, Cond.methodLink RL 62 yL_shortest, Cond.static yL_shortest, Cond.codeWith yL_shortest cL_shortest 5 (some .int) [(0, 9, 12, 15)], Cond.methodLink RL 25 yX1_shortest, Cond.instanceMethod yX1_shortest, Cond.selects RX1 yX1_shortest yX1_shortest, Cond.code yX1_shortest cX1_shortest 3 (some .int), Cond.methodLink RX1 95 yX1_putPower, Cond.instanceMethod yX1_putPower, Cond.selects RX1 yX1_putPower yX1_putPower, Cond.code yX1_putPower cX1_putPower 3 none, Cond.methodLink RX1 191 Lib.Math.abs.name, Cond.static Lib.Math.abs.name, Cond.code Lib.Math.abs.name Lib.Math.abs.code 1 (some .int), Cond.methodLink RX1 98 yX1_putShortest, Cond.instanceMethod yX1_putShortest, Cond.selects RX1 yX1_putShortest yX1_putShortest]
def wsL_law0_r16 : List Cond := [Cond.code yX1_putShortest cX1_putShortest 6 none, Cond.constantLong RX1 172 (2), Cond.methodLink RX1 169 yX1_takeEdges, Cond.instanceMethod yX1_takeEdges, Cond.selects RX1 yX1_takeEdges yX1_takeEdges, Cond.code yX1_takeEdges cX1_takeEdges 7 none, Cond.constantLong RX1 178 (4), Cond.methodLink RX1 174 yX1_roundToFewest, Cond.instanceMethod yX1_roundToFewest, Cond.selects RX1 yX1_roundToFewest yX1_roundToFewest, Cond.code yX1_roundToFewest cX1_roundToFewest 4 (some .int), Cond.methodLink RX1 180 yX1_isBetweenEdges, Cond.instanceMethod yX1_isBetweenEdges, Cond.selects RX1 yX1_isBetweenEdges yX1_isBetweenEdges, Cond.code yX1_isBetweenEdges cX1_isBetweenEdges 4 (some .boolean), Cond.methodLink RX1 184 yX0_comparedTo, Cond.instanceMethod yX0_comparedTo, Cond.selects RX0 yX0_comparedTo yX0_comparedTo, Cond.code yX0_comparedTo cX0_comparedTo 4 (some .int), Cond.methodLink RL 65 yX2_shortest, Cond.instanceMethod yX2_shortest, Cond.selects RX2 yX2_shortest yX2_shortest, Cond.code yX2_shortest cX2_shortest 10 (some .int), Cond.constantLong RX2 125 (4)]
def wsL_law0_r17 : List Cond := [Cond.methodLink RX2 127 yX2_readsAsIt, Cond.instanceMethod yX2_readsAsIt, Cond.selects RX2 yX2_readsAsIt yX2_readsAsIt, Cond.code yX2_readsAsIt cX2_readsAsIt 5 (some .boolean), Cond.methodLink RL 66 yL_letter, Cond.static yL_letter, Cond.codeWith yL_letter cL_letter 4 (some .int) [(0, 9, 12, 32)], Cond.classLink RL 32 "java/util/NoSuchElementException", Cond.methodLink RL 29 yX1_letter, Cond.instanceMethod yX1_letter, Cond.selects RX1 yX1_letter yX1_letter, Cond.code yX1_letter cX1_letter 2 (some .int), Cond.classLink RX1 101 "java/util/NoSuchElementException", Cond.initialized "java/util/NoSuchElementException", Cond.methodLink RL 68 yX2_letter, Cond.instanceMethod yX2_letter, Cond.selects RX2 yX2_letter yX2_letter, Cond.code yX2_letter cX2_letter 2 (some .int)]
def wsL_law0 : List Cond := (wsL_law0_r1 ++ (wsL_law0_r2 ++ (wsL_law0_r3 ++ (wsL_law0_r4 ++ (wsL_law0_r5 ++ (wsL_law0_r6 ++ (wsL_law0_r7 ++ (wsL_law0_r8 ++ (wsL_law0_r9 ++ (wsL_law0_r10 ++ (wsL_law0_r11 ++ (wsL_law0_r12 ++ (wsL_law0_r13 ++ (wsL_law0_r14 ++ (wsL_law0_r15 ++ (wsL_law0_r16 ++ wsL_law0_r17)))))))))))))))) ++ wsX10 ++ wsX20 ++ wsX00 ++ ([] : List Cond)
def wsL_law : List Cond := wsL_law0 ++ (vx_at0 RX1 35 "java/lang/IllegalArgumentException" ["java/lang/RuntimeException", "java/lang/Exception"]).filter goodWord ++ (vx_at0 RX1 38 "java/lang/IllegalStateException" ["java/lang/RuntimeException", "java/lang/Exception"]).filter goodWord ++ (vx_at0 RX1 103 "java/util/NoSuchElementException" ["java/lang/RuntimeException", "java/lang/Exception"]).filter goodWord
theorem inlX0 : ∀ w ∈ wsX00, w ∈ wsL_law := fun _ h => List.mem_append_left _ (List.mem_append_left _ (List.mem_append_left _ (List.mem_append_left _ (List.mem_append_right _ h))))
theorem inlX1 : ∀ w ∈ wsX10, w ∈ wsL_law := fun _ h => List.mem_append_left _ (List.mem_append_left _ (List.mem_append_left _ (List.mem_append_left _ (List.mem_append_left _ (List.mem_append_left _ (List.mem_append_right _ h))))))
theorem inlX2 : ∀ w ∈ wsX20, w ∈ wsL_law := fun _ h => List.mem_append_left _ (List.mem_append_left _ (List.mem_append_left _ (List.mem_append_left _ (List.mem_append_left _ (List.mem_append_right _ h)))))
abbrev vwCl : List vw_C := [(RX0, TX0, 3), (RX1, TX1, 10), (RX2, TX2, 9)]
end
section
theorem dX0_init_0 : decode cX0_init 0 = .ok (.aload_n 0, 1) := by decide +kernel
theorem dX0_init_1 : decode cX0_init 1 = .ok (.invokespecial 1, 3) := by decide +kernel
theorem dX0_init_4 : decode cX0_init 4 = .ok (.aload_n 0, 1) := by decide +kernel
theorem dX0_init_5 : decode cX0_init 5 = .ok (.sipush 160, 3) := by decide +kernel
theorem dX0_init_8 : decode cX0_init 8 = .ok (.newarray .long, 2) := by decide +kernel
theorem dX0_init_10 : decode cX0_init 10 = .ok (.putfield 9, 3) := by decide +kernel
theorem dX0_init_13 : decode cX0_init 13 = .ok (.aload_n 0, 1) := by decide +kernel
theorem dX0_init_14 : decode cX0_init 14 = .ok (.sipush 160, 3) := by decide +kernel
theorem dX0_init_17 : decode cX0_init 17 = .ok (.putfield 13, 3) := by decide +kernel
theorem dX0_init_20 : decode cX0_init 20 = .ok (.aload_n 0, 1) := by decide +kernel
theorem dX0_init_21 : decode cX0_init 21 = .ok (.iconst (-1), 1) := by decide +kernel
theorem dX0_init_22 : decode cX0_init 22 = .ok (.putfield 17, 3) := by decide +kernel
theorem dX0_init_25 : decode cX0_init 25 = .ok (.return_, 1) := by decide +kernel
theorem dX0_wipe_0 : decode cX0_wipe 0 = .ok (.aload_n 0, 1) := by decide +kernel
theorem dX0_wipe_1 : decode cX0_wipe 1 = .ok (.getfield 13, 3) := by decide +kernel
theorem dX0_wipe_4 : decode cX0_wipe 4 = .ok (.istore_n 1, 1) := by decide +kernel
theorem dX0_wipe_5 : decode cX0_wipe 5 = .ok (.iload_n 1, 1) := by decide +kernel
theorem dX0_wipe_6 : decode cX0_wipe 6 = .ok (.aload_n 0, 1) := by decide +kernel
theorem dX0_wipe_7 : decode cX0_wipe 7 = .ok (.getfield 17, 3) := by decide +kernel
theorem dX0_wipe_10 : decode cX0_wipe 10 = .ok (.if_icmp .gt 16, 3) := by decide +kernel
theorem dX0_wipe_13 : decode cX0_wipe 13 = .ok (.aload_n 0, 1) := by decide +kernel
theorem dX0_wipe_14 : decode cX0_wipe 14 = .ok (.getfield 9, 3) := by decide +kernel
theorem dX0_wipe_17 : decode cX0_wipe 17 = .ok (.iload_n 1, 1) := by decide +kernel
theorem dX0_wipe_18 : decode cX0_wipe 18 = .ok (.lconst 0, 1) := by decide +kernel
theorem dX0_wipe_19 : decode cX0_wipe 19 = .ok (.lastore, 1) := by decide +kernel
theorem dX0_wipe_20 : decode cX0_wipe 20 = .ok (.iinc 1 1, 3) := by decide +kernel
theorem dX0_wipe_23 : decode cX0_wipe 23 = .ok (.goto (-18), 3) := by decide +kernel
theorem dX0_wipe_26 : decode cX0_wipe 26 = .ok (.aload_n 0, 1) := by decide +kernel
theorem dX0_wipe_27 : decode cX0_wipe 27 = .ok (.sipush 160, 3) := by decide +kernel
theorem dX0_wipe_30 : decode cX0_wipe 30 = .ok (.putfield 13, 3) := by decide +kernel
theorem dX0_wipe_33 : decode cX0_wipe 33 = .ok (.aload_n 0, 1) := by decide +kernel
theorem dX0_wipe_34 : decode cX0_wipe 34 = .ok (.iconst (-1), 1) := by decide +kernel
theorem dX0_wipe_35 : decode cX0_wipe 35 = .ok (.putfield 17, 3) := by decide +kernel
theorem dX0_wipe_38 : decode cX0_wipe 38 = .ok (.return_, 1) := by decide +kernel
theorem dX0_setDigit_0 : decode cX0_setDigit 0 = .ok (.iload_n 1, 1) := by decide +kernel
theorem dX0_setDigit_1 : decode cX0_setDigit 1 = .ok (.invokestatic 20, 3) := by decide +kernel
theorem dX0_setDigit_4 : decode cX0_setDigit 4 = .ok (.istore_n 3, 1) := by decide +kernel
theorem dX0_setDigit_5 : decode cX0_setDigit 5 = .ok (.iload_n 3, 1) := by decide +kernel
theorem dX0_setDigit_6 : decode cX0_setDigit 6 = .ok (.ifCond .lt 14, 3) := by decide +kernel
theorem dX0_setDigit_9 : decode cX0_setDigit 9 = .ok (.iload_n 3, 1) := by decide +kernel
theorem dX0_setDigit_10 : decode cX0_setDigit 10 = .ok (.sipush 160, 3) := by decide +kernel
theorem dX0_setDigit_13 : decode cX0_setDigit 13 = .ok (.if_icmp .ge 7, 3) := by decide +kernel
theorem dX0_setDigit_16 : decode cX0_setDigit 16 = .ok (.iload_n 2, 1) := by decide +kernel
theorem dX0_setDigit_17 : decode cX0_setDigit 17 = .ok (.ifCond .ne 4, 3) := by decide +kernel
theorem dX0_setDigit_20 : decode cX0_setDigit 20 = .ok (.return_, 1) := by decide +kernel
theorem dX0_setDigit_21 : decode cX0_setDigit 21 = .ok (.aload_n 0, 1) := by decide +kernel
theorem dX0_setDigit_22 : decode cX0_setDigit 22 = .ok (.getfield 9, 3) := by decide +kernel
theorem dX0_setDigit_25 : decode cX0_setDigit 25 = .ok (.iload_n 3, 1) := by decide +kernel
theorem dX0_setDigit_26 : decode cX0_setDigit 26 = .ok (.dup2, 1) := by decide +kernel
theorem dX0_setDigit_27 : decode cX0_setDigit 27 = .ok (.laload, 1) := by decide +kernel
theorem dX0_setDigit_28 : decode cX0_setDigit 28 = .ok (.iload_n 2, 1) := by decide +kernel
theorem dX0_setDigit_29 : decode cX0_setDigit 29 = .ok (.i2l, 1) := by decide +kernel
theorem dX0_setDigit_30 : decode cX0_setDigit 30 = .ok (.iload_n 1, 1) := by decide +kernel
theorem dX0_setDigit_31 : decode cX0_setDigit 31 = .ok (.invokestatic 24, 3) := by decide +kernel
theorem dX0_setDigit_34 : decode cX0_setDigit 34 = .ok (.lmul, 1) := by decide +kernel
theorem dX0_setDigit_35 : decode cX0_setDigit 35 = .ok (.ladd, 1) := by decide +kernel
theorem dX0_setDigit_36 : decode cX0_setDigit 36 = .ok (.lastore, 1) := by decide +kernel
theorem dX0_setDigit_37 : decode cX0_setDigit 37 = .ok (.aload_n 0, 1) := by decide +kernel
theorem dX0_setDigit_38 : decode cX0_setDigit 38 = .ok (.aload_n 0, 1) := by decide +kernel
theorem dX0_setDigit_39 : decode cX0_setDigit 39 = .ok (.getfield 13, 3) := by decide +kernel
theorem dX0_setDigit_42 : decode cX0_setDigit 42 = .ok (.iload_n 3, 1) := by decide +kernel
theorem dX0_setDigit_43 : decode cX0_setDigit 43 = .ok (.invokestatic 28, 3) := by decide +kernel
theorem dX0_setDigit_46 : decode cX0_setDigit 46 = .ok (.putfield 13, 3) := by decide +kernel
theorem dX0_setDigit_49 : decode cX0_setDigit 49 = .ok (.aload_n 0, 1) := by decide +kernel
theorem dX0_setDigit_50 : decode cX0_setDigit 50 = .ok (.aload_n 0, 1) := by decide +kernel
theorem dX0_setDigit_51 : decode cX0_setDigit 51 = .ok (.getfield 17, 3) := by decide +kernel
theorem dX0_setDigit_54 : decode cX0_setDigit 54 = .ok (.iload_n 3, 1) := by decide +kernel
theorem dX0_setDigit_55 : decode cX0_setDigit 55 = .ok (.invokestatic 34, 3) := by decide +kernel
theorem dX0_setDigit_58 : decode cX0_setDigit 58 = .ok (.putfield 17, 3) := by decide +kernel
theorem dX0_setDigit_61 : decode cX0_setDigit 61 = .ok (.return_, 1) := by decide +kernel
theorem dX0_digit_0 : decode cX0_digit 0 = .ok (.aload_n 0, 1) := by decide +kernel
theorem dX0_digit_1 : decode cX0_digit 1 = .ok (.iload_n 1, 1) := by decide +kernel
theorem dX0_digit_2 : decode cX0_digit 2 = .ok (.invokestatic 20, 3) := by decide +kernel
theorem dX0_digit_5 : decode cX0_digit 5 = .ok (.invokevirtual 37, 3) := by decide +kernel
theorem dX0_digit_8 : decode cX0_digit 8 = .ok (.iload_n 1, 1) := by decide +kernel
theorem dX0_digit_9 : decode cX0_digit 9 = .ok (.invokestatic 24, 3) := by decide +kernel
theorem dX0_digit_12 : decode cX0_digit 12 = .ok (.ldiv, 1) := by decide +kernel
theorem dX0_digit_13 : decode cX0_digit 13 = .ok (.ldc2_w 40, 3) := by decide +kernel
theorem dX0_digit_16 : decode cX0_digit 16 = .ok (.lrem, 1) := by decide +kernel
theorem dX0_digit_17 : decode cX0_digit 17 = .ok (.l2i, 1) := by decide +kernel
theorem dX0_digit_18 : decode cX0_digit 18 = .ok (.ireturn, 1) := by decide +kernel
theorem dX0_topPlace_0 : decode cX0_topPlace 0 = .ok (.aload_n 0, 1) := by decide +kernel
theorem dX0_topPlace_1 : decode cX0_topPlace 1 = .ok (.aload_n 0, 1) := by decide +kernel
theorem dX0_topPlace_2 : decode cX0_topPlace 2 = .ok (.getfield 13, 3) := by decide +kernel
theorem dX0_topPlace_5 : decode cX0_topPlace 5 = .ok (.invokevirtual 37, 3) := by decide +kernel
theorem dX0_topPlace_8 : decode cX0_topPlace 8 = .ok (.lstore_n 1, 1) := by decide +kernel
theorem dX0_topPlace_9 : decode cX0_topPlace 9 = .ok (.lload_n 1, 1) := by decide +kernel
theorem dX0_topPlace_10 : decode cX0_topPlace 10 = .ok (.lconst 0, 1) := by decide +kernel
theorem dX0_topPlace_11 : decode cX0_topPlace 11 = .ok (.lcmp, 1) := by decide +kernel
theorem dX0_topPlace_12 : decode cX0_topPlace 12 = .ok (.ifCond .ne 5, 3) := by decide +kernel
theorem dX0_topPlace_15 : decode cX0_topPlace 15 = .ok (.iconst 0, 1) := by decide +kernel
theorem dX0_topPlace_16 : decode cX0_topPlace 16 = .ok (.ireturn, 1) := by decide +kernel
theorem dX0_topPlace_17 : decode cX0_topPlace 17 = .ok (.bipush 8, 2) := by decide +kernel
theorem dX0_topPlace_19 : decode cX0_topPlace 19 = .ok (.istore_n 3, 1) := by decide +kernel
theorem dX0_topPlace_20 : decode cX0_topPlace 20 = .ok (.iload_n 3, 1) := by decide +kernel
theorem dX0_topPlace_21 : decode cX0_topPlace 21 = .ok (.ifCond .le 19, 3) := by decide +kernel
theorem dX0_topPlace_24 : decode cX0_topPlace 24 = .ok (.lload_n 1, 1) := by decide +kernel
theorem dX0_topPlace_25 : decode cX0_topPlace 25 = .ok (.getstatic 42, 3) := by decide +kernel
theorem dX0_topPlace_28 : decode cX0_topPlace 28 = .ok (.iload_n 3, 1) := by decide +kernel
theorem dX0_topPlace_29 : decode cX0_topPlace 29 = .ok (.laload, 1) := by decide +kernel
theorem dX0_topPlace_30 : decode cX0_topPlace 30 = .ok (.lcmp, 1) := by decide +kernel
theorem dX0_topPlace_31 : decode cX0_topPlace 31 = .ok (.ifCond .ge 9, 3) := by decide +kernel
theorem dX0_topPlace_34 : decode cX0_topPlace 34 = .ok (.iinc 3 (-1), 3) := by decide +kernel
theorem dX0_topPlace_37 : decode cX0_topPlace 37 = .ok (.goto (-17), 3) := by decide +kernel
theorem dX0_topPlace_40 : decode cX0_topPlace 40 = .ok (.bipush 34, 2) := by decide +kernel
theorem dX0_topPlace_42 : decode cX0_topPlace 42 = .ok (.aload_n 0, 1) := by decide +kernel
theorem dX0_topPlace_43 : decode cX0_topPlace 43 = .ok (.getfield 13, 3) := by decide +kernel
theorem dX0_topPlace_46 : decode cX0_topPlace 46 = .ok (.isub, 1) := by decide +kernel
theorem dX0_topPlace_47 : decode cX0_topPlace 47 = .ok (.bipush 9, 2) := by decide +kernel
theorem dX0_topPlace_49 : decode cX0_topPlace 49 = .ok (.imul, 1) := by decide +kernel
theorem dX0_topPlace_50 : decode cX0_topPlace 50 = .ok (.iload_n 3, 1) := by decide +kernel
theorem dX0_topPlace_51 : decode cX0_topPlace 51 = .ok (.iadd, 1) := by decide +kernel
theorem dX0_topPlace_52 : decode cX0_topPlace 52 = .ok (.ireturn, 1) := by decide +kernel
theorem dX0_isWide_0 : decode cX0_isWide 0 = .ok (.aload_n 0, 1) := by decide +kernel
theorem dX0_isWide_1 : decode cX0_isWide 1 = .ok (.getfield 13, 3) := by decide +kernel
theorem dX0_isWide_4 : decode cX0_isWide 4 = .ok (.bipush 33, 2) := by decide +kernel
theorem dX0_isWide_6 : decode cX0_isWide 6 = .ok (.if_icmp .ge 7, 3) := by decide +kernel
theorem dX0_isWide_9 : decode cX0_isWide 9 = .ok (.iconst 1, 1) := by decide +kernel
theorem dX0_isWide_10 : decode cX0_isWide 10 = .ok (.goto 4, 3) := by decide +kernel
theorem dX0_isWide_13 : decode cX0_isWide 13 = .ok (.iconst 0, 1) := by decide +kernel
theorem dX0_isWide_14 : decode cX0_isWide 14 = .ok (.ireturn, 1) := by decide +kernel
theorem dX0_whole_0 : decode cX0_whole 0 = .ok (.aload_n 0, 1) := by decide +kernel
theorem dX0_whole_1 : decode cX0_whole 1 = .ok (.getfield 9, 3) := by decide +kernel
theorem dX0_whole_4 : decode cX0_whole 4 = .ok (.bipush 33, 2) := by decide +kernel
theorem dX0_whole_6 : decode cX0_whole 6 = .ok (.laload, 1) := by decide +kernel
theorem dX0_whole_7 : decode cX0_whole 7 = .ok (.ldc2_w 45, 3) := by decide +kernel
theorem dX0_whole_10 : decode cX0_whole 10 = .ok (.lmul, 1) := by decide +kernel
theorem dX0_whole_11 : decode cX0_whole 11 = .ok (.aload_n 0, 1) := by decide +kernel
theorem dX0_whole_12 : decode cX0_whole 12 = .ok (.getfield 9, 3) := by decide +kernel
theorem dX0_whole_15 : decode cX0_whole 15 = .ok (.bipush 34, 2) := by decide +kernel
theorem dX0_whole_17 : decode cX0_whole 17 = .ok (.laload, 1) := by decide +kernel
theorem dX0_whole_18 : decode cX0_whole 18 = .ok (.ladd, 1) := by decide +kernel
theorem dX0_whole_19 : decode cX0_whole 19 = .ok (.lreturn, 1) := by decide +kernel
theorem dX0_takeScaled_0 : decode cX0_takeScaled 0 = .ok (.aload_n 0, 1) := by decide +kernel
theorem dX0_takeScaled_1 : decode cX0_takeScaled 1 = .ok (.invokevirtual 47, 3) := by decide +kernel
theorem dX0_takeScaled_4 : decode cX0_takeScaled 4 = .ok (.aload_n 0, 1) := by decide +kernel
theorem dX0_takeScaled_5 : decode cX0_takeScaled 5 = .ok (.getfield 9, 3) := by decide +kernel
theorem dX0_takeScaled_8 : decode cX0_takeScaled 8 = .ok (.bipush 33, 2) := by decide +kernel
theorem dX0_takeScaled_10 : decode cX0_takeScaled 10 = .ok (.lload_n 1, 1) := by decide +kernel
theorem dX0_takeScaled_11 : decode cX0_takeScaled 11 = .ok (.ldc2_w 45, 3) := by decide +kernel
theorem dX0_takeScaled_14 : decode cX0_takeScaled 14 = .ok (.ldiv, 1) := by decide +kernel
theorem dX0_takeScaled_15 : decode cX0_takeScaled 15 = .ok (.lastore, 1) := by decide +kernel
theorem dX0_takeScaled_16 : decode cX0_takeScaled 16 = .ok (.aload_n 0, 1) := by decide +kernel
theorem dX0_takeScaled_17 : decode cX0_takeScaled 17 = .ok (.getfield 9, 3) := by decide +kernel
theorem dX0_takeScaled_20 : decode cX0_takeScaled 20 = .ok (.bipush 34, 2) := by decide +kernel
theorem dX0_takeScaled_22 : decode cX0_takeScaled 22 = .ok (.lload_n 1, 1) := by decide +kernel
theorem dX0_takeScaled_23 : decode cX0_takeScaled 23 = .ok (.ldc2_w 45, 3) := by decide +kernel
theorem dX0_takeScaled_26 : decode cX0_takeScaled 26 = .ok (.lrem, 1) := by decide +kernel
theorem dX0_takeScaled_27 : decode cX0_takeScaled 27 = .ok (.lastore, 1) := by decide +kernel
theorem dX0_takeScaled_28 : decode cX0_takeScaled 28 = .ok (.aload_n 0, 1) := by decide +kernel
theorem dX0_takeScaled_29 : decode cX0_takeScaled 29 = .ok (.bipush 33, 2) := by decide +kernel
theorem dX0_takeScaled_31 : decode cX0_takeScaled 31 = .ok (.putfield 13, 3) := by decide +kernel
theorem dX0_takeScaled_34 : decode cX0_takeScaled 34 = .ok (.aload_n 0, 1) := by decide +kernel
theorem dX0_takeScaled_35 : decode cX0_takeScaled 35 = .ok (.bipush 34, 2) := by decide +kernel
theorem dX0_takeScaled_37 : decode cX0_takeScaled 37 = .ok (.putfield 17, 3) := by decide +kernel
theorem dX0_takeScaled_40 : decode cX0_takeScaled 40 = .ok (.aload_n 0, 1) := by decide +kernel
theorem dX0_takeScaled_41 : decode cX0_takeScaled 41 = .ok (.invokevirtual 50, 3) := by decide +kernel
theorem dX0_takeScaled_44 : decode cX0_takeScaled 44 = .ok (.aload_n 0, 1) := by decide +kernel
theorem dX0_takeScaled_45 : decode cX0_takeScaled 45 = .ok (.iload_n 3, 1) := by decide +kernel
theorem dX0_takeScaled_46 : decode cX0_takeScaled 46 = .ok (.invokevirtual 53, 3) := by decide +kernel
theorem dX0_takeScaled_49 : decode cX0_takeScaled 49 = .ok (.return_, 1) := by decide +kernel
theorem dX0_scale_0 : decode cX0_scale 0 = .ok (.iload_n 1, 1) := by decide +kernel
theorem dX0_scale_1 : decode cX0_scale 1 = .ok (.istore_n 2, 1) := by decide +kernel
theorem dX0_scale_2 : decode cX0_scale 2 = .ok (.iload_n 2, 1) := by decide +kernel
theorem dX0_scale_3 : decode cX0_scale 3 = .ok (.ifCond .le 19, 3) := by decide +kernel
theorem dX0_scale_6 : decode cX0_scale 6 = .ok (.aload_n 0, 1) := by decide +kernel
theorem dX0_scale_7 : decode cX0_scale 7 = .ok (.iload_n 2, 1) := by decide +kernel
theorem dX0_scale_8 : decode cX0_scale 8 = .ok (.bipush 33, 2) := by decide +kernel
theorem dX0_scale_10 : decode cX0_scale 10 = .ok (.invokestatic 28, 3) := by decide +kernel
theorem dX0_scale_13 : decode cX0_scale 13 = .ok (.invokevirtual 57, 3) := by decide +kernel
theorem dX0_scale_16 : decode cX0_scale 16 = .ok (.iinc 2 (-33), 3) := by decide +kernel
theorem dX0_scale_19 : decode cX0_scale 19 = .ok (.goto (-17), 3) := by decide +kernel
theorem dX0_scale_22 : decode cX0_scale 22 = .ok (.iload_n 1, 1) := by decide +kernel
theorem dX0_scale_23 : decode cX0_scale 23 = .ok (.ineg, 1) := by decide +kernel
theorem dX0_scale_24 : decode cX0_scale 24 = .ok (.istore_n 2, 1) := by decide +kernel
theorem dX0_scale_25 : decode cX0_scale 25 = .ok (.iload_n 2, 1) := by decide +kernel
theorem dX0_scale_26 : decode cX0_scale 26 = .ok (.ifCond .le 19, 3) := by decide +kernel
theorem dX0_scale_29 : decode cX0_scale 29 = .ok (.aload_n 0, 1) := by decide +kernel
theorem dX0_scale_30 : decode cX0_scale 30 = .ok (.iload_n 2, 1) := by decide +kernel
theorem dX0_scale_31 : decode cX0_scale 31 = .ok (.bipush 33, 2) := by decide +kernel
theorem dX0_scale_33 : decode cX0_scale 33 = .ok (.invokestatic 28, 3) := by decide +kernel
theorem dX0_scale_36 : decode cX0_scale 36 = .ok (.invokevirtual 60, 3) := by decide +kernel
theorem dX0_scale_39 : decode cX0_scale 39 = .ok (.iinc 2 (-33), 3) := by decide +kernel
theorem dX0_scale_42 : decode cX0_scale 42 = .ok (.goto (-17), 3) := by decide +kernel
theorem dX0_scale_45 : decode cX0_scale 45 = .ok (.return_, 1) := by decide +kernel
theorem dX0_scaleUp_0 : decode cX0_scaleUp 0 = .ok (.lconst 0, 1) := by decide +kernel
theorem dX0_scaleUp_1 : decode cX0_scaleUp 1 = .ok (.lstore_n 2, 1) := by decide +kernel
theorem dX0_scaleUp_2 : decode cX0_scaleUp 2 = .ok (.aload_n 0, 1) := by decide +kernel
theorem dX0_scaleUp_3 : decode cX0_scaleUp 3 = .ok (.getfield 17, 3) := by decide +kernel
theorem dX0_scaleUp_6 : decode cX0_scaleUp 6 = .ok (.istore 4, 2) := by decide +kernel
theorem dX0_scaleUp_8 : decode cX0_scaleUp 8 = .ok (.iload 4, 2) := by decide +kernel
theorem dX0_scaleUp_10 : decode cX0_scaleUp 10 = .ok (.aload_n 0, 1) := by decide +kernel
theorem dX0_scaleUp_11 : decode cX0_scaleUp 11 = .ok (.getfield 13, 3) := by decide +kernel
theorem dX0_scaleUp_14 : decode cX0_scaleUp 14 = .ok (.if_icmp .lt 44, 3) := by decide +kernel
theorem dX0_scaleUp_17 : decode cX0_scaleUp 17 = .ok (.aload_n 0, 1) := by decide +kernel
theorem dX0_scaleUp_18 : decode cX0_scaleUp 18 = .ok (.getfield 9, 3) := by decide +kernel
theorem dX0_scaleUp_21 : decode cX0_scaleUp 21 = .ok (.iload 4, 2) := by decide +kernel
theorem dX0_scaleUp_23 : decode cX0_scaleUp 23 = .ok (.laload, 1) := by decide +kernel
theorem dX0_scaleUp_24 : decode cX0_scaleUp 24 = .ok (.iload_n 1, 1) := by decide +kernel
theorem dX0_scaleUp_25 : decode cX0_scaleUp 25 = .ok (.lshl, 1) := by decide +kernel
theorem dX0_scaleUp_26 : decode cX0_scaleUp 26 = .ok (.lload_n 2, 1) := by decide +kernel
theorem dX0_scaleUp_27 : decode cX0_scaleUp 27 = .ok (.ladd, 1) := by decide +kernel
theorem dX0_scaleUp_28 : decode cX0_scaleUp 28 = .ok (.lstore 5, 2) := by decide +kernel
theorem dX0_scaleUp_30 : decode cX0_scaleUp 30 = .ok (.lload 5, 2) := by decide +kernel
theorem dX0_scaleUp_32 : decode cX0_scaleUp 32 = .ok (.ldc2_w 45, 3) := by decide +kernel
theorem dX0_scaleUp_35 : decode cX0_scaleUp 35 = .ok (.ldiv, 1) := by decide +kernel
theorem dX0_scaleUp_36 : decode cX0_scaleUp 36 = .ok (.lstore_n 2, 1) := by decide +kernel
theorem dX0_scaleUp_37 : decode cX0_scaleUp 37 = .ok (.aload_n 0, 1) := by decide +kernel
theorem dX0_scaleUp_38 : decode cX0_scaleUp 38 = .ok (.getfield 9, 3) := by decide +kernel
theorem dX0_scaleUp_41 : decode cX0_scaleUp 41 = .ok (.iload 4, 2) := by decide +kernel
theorem dX0_scaleUp_43 : decode cX0_scaleUp 43 = .ok (.lload 5, 2) := by decide +kernel
theorem dX0_scaleUp_45 : decode cX0_scaleUp 45 = .ok (.lload_n 2, 1) := by decide +kernel
theorem dX0_scaleUp_46 : decode cX0_scaleUp 46 = .ok (.ldc2_w 45, 3) := by decide +kernel
theorem dX0_scaleUp_49 : decode cX0_scaleUp 49 = .ok (.lmul, 1) := by decide +kernel
theorem dX0_scaleUp_50 : decode cX0_scaleUp 50 = .ok (.lsub, 1) := by decide +kernel
theorem dX0_scaleUp_51 : decode cX0_scaleUp 51 = .ok (.lastore, 1) := by decide +kernel
theorem dX0_scaleUp_52 : decode cX0_scaleUp 52 = .ok (.iinc 4 (-1), 3) := by decide +kernel
theorem dX0_scaleUp_55 : decode cX0_scaleUp 55 = .ok (.goto (-47), 3) := by decide +kernel
theorem dX0_scaleUp_58 : decode cX0_scaleUp 58 = .ok (.aload_n 0, 1) := by decide +kernel
theorem dX0_scaleUp_59 : decode cX0_scaleUp 59 = .ok (.getfield 13, 3) := by decide +kernel
theorem dX0_scaleUp_62 : decode cX0_scaleUp 62 = .ok (.iconst 1, 1) := by decide +kernel
theorem dX0_scaleUp_63 : decode cX0_scaleUp 63 = .ok (.isub, 1) := by decide +kernel
theorem dX0_scaleUp_64 : decode cX0_scaleUp 64 = .ok (.istore 4, 2) := by decide +kernel
theorem dX0_scaleUp_66 : decode cX0_scaleUp 66 = .ok (.iload 4, 2) := by decide +kernel
theorem dX0_scaleUp_68 : decode cX0_scaleUp 68 = .ok (.ifCond .lt 39, 3) := by decide +kernel
theorem dX0_scaleUp_71 : decode cX0_scaleUp 71 = .ok (.lload_n 2, 1) := by decide +kernel
theorem dX0_scaleUp_72 : decode cX0_scaleUp 72 = .ok (.lconst 0, 1) := by decide +kernel
theorem dX0_scaleUp_73 : decode cX0_scaleUp 73 = .ok (.lcmp, 1) := by decide +kernel
theorem dX0_scaleUp_74 : decode cX0_scaleUp 74 = .ok (.ifCond .le 33, 3) := by decide +kernel
theorem dX0_scaleUp_77 : decode cX0_scaleUp 77 = .ok (.aload_n 0, 1) := by decide +kernel
theorem dX0_scaleUp_78 : decode cX0_scaleUp 78 = .ok (.getfield 9, 3) := by decide +kernel
theorem dX0_scaleUp_81 : decode cX0_scaleUp 81 = .ok (.iload 4, 2) := by decide +kernel
theorem dX0_scaleUp_83 : decode cX0_scaleUp 83 = .ok (.lload_n 2, 1) := by decide +kernel
theorem dX0_scaleUp_84 : decode cX0_scaleUp 84 = .ok (.ldc2_w 45, 3) := by decide +kernel
theorem dX0_scaleUp_87 : decode cX0_scaleUp 87 = .ok (.lrem, 1) := by decide +kernel
theorem dX0_scaleUp_88 : decode cX0_scaleUp 88 = .ok (.lastore, 1) := by decide +kernel
theorem dX0_scaleUp_89 : decode cX0_scaleUp 89 = .ok (.lload_n 2, 1) := by decide +kernel
theorem dX0_scaleUp_90 : decode cX0_scaleUp 90 = .ok (.ldc2_w 45, 3) := by decide +kernel
theorem dX0_scaleUp_93 : decode cX0_scaleUp 93 = .ok (.ldiv, 1) := by decide +kernel
theorem dX0_scaleUp_94 : decode cX0_scaleUp 94 = .ok (.lstore_n 2, 1) := by decide +kernel
theorem dX0_scaleUp_95 : decode cX0_scaleUp 95 = .ok (.aload_n 0, 1) := by decide +kernel
theorem dX0_scaleUp_96 : decode cX0_scaleUp 96 = .ok (.iload 4, 2) := by decide +kernel
theorem dX0_scaleUp_98 : decode cX0_scaleUp 98 = .ok (.putfield 13, 3) := by decide +kernel
theorem dX0_scaleUp_101 : decode cX0_scaleUp 101 = .ok (.iinc 4 (-1), 3) := by decide +kernel
theorem dX0_scaleUp_104 : decode cX0_scaleUp 104 = .ok (.goto (-38), 3) := by decide +kernel
theorem dX0_scaleUp_107 : decode cX0_scaleUp 107 = .ok (.aload_n 0, 1) := by decide +kernel
theorem dX0_scaleUp_108 : decode cX0_scaleUp 108 = .ok (.invokevirtual 50, 3) := by decide +kernel
theorem dX0_scaleUp_111 : decode cX0_scaleUp 111 = .ok (.return_, 1) := by decide +kernel
theorem dX0_scaleDown_0 : decode cX0_scaleDown 0 = .ok (.lconst 1, 1) := by decide +kernel
theorem dX0_scaleDown_1 : decode cX0_scaleDown 1 = .ok (.iload_n 1, 1) := by decide +kernel
theorem dX0_scaleDown_2 : decode cX0_scaleDown 2 = .ok (.lshl, 1) := by decide +kernel
theorem dX0_scaleDown_3 : decode cX0_scaleDown 3 = .ok (.lconst 1, 1) := by decide +kernel
theorem dX0_scaleDown_4 : decode cX0_scaleDown 4 = .ok (.lsub, 1) := by decide +kernel
theorem dX0_scaleDown_5 : decode cX0_scaleDown 5 = .ok (.lstore_n 2, 1) := by decide +kernel
theorem dX0_scaleDown_6 : decode cX0_scaleDown 6 = .ok (.lconst 0, 1) := by decide +kernel
theorem dX0_scaleDown_7 : decode cX0_scaleDown 7 = .ok (.lstore 4, 2) := by decide +kernel
theorem dX0_scaleDown_9 : decode cX0_scaleDown 9 = .ok (.aload_n 0, 1) := by decide +kernel
theorem dX0_scaleDown_10 : decode cX0_scaleDown 10 = .ok (.getfield 13, 3) := by decide +kernel
theorem dX0_scaleDown_13 : decode cX0_scaleDown 13 = .ok (.istore 6, 2) := by decide +kernel
theorem dX0_scaleDown_15 : decode cX0_scaleDown 15 = .ok (.iload 6, 2) := by decide +kernel
theorem dX0_scaleDown_17 : decode cX0_scaleDown 17 = .ok (.aload_n 0, 1) := by decide +kernel
theorem dX0_scaleDown_18 : decode cX0_scaleDown 18 = .ok (.getfield 17, 3) := by decide +kernel
theorem dX0_scaleDown_21 : decode cX0_scaleDown 21 = .ok (.if_icmp .gt 42, 3) := by decide +kernel
theorem dX0_scaleDown_24 : decode cX0_scaleDown 24 = .ok (.lload 4, 2) := by decide +kernel
theorem dX0_scaleDown_26 : decode cX0_scaleDown 26 = .ok (.ldc2_w 45, 3) := by decide +kernel
theorem dX0_scaleDown_29 : decode cX0_scaleDown 29 = .ok (.lmul, 1) := by decide +kernel
theorem dX0_scaleDown_30 : decode cX0_scaleDown 30 = .ok (.aload_n 0, 1) := by decide +kernel
theorem dX0_scaleDown_31 : decode cX0_scaleDown 31 = .ok (.getfield 9, 3) := by decide +kernel
theorem dX0_scaleDown_34 : decode cX0_scaleDown 34 = .ok (.iload 6, 2) := by decide +kernel
theorem dX0_scaleDown_36 : decode cX0_scaleDown 36 = .ok (.laload, 1) := by decide +kernel
theorem dX0_scaleDown_37 : decode cX0_scaleDown 37 = .ok (.ladd, 1) := by decide +kernel
theorem dX0_scaleDown_38 : decode cX0_scaleDown 38 = .ok (.lstore 7, 2) := by decide +kernel
theorem dX0_scaleDown_40 : decode cX0_scaleDown 40 = .ok (.aload_n 0, 1) := by decide +kernel
theorem dX0_scaleDown_41 : decode cX0_scaleDown 41 = .ok (.getfield 9, 3) := by decide +kernel
theorem dX0_scaleDown_44 : decode cX0_scaleDown 44 = .ok (.iload 6, 2) := by decide +kernel
theorem dX0_scaleDown_46 : decode cX0_scaleDown 46 = .ok (.lload 7, 2) := by decide +kernel
theorem dX0_scaleDown_48 : decode cX0_scaleDown 48 = .ok (.iload_n 1, 1) := by decide +kernel
theorem dX0_scaleDown_49 : decode cX0_scaleDown 49 = .ok (.lushr, 1) := by decide +kernel
theorem dX0_scaleDown_50 : decode cX0_scaleDown 50 = .ok (.lastore, 1) := by decide +kernel
theorem dX0_scaleDown_51 : decode cX0_scaleDown 51 = .ok (.lload 7, 2) := by decide +kernel
theorem dX0_scaleDown_53 : decode cX0_scaleDown 53 = .ok (.lload_n 2, 1) := by decide +kernel
theorem dX0_scaleDown_54 : decode cX0_scaleDown 54 = .ok (.land, 1) := by decide +kernel
theorem dX0_scaleDown_55 : decode cX0_scaleDown 55 = .ok (.lstore 4, 2) := by decide +kernel
theorem dX0_scaleDown_57 : decode cX0_scaleDown 57 = .ok (.iinc 6 1, 3) := by decide +kernel
theorem dX0_scaleDown_60 : decode cX0_scaleDown 60 = .ok (.goto (-45), 3) := by decide +kernel
theorem dX0_scaleDown_63 : decode cX0_scaleDown 63 = .ok (.aload_n 0, 1) := by decide +kernel
theorem dX0_scaleDown_64 : decode cX0_scaleDown 64 = .ok (.getfield 17, 3) := by decide +kernel
theorem dX0_scaleDown_67 : decode cX0_scaleDown 67 = .ok (.iconst 1, 1) := by decide +kernel
theorem dX0_scaleDown_68 : decode cX0_scaleDown 68 = .ok (.iadd, 1) := by decide +kernel
theorem dX0_scaleDown_69 : decode cX0_scaleDown 69 = .ok (.istore 6, 2) := by decide +kernel
theorem dX0_scaleDown_71 : decode cX0_scaleDown 71 = .ok (.iload 6, 2) := by decide +kernel
theorem dX0_scaleDown_73 : decode cX0_scaleDown 73 = .ok (.sipush 160, 3) := by decide +kernel
theorem dX0_scaleDown_76 : decode cX0_scaleDown 76 = .ok (.if_icmp .ge 47, 3) := by decide +kernel
theorem dX0_scaleDown_79 : decode cX0_scaleDown 79 = .ok (.lload 4, 2) := by decide +kernel
theorem dX0_scaleDown_81 : decode cX0_scaleDown 81 = .ok (.lconst 0, 1) := by decide +kernel
theorem dX0_scaleDown_82 : decode cX0_scaleDown 82 = .ok (.lcmp, 1) := by decide +kernel
theorem dX0_scaleDown_83 : decode cX0_scaleDown 83 = .ok (.ifCond .le 40, 3) := by decide +kernel
theorem dX0_scaleDown_86 : decode cX0_scaleDown 86 = .ok (.lload 4, 2) := by decide +kernel
theorem dX0_scaleDown_88 : decode cX0_scaleDown 88 = .ok (.ldc2_w 45, 3) := by decide +kernel
theorem dX0_scaleDown_91 : decode cX0_scaleDown 91 = .ok (.lmul, 1) := by decide +kernel
theorem dX0_scaleDown_92 : decode cX0_scaleDown 92 = .ok (.lstore 7, 2) := by decide +kernel
theorem dX0_scaleDown_94 : decode cX0_scaleDown 94 = .ok (.aload_n 0, 1) := by decide +kernel
theorem dX0_scaleDown_95 : decode cX0_scaleDown 95 = .ok (.getfield 9, 3) := by decide +kernel
theorem dX0_scaleDown_98 : decode cX0_scaleDown 98 = .ok (.iload 6, 2) := by decide +kernel
theorem dX0_scaleDown_100 : decode cX0_scaleDown 100 = .ok (.lload 7, 2) := by decide +kernel
theorem dX0_scaleDown_102 : decode cX0_scaleDown 102 = .ok (.iload_n 1, 1) := by decide +kernel
theorem dX0_scaleDown_103 : decode cX0_scaleDown 103 = .ok (.lushr, 1) := by decide +kernel
theorem dX0_scaleDown_104 : decode cX0_scaleDown 104 = .ok (.lastore, 1) := by decide +kernel
theorem dX0_scaleDown_105 : decode cX0_scaleDown 105 = .ok (.lload 7, 2) := by decide +kernel
theorem dX0_scaleDown_107 : decode cX0_scaleDown 107 = .ok (.lload_n 2, 1) := by decide +kernel
theorem dX0_scaleDown_108 : decode cX0_scaleDown 108 = .ok (.land, 1) := by decide +kernel
theorem dX0_scaleDown_109 : decode cX0_scaleDown 109 = .ok (.lstore 4, 2) := by decide +kernel
theorem dX0_scaleDown_111 : decode cX0_scaleDown 111 = .ok (.aload_n 0, 1) := by decide +kernel
theorem dX0_scaleDown_112 : decode cX0_scaleDown 112 = .ok (.iload 6, 2) := by decide +kernel
theorem dX0_scaleDown_114 : decode cX0_scaleDown 114 = .ok (.putfield 17, 3) := by decide +kernel
theorem dX0_scaleDown_117 : decode cX0_scaleDown 117 = .ok (.iinc 6 1, 3) := by decide +kernel
theorem dX0_scaleDown_120 : decode cX0_scaleDown 120 = .ok (.goto (-49), 3) := by decide +kernel
theorem dX0_scaleDown_123 : decode cX0_scaleDown 123 = .ok (.aload_n 0, 1) := by decide +kernel
theorem dX0_scaleDown_124 : decode cX0_scaleDown 124 = .ok (.invokevirtual 50, 3) := by decide +kernel
theorem dX0_scaleDown_127 : decode cX0_scaleDown 127 = .ok (.return_, 1) := by decide +kernel
theorem dX0_takeRounded_0 : decode cX0_takeRounded 0 = .ok (.aload_n 0, 1) := by decide +kernel
theorem dX0_takeRounded_1 : decode cX0_takeRounded 1 = .ok (.invokevirtual 47, 3) := by decide +kernel
theorem dX0_takeRounded_4 : decode cX0_takeRounded 4 = .ok (.iload_n 2, 1) := by decide +kernel
theorem dX0_takeRounded_5 : decode cX0_takeRounded 5 = .ok (.invokestatic 20, 3) := by decide +kernel
theorem dX0_takeRounded_8 : decode cX0_takeRounded 8 = .ok (.istore_n 3, 1) := by decide +kernel
theorem dX0_takeRounded_9 : decode cX0_takeRounded 9 = .ok (.iload_n 3, 1) := by decide +kernel
theorem dX0_takeRounded_10 : decode cX0_takeRounded 10 = .ok (.ifCond .lt 10, 3) := by decide +kernel
theorem dX0_takeRounded_13 : decode cX0_takeRounded 13 = .ok (.iload_n 3, 1) := by decide +kernel
theorem dX0_takeRounded_14 : decode cX0_takeRounded 14 = .ok (.sipush 160, 3) := by decide +kernel
theorem dX0_takeRounded_17 : decode cX0_takeRounded 17 = .ok (.if_icmp .lt 4, 3) := by decide +kernel
theorem dX0_takeRounded_20 : decode cX0_takeRounded 20 = .ok (.return_, 1) := by decide +kernel
theorem dX0_takeRounded_21 : decode cX0_takeRounded 21 = .ok (.aload_n 1, 1) := by decide +kernel
theorem dX0_takeRounded_22 : decode cX0_takeRounded 22 = .ok (.getfield 13, 3) := by decide +kernel
theorem dX0_takeRounded_25 : decode cX0_takeRounded 25 = .ok (.istore 4, 2) := by decide +kernel
theorem dX0_takeRounded_27 : decode cX0_takeRounded 27 = .ok (.iload 4, 2) := by decide +kernel
theorem dX0_takeRounded_29 : decode cX0_takeRounded 29 = .ok (.iload_n 3, 1) := by decide +kernel
theorem dX0_takeRounded_30 : decode cX0_takeRounded 30 = .ok (.if_icmp .gt 23, 3) := by decide +kernel
theorem dX0_takeRounded_33 : decode cX0_takeRounded 33 = .ok (.aload_n 0, 1) := by decide +kernel
theorem dX0_takeRounded_34 : decode cX0_takeRounded 34 = .ok (.getfield 9, 3) := by decide +kernel
theorem dX0_takeRounded_37 : decode cX0_takeRounded 37 = .ok (.iload 4, 2) := by decide +kernel
theorem dX0_takeRounded_39 : decode cX0_takeRounded 39 = .ok (.aload_n 1, 1) := by decide +kernel
theorem dX0_takeRounded_40 : decode cX0_takeRounded 40 = .ok (.getfield 9, 3) := by decide +kernel
theorem dX0_takeRounded_43 : decode cX0_takeRounded 43 = .ok (.iload 4, 2) := by decide +kernel
theorem dX0_takeRounded_45 : decode cX0_takeRounded 45 = .ok (.laload, 1) := by decide +kernel
theorem dX0_takeRounded_46 : decode cX0_takeRounded 46 = .ok (.lastore, 1) := by decide +kernel
theorem dX0_takeRounded_47 : decode cX0_takeRounded 47 = .ok (.iinc 4 1, 3) := by decide +kernel
theorem dX0_takeRounded_50 : decode cX0_takeRounded 50 = .ok (.goto (-23), 3) := by decide +kernel
theorem dX0_takeRounded_53 : decode cX0_takeRounded 53 = .ok (.iload_n 2, 1) := by decide +kernel
theorem dX0_takeRounded_54 : decode cX0_takeRounded 54 = .ok (.invokestatic 24, 3) := by decide +kernel
theorem dX0_takeRounded_57 : decode cX0_takeRounded 57 = .ok (.lstore 4, 2) := by decide +kernel
theorem dX0_takeRounded_59 : decode cX0_takeRounded 59 = .ok (.aload_n 0, 1) := by decide +kernel
theorem dX0_takeRounded_60 : decode cX0_takeRounded 60 = .ok (.getfield 9, 3) := by decide +kernel
theorem dX0_takeRounded_63 : decode cX0_takeRounded 63 = .ok (.iload_n 3, 1) := by decide +kernel
theorem dX0_takeRounded_64 : decode cX0_takeRounded 64 = .ok (.dup2, 1) := by decide +kernel
theorem dX0_takeRounded_65 : decode cX0_takeRounded 65 = .ok (.laload, 1) := by decide +kernel
theorem dX0_takeRounded_66 : decode cX0_takeRounded 66 = .ok (.aload_n 0, 1) := by decide +kernel
theorem dX0_takeRounded_67 : decode cX0_takeRounded 67 = .ok (.getfield 9, 3) := by decide +kernel
theorem dX0_takeRounded_70 : decode cX0_takeRounded 70 = .ok (.iload_n 3, 1) := by decide +kernel
theorem dX0_takeRounded_71 : decode cX0_takeRounded 71 = .ok (.laload, 1) := by decide +kernel
theorem dX0_takeRounded_72 : decode cX0_takeRounded 72 = .ok (.lload 4, 2) := by decide +kernel
theorem dX0_takeRounded_74 : decode cX0_takeRounded 74 = .ok (.lrem, 1) := by decide +kernel
theorem dX0_takeRounded_75 : decode cX0_takeRounded 75 = .ok (.lsub, 1) := by decide +kernel
theorem dX0_takeRounded_76 : decode cX0_takeRounded 76 = .ok (.lastore, 1) := by decide +kernel
theorem dX0_takeRounded_77 : decode cX0_takeRounded 77 = .ok (.aload_n 0, 1) := by decide +kernel
theorem dX0_takeRounded_78 : decode cX0_takeRounded 78 = .ok (.aload_n 1, 1) := by decide +kernel
theorem dX0_takeRounded_79 : decode cX0_takeRounded 79 = .ok (.getfield 13, 3) := by decide +kernel
theorem dX0_takeRounded_82 : decode cX0_takeRounded 82 = .ok (.iload_n 3, 1) := by decide +kernel
theorem dX0_takeRounded_83 : decode cX0_takeRounded 83 = .ok (.invokestatic 28, 3) := by decide +kernel
theorem dX0_takeRounded_86 : decode cX0_takeRounded 86 = .ok (.putfield 13, 3) := by decide +kernel
theorem dX0_takeRounded_89 : decode cX0_takeRounded 89 = .ok (.aload_n 0, 1) := by decide +kernel
theorem dX0_takeRounded_90 : decode cX0_takeRounded 90 = .ok (.iload_n 3, 1) := by decide +kernel
theorem dX0_takeRounded_91 : decode cX0_takeRounded 91 = .ok (.putfield 17, 3) := by decide +kernel
theorem dX0_takeRounded_94 : decode cX0_takeRounded 94 = .ok (.aload_n 1, 1) := by decide +kernel
theorem dX0_takeRounded_95 : decode cX0_takeRounded 95 = .ok (.iload_n 3, 1) := by decide +kernel
theorem dX0_takeRounded_96 : decode cX0_takeRounded 96 = .ok (.lload 4, 2) := by decide +kernel
theorem dX0_takeRounded_98 : decode cX0_takeRounded 98 = .ok (.invokevirtual 63, 3) := by decide +kernel
theorem dX0_takeRounded_101 : decode cX0_takeRounded 101 = .ok (.ifCond .eq 10, 3) := by decide +kernel
theorem dX0_takeRounded_104 : decode cX0_takeRounded 104 = .ok (.aload_n 0, 1) := by decide +kernel
theorem dX0_takeRounded_105 : decode cX0_takeRounded 105 = .ok (.iload_n 3, 1) := by decide +kernel
theorem dX0_takeRounded_106 : decode cX0_takeRounded 106 = .ok (.lload 4, 2) := by decide +kernel
theorem dX0_takeRounded_108 : decode cX0_takeRounded 108 = .ok (.invokevirtual 67, 3) := by decide +kernel
theorem dX0_takeRounded_111 : decode cX0_takeRounded 111 = .ok (.aload_n 0, 1) := by decide +kernel
theorem dX0_takeRounded_112 : decode cX0_takeRounded 112 = .ok (.invokevirtual 50, 3) := by decide +kernel
theorem dX0_takeRounded_115 : decode cX0_takeRounded 115 = .ok (.return_, 1) := by decide +kernel
theorem dX0_roundsUp_0 : decode cX0_roundsUp 0 = .ok (.aload_n 0, 1) := by decide +kernel
theorem dX0_roundsUp_1 : decode cX0_roundsUp 1 = .ok (.iload_n 1, 1) := by decide +kernel
theorem dX0_roundsUp_2 : decode cX0_roundsUp 2 = .ok (.lload_n 2, 1) := by decide +kernel
theorem dX0_roundsUp_3 : decode cX0_roundsUp 3 = .ok (.invokevirtual 71, 3) := by decide +kernel
theorem dX0_roundsUp_6 : decode cX0_roundsUp 6 = .ok (.istore 4, 2) := by decide +kernel
theorem dX0_roundsUp_8 : decode cX0_roundsUp 8 = .ok (.iload 4, 2) := by decide +kernel
theorem dX0_roundsUp_10 : decode cX0_roundsUp 10 = .ok (.ifCond .gt 24, 3) := by decide +kernel
theorem dX0_roundsUp_13 : decode cX0_roundsUp 13 = .ok (.iload 4, 2) := by decide +kernel
theorem dX0_roundsUp_15 : decode cX0_roundsUp 15 = .ok (.ifCond .ne 23, 3) := by decide +kernel
theorem dX0_roundsUp_18 : decode cX0_roundsUp 18 = .ok (.aload_n 0, 1) := by decide +kernel
theorem dX0_roundsUp_19 : decode cX0_roundsUp 19 = .ok (.iload_n 1, 1) := by decide +kernel
theorem dX0_roundsUp_20 : decode cX0_roundsUp 20 = .ok (.invokevirtual 37, 3) := by decide +kernel
theorem dX0_roundsUp_23 : decode cX0_roundsUp 23 = .ok (.lload_n 2, 1) := by decide +kernel
theorem dX0_roundsUp_24 : decode cX0_roundsUp 24 = .ok (.ldiv, 1) := by decide +kernel
theorem dX0_roundsUp_25 : decode cX0_roundsUp 25 = .ok (.ldc2_w 75, 3) := by decide +kernel
theorem dX0_roundsUp_28 : decode cX0_roundsUp 28 = .ok (.lrem, 1) := by decide +kernel
theorem dX0_roundsUp_29 : decode cX0_roundsUp 29 = .ok (.lconst 1, 1) := by decide +kernel
theorem dX0_roundsUp_30 : decode cX0_roundsUp 30 = .ok (.lcmp, 1) := by decide +kernel
theorem dX0_roundsUp_31 : decode cX0_roundsUp 31 = .ok (.ifCond .ne 7, 3) := by decide +kernel
theorem dX0_roundsUp_34 : decode cX0_roundsUp 34 = .ok (.iconst 1, 1) := by decide +kernel
theorem dX0_roundsUp_35 : decode cX0_roundsUp 35 = .ok (.goto 4, 3) := by decide +kernel
theorem dX0_roundsUp_38 : decode cX0_roundsUp 38 = .ok (.iconst 0, 1) := by decide +kernel
theorem dX0_roundsUp_39 : decode cX0_roundsUp 39 = .ok (.ireturn, 1) := by decide +kernel
theorem dX0_sideOfHalf_0 : decode cX0_sideOfHalf 0 = .ok (.lload_n 2, 1) := by decide +kernel
theorem dX0_sideOfHalf_1 : decode cX0_sideOfHalf 1 = .ok (.lconst 1, 1) := by decide +kernel
theorem dX0_sideOfHalf_2 : decode cX0_sideOfHalf 2 = .ok (.lcmp, 1) := by decide +kernel
theorem dX0_sideOfHalf_3 : decode cX0_sideOfHalf 3 = .ok (.ifCond .ne 9, 3) := by decide +kernel
theorem dX0_sideOfHalf_6 : decode cX0_sideOfHalf 6 = .ok (.iload_n 1, 1) := by decide +kernel
theorem dX0_sideOfHalf_7 : decode cX0_sideOfHalf 7 = .ok (.iconst 1, 1) := by decide +kernel
theorem dX0_sideOfHalf_8 : decode cX0_sideOfHalf 8 = .ok (.iadd, 1) := by decide +kernel
theorem dX0_sideOfHalf_9 : decode cX0_sideOfHalf 9 = .ok (.goto 4, 3) := by decide +kernel
theorem dX0_sideOfHalf_12 : decode cX0_sideOfHalf 12 = .ok (.iload_n 1, 1) := by decide +kernel
theorem dX0_sideOfHalf_13 : decode cX0_sideOfHalf 13 = .ok (.istore 4, 2) := by decide +kernel
theorem dX0_sideOfHalf_15 : decode cX0_sideOfHalf 15 = .ok (.lload_n 2, 1) := by decide +kernel
theorem dX0_sideOfHalf_16 : decode cX0_sideOfHalf 16 = .ok (.lconst 1, 1) := by decide +kernel
theorem dX0_sideOfHalf_17 : decode cX0_sideOfHalf 17 = .ok (.lcmp, 1) := by decide +kernel
theorem dX0_sideOfHalf_18 : decode cX0_sideOfHalf 18 = .ok (.ifCond .ne 9, 3) := by decide +kernel
theorem dX0_sideOfHalf_21 : decode cX0_sideOfHalf 21 = .ok (.ldc2_w 45, 3) := by decide +kernel
theorem dX0_sideOfHalf_24 : decode cX0_sideOfHalf 24 = .ok (.goto 4, 3) := by decide +kernel
theorem dX0_sideOfHalf_27 : decode cX0_sideOfHalf 27 = .ok (.lload_n 2, 1) := by decide +kernel
theorem dX0_sideOfHalf_28 : decode cX0_sideOfHalf 28 = .ok (.lstore 5, 2) := by decide +kernel
theorem dX0_sideOfHalf_30 : decode cX0_sideOfHalf 30 = .ok (.aload_n 0, 1) := by decide +kernel
theorem dX0_sideOfHalf_31 : decode cX0_sideOfHalf 31 = .ok (.iload 4, 2) := by decide +kernel
theorem dX0_sideOfHalf_33 : decode cX0_sideOfHalf 33 = .ok (.invokevirtual 37, 3) := by decide +kernel
theorem dX0_sideOfHalf_36 : decode cX0_sideOfHalf 36 = .ok (.lload 5, 2) := by decide +kernel
theorem dX0_sideOfHalf_38 : decode cX0_sideOfHalf 38 = .ok (.lrem, 1) := by decide +kernel
theorem dX0_sideOfHalf_39 : decode cX0_sideOfHalf 39 = .ok (.lload 5, 2) := by decide +kernel
theorem dX0_sideOfHalf_41 : decode cX0_sideOfHalf 41 = .ok (.ldc2_w 75, 3) := by decide +kernel
theorem dX0_sideOfHalf_44 : decode cX0_sideOfHalf 44 = .ok (.ldiv, 1) := by decide +kernel
theorem dX0_sideOfHalf_45 : decode cX0_sideOfHalf 45 = .ok (.invokestatic 77, 3) := by decide +kernel
theorem dX0_sideOfHalf_48 : decode cX0_sideOfHalf 48 = .ok (.istore 7, 2) := by decide +kernel
theorem dX0_sideOfHalf_50 : decode cX0_sideOfHalf 50 = .ok (.iload 7, 2) := by decide +kernel
theorem dX0_sideOfHalf_52 : decode cX0_sideOfHalf 52 = .ok (.ifCond .ne 16, 3) := by decide +kernel
theorem dX0_sideOfHalf_55 : decode cX0_sideOfHalf 55 = .ok (.aload_n 0, 1) := by decide +kernel
theorem dX0_sideOfHalf_56 : decode cX0_sideOfHalf 56 = .ok (.getfield 17, 3) := by decide +kernel
theorem dX0_sideOfHalf_59 : decode cX0_sideOfHalf 59 = .ok (.iload 4, 2) := by decide +kernel
theorem dX0_sideOfHalf_61 : decode cX0_sideOfHalf 61 = .ok (.if_icmp .le 7, 3) := by decide +kernel
theorem dX0_sideOfHalf_64 : decode cX0_sideOfHalf 64 = .ok (.iconst 1, 1) := by decide +kernel
theorem dX0_sideOfHalf_65 : decode cX0_sideOfHalf 65 = .ok (.goto 5, 3) := by decide +kernel
theorem dX0_sideOfHalf_68 : decode cX0_sideOfHalf 68 = .ok (.iload 7, 2) := by decide +kernel
theorem dX0_sideOfHalf_70 : decode cX0_sideOfHalf 70 = .ok (.ireturn, 1) := by decide +kernel
theorem dX0_countUp_0 : decode cX0_countUp 0 = .ok (.aload_n 0, 1) := by decide +kernel
theorem dX0_countUp_1 : decode cX0_countUp 1 = .ok (.getfield 9, 3) := by decide +kernel
theorem dX0_countUp_4 : decode cX0_countUp 4 = .ok (.iload_n 1, 1) := by decide +kernel
theorem dX0_countUp_5 : decode cX0_countUp 5 = .ok (.dup2, 1) := by decide +kernel
theorem dX0_countUp_6 : decode cX0_countUp 6 = .ok (.laload, 1) := by decide +kernel
theorem dX0_countUp_7 : decode cX0_countUp 7 = .ok (.lload_n 2, 1) := by decide +kernel
theorem dX0_countUp_8 : decode cX0_countUp 8 = .ok (.ladd, 1) := by decide +kernel
theorem dX0_countUp_9 : decode cX0_countUp 9 = .ok (.lastore, 1) := by decide +kernel
theorem dX0_countUp_10 : decode cX0_countUp 10 = .ok (.iload_n 1, 1) := by decide +kernel
theorem dX0_countUp_11 : decode cX0_countUp 11 = .ok (.istore 4, 2) := by decide +kernel
theorem dX0_countUp_13 : decode cX0_countUp 13 = .ok (.iload 4, 2) := by decide +kernel
theorem dX0_countUp_15 : decode cX0_countUp 15 = .ok (.ifCond .le 64, 3) := by decide +kernel
theorem dX0_countUp_18 : decode cX0_countUp 18 = .ok (.aload_n 0, 1) := by decide +kernel
theorem dX0_countUp_19 : decode cX0_countUp 19 = .ok (.getfield 9, 3) := by decide +kernel
theorem dX0_countUp_22 : decode cX0_countUp 22 = .ok (.iload 4, 2) := by decide +kernel
theorem dX0_countUp_24 : decode cX0_countUp 24 = .ok (.laload, 1) := by decide +kernel
theorem dX0_countUp_25 : decode cX0_countUp 25 = .ok (.ldc2_w 45, 3) := by decide +kernel
theorem dX0_countUp_28 : decode cX0_countUp 28 = .ok (.lcmp, 1) := by decide +kernel
theorem dX0_countUp_29 : decode cX0_countUp 29 = .ok (.ifCond .lt 50, 3) := by decide +kernel
theorem dX0_countUp_32 : decode cX0_countUp 32 = .ok (.aload_n 0, 1) := by decide +kernel
theorem dX0_countUp_33 : decode cX0_countUp 33 = .ok (.getfield 9, 3) := by decide +kernel
theorem dX0_countUp_36 : decode cX0_countUp 36 = .ok (.iload 4, 2) := by decide +kernel
theorem dX0_countUp_38 : decode cX0_countUp 38 = .ok (.dup2, 1) := by decide +kernel
theorem dX0_countUp_39 : decode cX0_countUp 39 = .ok (.laload, 1) := by decide +kernel
theorem dX0_countUp_40 : decode cX0_countUp 40 = .ok (.ldc2_w 45, 3) := by decide +kernel
theorem dX0_countUp_43 : decode cX0_countUp 43 = .ok (.lsub, 1) := by decide +kernel
theorem dX0_countUp_44 : decode cX0_countUp 44 = .ok (.lastore, 1) := by decide +kernel
theorem dX0_countUp_45 : decode cX0_countUp 45 = .ok (.aload_n 0, 1) := by decide +kernel
theorem dX0_countUp_46 : decode cX0_countUp 46 = .ok (.getfield 9, 3) := by decide +kernel
theorem dX0_countUp_49 : decode cX0_countUp 49 = .ok (.iload 4, 2) := by decide +kernel
theorem dX0_countUp_51 : decode cX0_countUp 51 = .ok (.iconst 1, 1) := by decide +kernel
theorem dX0_countUp_52 : decode cX0_countUp 52 = .ok (.isub, 1) := by decide +kernel
theorem dX0_countUp_53 : decode cX0_countUp 53 = .ok (.dup2, 1) := by decide +kernel
theorem dX0_countUp_54 : decode cX0_countUp 54 = .ok (.laload, 1) := by decide +kernel
theorem dX0_countUp_55 : decode cX0_countUp 55 = .ok (.lconst 1, 1) := by decide +kernel
theorem dX0_countUp_56 : decode cX0_countUp 56 = .ok (.ladd, 1) := by decide +kernel
theorem dX0_countUp_57 : decode cX0_countUp 57 = .ok (.lastore, 1) := by decide +kernel
theorem dX0_countUp_58 : decode cX0_countUp 58 = .ok (.aload_n 0, 1) := by decide +kernel
theorem dX0_countUp_59 : decode cX0_countUp 59 = .ok (.aload_n 0, 1) := by decide +kernel
theorem dX0_countUp_60 : decode cX0_countUp 60 = .ok (.getfield 13, 3) := by decide +kernel
theorem dX0_countUp_63 : decode cX0_countUp 63 = .ok (.iload 4, 2) := by decide +kernel
theorem dX0_countUp_65 : decode cX0_countUp 65 = .ok (.iconst 1, 1) := by decide +kernel
theorem dX0_countUp_66 : decode cX0_countUp 66 = .ok (.isub, 1) := by decide +kernel
theorem dX0_countUp_67 : decode cX0_countUp 67 = .ok (.invokestatic 28, 3) := by decide +kernel
theorem dX0_countUp_70 : decode cX0_countUp 70 = .ok (.putfield 13, 3) := by decide +kernel
theorem dX0_countUp_73 : decode cX0_countUp 73 = .ok (.iinc 4 (-1), 3) := by decide +kernel
theorem dX0_countUp_76 : decode cX0_countUp 76 = .ok (.goto (-63), 3) := by decide +kernel
theorem dX0_countUp_79 : decode cX0_countUp 79 = .ok (.return_, 1) := by decide +kernel
theorem dX0_comparedTo_0 : decode cX0_comparedTo 0 = .ok (.aload_n 0, 1) := by decide +kernel
theorem dX0_comparedTo_1 : decode cX0_comparedTo 1 = .ok (.getfield 17, 3) := by decide +kernel
theorem dX0_comparedTo_4 : decode cX0_comparedTo 4 = .ok (.aload_n 1, 1) := by decide +kernel
theorem dX0_comparedTo_5 : decode cX0_comparedTo 5 = .ok (.getfield 17, 3) := by decide +kernel
theorem dX0_comparedTo_8 : decode cX0_comparedTo 8 = .ok (.invokestatic 34, 3) := by decide +kernel
theorem dX0_comparedTo_11 : decode cX0_comparedTo 11 = .ok (.istore_n 2, 1) := by decide +kernel
theorem dX0_comparedTo_12 : decode cX0_comparedTo 12 = .ok (.aload_n 0, 1) := by decide +kernel
theorem dX0_comparedTo_13 : decode cX0_comparedTo 13 = .ok (.getfield 13, 3) := by decide +kernel
theorem dX0_comparedTo_16 : decode cX0_comparedTo 16 = .ok (.aload_n 1, 1) := by decide +kernel
theorem dX0_comparedTo_17 : decode cX0_comparedTo 17 = .ok (.getfield 13, 3) := by decide +kernel
theorem dX0_comparedTo_20 : decode cX0_comparedTo 20 = .ok (.invokestatic 28, 3) := by decide +kernel
theorem dX0_comparedTo_23 : decode cX0_comparedTo 23 = .ok (.istore_n 3, 1) := by decide +kernel
theorem dX0_comparedTo_24 : decode cX0_comparedTo 24 = .ok (.iload_n 3, 1) := by decide +kernel
theorem dX0_comparedTo_25 : decode cX0_comparedTo 25 = .ok (.iload_n 2, 1) := by decide +kernel
theorem dX0_comparedTo_26 : decode cX0_comparedTo 26 = .ok (.if_icmp .gt 47, 3) := by decide +kernel
theorem dX0_comparedTo_29 : decode cX0_comparedTo 29 = .ok (.aload_n 0, 1) := by decide +kernel
theorem dX0_comparedTo_30 : decode cX0_comparedTo 30 = .ok (.getfield 9, 3) := by decide +kernel
theorem dX0_comparedTo_33 : decode cX0_comparedTo 33 = .ok (.iload_n 3, 1) := by decide +kernel
theorem dX0_comparedTo_34 : decode cX0_comparedTo 34 = .ok (.laload, 1) := by decide +kernel
theorem dX0_comparedTo_35 : decode cX0_comparedTo 35 = .ok (.aload_n 1, 1) := by decide +kernel
theorem dX0_comparedTo_36 : decode cX0_comparedTo 36 = .ok (.getfield 9, 3) := by decide +kernel
theorem dX0_comparedTo_39 : decode cX0_comparedTo 39 = .ok (.iload_n 3, 1) := by decide +kernel
theorem dX0_comparedTo_40 : decode cX0_comparedTo 40 = .ok (.laload, 1) := by decide +kernel
theorem dX0_comparedTo_41 : decode cX0_comparedTo 41 = .ok (.lcmp, 1) := by decide +kernel
theorem dX0_comparedTo_42 : decode cX0_comparedTo 42 = .ok (.ifCond .eq 25, 3) := by decide +kernel
theorem dX0_comparedTo_45 : decode cX0_comparedTo 45 = .ok (.aload_n 0, 1) := by decide +kernel
theorem dX0_comparedTo_46 : decode cX0_comparedTo 46 = .ok (.getfield 9, 3) := by decide +kernel
theorem dX0_comparedTo_49 : decode cX0_comparedTo 49 = .ok (.iload_n 3, 1) := by decide +kernel
theorem dX0_comparedTo_50 : decode cX0_comparedTo 50 = .ok (.laload, 1) := by decide +kernel
theorem dX0_comparedTo_51 : decode cX0_comparedTo 51 = .ok (.aload_n 1, 1) := by decide +kernel
theorem dX0_comparedTo_52 : decode cX0_comparedTo 52 = .ok (.getfield 9, 3) := by decide +kernel
theorem dX0_comparedTo_55 : decode cX0_comparedTo 55 = .ok (.iload_n 3, 1) := by decide +kernel
theorem dX0_comparedTo_56 : decode cX0_comparedTo 56 = .ok (.laload, 1) := by decide +kernel
theorem dX0_comparedTo_57 : decode cX0_comparedTo 57 = .ok (.lcmp, 1) := by decide +kernel
theorem dX0_comparedTo_58 : decode cX0_comparedTo 58 = .ok (.ifCond .ge 7, 3) := by decide +kernel
theorem dX0_comparedTo_61 : decode cX0_comparedTo 61 = .ok (.iconst (-1), 1) := by decide +kernel
theorem dX0_comparedTo_62 : decode cX0_comparedTo 62 = .ok (.goto 4, 3) := by decide +kernel
theorem dX0_comparedTo_65 : decode cX0_comparedTo 65 = .ok (.iconst 1, 1) := by decide +kernel
theorem dX0_comparedTo_66 : decode cX0_comparedTo 66 = .ok (.ireturn, 1) := by decide +kernel
theorem dX0_comparedTo_67 : decode cX0_comparedTo 67 = .ok (.iinc 3 1, 3) := by decide +kernel
theorem dX0_comparedTo_70 : decode cX0_comparedTo 70 = .ok (.goto (-46), 3) := by decide +kernel
theorem dX0_comparedTo_73 : decode cX0_comparedTo 73 = .ok (.iconst 0, 1) := by decide +kernel
theorem dX0_comparedTo_74 : decode cX0_comparedTo 74 = .ok (.ireturn, 1) := by decide +kernel
theorem dX0_trim_0 : decode cX0_trim 0 = .ok (.aload_n 0, 1) := by decide +kernel
theorem dX0_trim_1 : decode cX0_trim 1 = .ok (.getfield 13, 3) := by decide +kernel
theorem dX0_trim_4 : decode cX0_trim 4 = .ok (.aload_n 0, 1) := by decide +kernel
theorem dX0_trim_5 : decode cX0_trim 5 = .ok (.getfield 17, 3) := by decide +kernel
theorem dX0_trim_8 : decode cX0_trim 8 = .ok (.if_icmp .gt 30, 3) := by decide +kernel
theorem dX0_trim_11 : decode cX0_trim 11 = .ok (.aload_n 0, 1) := by decide +kernel
theorem dX0_trim_12 : decode cX0_trim 12 = .ok (.getfield 9, 3) := by decide +kernel
theorem dX0_trim_15 : decode cX0_trim 15 = .ok (.aload_n 0, 1) := by decide +kernel
theorem dX0_trim_16 : decode cX0_trim 16 = .ok (.getfield 13, 3) := by decide +kernel
theorem dX0_trim_19 : decode cX0_trim 19 = .ok (.laload, 1) := by decide +kernel
theorem dX0_trim_20 : decode cX0_trim 20 = .ok (.lconst 0, 1) := by decide +kernel
theorem dX0_trim_21 : decode cX0_trim 21 = .ok (.lcmp, 1) := by decide +kernel
theorem dX0_trim_22 : decode cX0_trim 22 = .ok (.ifCond .ne 16, 3) := by decide +kernel
theorem dX0_trim_25 : decode cX0_trim 25 = .ok (.aload_n 0, 1) := by decide +kernel
theorem dX0_trim_26 : decode cX0_trim 26 = .ok (.dup, 1) := by decide +kernel
theorem dX0_trim_27 : decode cX0_trim 27 = .ok (.getfield 13, 3) := by decide +kernel
theorem dX0_trim_30 : decode cX0_trim 30 = .ok (.iconst 1, 1) := by decide +kernel
theorem dX0_trim_31 : decode cX0_trim 31 = .ok (.iadd, 1) := by decide +kernel
theorem dX0_trim_32 : decode cX0_trim 32 = .ok (.putfield 13, 3) := by decide +kernel
theorem dX0_trim_35 : decode cX0_trim 35 = .ok (.goto (-35), 3) := by decide +kernel
theorem dX0_trim_38 : decode cX0_trim 38 = .ok (.aload_n 0, 1) := by decide +kernel
theorem dX0_trim_39 : decode cX0_trim 39 = .ok (.getfield 13, 3) := by decide +kernel
theorem dX0_trim_42 : decode cX0_trim 42 = .ok (.aload_n 0, 1) := by decide +kernel
theorem dX0_trim_43 : decode cX0_trim 43 = .ok (.getfield 17, 3) := by decide +kernel
theorem dX0_trim_46 : decode cX0_trim 46 = .ok (.if_icmp .gt 30, 3) := by decide +kernel
theorem dX0_trim_49 : decode cX0_trim 49 = .ok (.aload_n 0, 1) := by decide +kernel
theorem dX0_trim_50 : decode cX0_trim 50 = .ok (.getfield 9, 3) := by decide +kernel
theorem dX0_trim_53 : decode cX0_trim 53 = .ok (.aload_n 0, 1) := by decide +kernel
theorem dX0_trim_54 : decode cX0_trim 54 = .ok (.getfield 17, 3) := by decide +kernel
theorem dX0_trim_57 : decode cX0_trim 57 = .ok (.laload, 1) := by decide +kernel
theorem dX0_trim_58 : decode cX0_trim 58 = .ok (.lconst 0, 1) := by decide +kernel
theorem dX0_trim_59 : decode cX0_trim 59 = .ok (.lcmp, 1) := by decide +kernel
theorem dX0_trim_60 : decode cX0_trim 60 = .ok (.ifCond .ne 16, 3) := by decide +kernel
theorem dX0_trim_63 : decode cX0_trim 63 = .ok (.aload_n 0, 1) := by decide +kernel
theorem dX0_trim_64 : decode cX0_trim 64 = .ok (.dup, 1) := by decide +kernel
theorem dX0_trim_65 : decode cX0_trim 65 = .ok (.getfield 17, 3) := by decide +kernel
theorem dX0_trim_68 : decode cX0_trim 68 = .ok (.iconst 1, 1) := by decide +kernel
theorem dX0_trim_69 : decode cX0_trim 69 = .ok (.isub, 1) := by decide +kernel
theorem dX0_trim_70 : decode cX0_trim 70 = .ok (.putfield 17, 3) := by decide +kernel
theorem dX0_trim_73 : decode cX0_trim 73 = .ok (.goto (-35), 3) := by decide +kernel
theorem dX0_trim_76 : decode cX0_trim 76 = .ok (.return_, 1) := by decide +kernel
theorem dX0_limb_0 : decode cX0_limb 0 = .ok (.iload_n 1, 1) := by decide +kernel
theorem dX0_limb_1 : decode cX0_limb 1 = .ok (.ifCond .lt 19, 3) := by decide +kernel
theorem dX0_limb_4 : decode cX0_limb 4 = .ok (.iload_n 1, 1) := by decide +kernel
theorem dX0_limb_5 : decode cX0_limb 5 = .ok (.sipush 160, 3) := by decide +kernel
theorem dX0_limb_8 : decode cX0_limb 8 = .ok (.if_icmp .ge 12, 3) := by decide +kernel
theorem dX0_limb_11 : decode cX0_limb 11 = .ok (.aload_n 0, 1) := by decide +kernel
theorem dX0_limb_12 : decode cX0_limb 12 = .ok (.getfield 9, 3) := by decide +kernel
theorem dX0_limb_15 : decode cX0_limb 15 = .ok (.iload_n 1, 1) := by decide +kernel
theorem dX0_limb_16 : decode cX0_limb 16 = .ok (.laload, 1) := by decide +kernel
theorem dX0_limb_17 : decode cX0_limb 17 = .ok (.goto 4, 3) := by decide +kernel
theorem dX0_limb_20 : decode cX0_limb 20 = .ok (.lconst 0, 1) := by decide +kernel
theorem dX0_limb_21 : decode cX0_limb 21 = .ok (.lreturn, 1) := by decide +kernel
theorem dX0_limbOf_0 : decode cX0_limbOf 0 = .ok (.bipush 34, 2) := by decide +kernel
theorem dX0_limbOf_2 : decode cX0_limbOf 2 = .ok (.iload_n 0, 1) := by decide +kernel
theorem dX0_limbOf_3 : decode cX0_limbOf 3 = .ok (.bipush 9, 2) := by decide +kernel
theorem dX0_limbOf_5 : decode cX0_limbOf 5 = .ok (.invokestatic 83, 3) := by decide +kernel
theorem dX0_limbOf_8 : decode cX0_limbOf 8 = .ok (.isub, 1) := by decide +kernel
theorem dX0_limbOf_9 : decode cX0_limbOf 9 = .ok (.ireturn, 1) := by decide +kernel
theorem dX0_unitOf_0 : decode cX0_unitOf 0 = .ok (.getstatic 42, 3) := by decide +kernel
theorem dX0_unitOf_3 : decode cX0_unitOf 3 = .ok (.iload_n 0, 1) := by decide +kernel
theorem dX0_unitOf_4 : decode cX0_unitOf 4 = .ok (.bipush 9, 2) := by decide +kernel
theorem dX0_unitOf_6 : decode cX0_unitOf 6 = .ok (.invokestatic 86, 3) := by decide +kernel
theorem dX0_unitOf_9 : decode cX0_unitOf 9 = .ok (.laload, 1) := by decide +kernel
theorem dX0_unitOf_10 : decode cX0_unitOf 10 = .ok (.lreturn, 1) := by decide +kernel
theorem dX1_init_0 : decode cX1_init 0 = .ok (.aload_n 0, 1) := by decide +kernel
theorem dX1_init_1 : decode cX1_init 1 = .ok (.invokespecial 1, 3) := by decide +kernel
theorem dX1_init_4 : decode cX1_init 4 = .ok (.aload_n 0, 1) := by decide +kernel
theorem dX1_init_5 : decode cX1_init 5 = .ok (.sipush 400, 3) := by decide +kernel
theorem dX1_init_8 : decode cX1_init 8 = .ok (.newarray .int, 2) := by decide +kernel
theorem dX1_init_10 : decode cX1_init 10 = .ok (.putfield 9, 3) := by decide +kernel
theorem dX1_init_13 : decode cX1_init 13 = .ok (.aload_n 0, 1) := by decide +kernel
theorem dX1_init_14 : decode cX1_init 14 = .ok (.new 13, 3) := by decide +kernel
theorem dX1_init_17 : decode cX1_init 17 = .ok (.dup, 1) := by decide +kernel
theorem dX1_init_18 : decode cX1_init 18 = .ok (.invokespecial 15, 3) := by decide +kernel
theorem dX1_init_21 : decode cX1_init 21 = .ok (.putfield 16, 3) := by decide +kernel
theorem dX1_init_24 : decode cX1_init 24 = .ok (.aload_n 0, 1) := by decide +kernel
theorem dX1_init_25 : decode cX1_init 25 = .ok (.new 13, 3) := by decide +kernel
theorem dX1_init_28 : decode cX1_init 28 = .ok (.dup, 1) := by decide +kernel
theorem dX1_init_29 : decode cX1_init 29 = .ok (.invokespecial 15, 3) := by decide +kernel
theorem dX1_init_32 : decode cX1_init 32 = .ok (.putfield 20, 3) := by decide +kernel
theorem dX1_init_35 : decode cX1_init 35 = .ok (.aload_n 0, 1) := by decide +kernel
theorem dX1_init_36 : decode cX1_init 36 = .ok (.new 13, 3) := by decide +kernel
theorem dX1_init_39 : decode cX1_init 39 = .ok (.dup, 1) := by decide +kernel
theorem dX1_init_40 : decode cX1_init 40 = .ok (.invokespecial 15, 3) := by decide +kernel
theorem dX1_init_43 : decode cX1_init 43 = .ok (.putfield 23, 3) := by decide +kernel
theorem dX1_init_46 : decode cX1_init 46 = .ok (.aload_n 0, 1) := by decide +kernel
theorem dX1_init_47 : decode cX1_init 47 = .ok (.new 13, 3) := by decide +kernel
theorem dX1_init_50 : decode cX1_init 50 = .ok (.dup, 1) := by decide +kernel
theorem dX1_init_51 : decode cX1_init 51 = .ok (.invokespecial 15, 3) := by decide +kernel
theorem dX1_init_54 : decode cX1_init 54 = .ok (.putfield 26, 3) := by decide +kernel
theorem dX1_init_57 : decode cX1_init 57 = .ok (.return_, 1) := by decide +kernel
theorem dX1_clear_0 : decode cX1_clear 0 = .ok (.aload_n 0, 1) := by decide +kernel
theorem dX1_clear_1 : decode cX1_clear 1 = .ok (.iconst 0, 1) := by decide +kernel
theorem dX1_clear_2 : decode cX1_clear 2 = .ok (.putfield 29, 3) := by decide +kernel
theorem dX1_clear_5 : decode cX1_clear 5 = .ok (.return_, 1) := by decide +kernel
theorem dX1_add_0 : decode cX1_add 0 = .ok (.iload_n 1, 1) := by decide +kernel
theorem dX1_add_1 : decode cX1_add 1 = .ok (.ifCond .lt 10, 3) := by decide +kernel
theorem dX1_add_4 : decode cX1_add 4 = .ok (.iload_n 1, 1) := by decide +kernel
theorem dX1_add_5 : decode cX1_add 5 = .ok (.sipush 255, 3) := by decide +kernel
theorem dX1_add_8 : decode cX1_add 8 = .ok (.if_icmp .le 11, 3) := by decide +kernel
theorem dX1_add_11 : decode cX1_add 11 = .ok (.new 33, 3) := by decide +kernel
theorem dX1_add_14 : decode cX1_add 14 = .ok (.dup, 1) := by decide +kernel
theorem dX1_add_15 : decode cX1_add 15 = .ok (.invokespecial 35, 3) := by decide +kernel
theorem dX1_add_18 : decode cX1_add 18 = .ok (.athrow, 1) := by decide +kernel
theorem dX1_add_19 : decode cX1_add 19 = .ok (.aload_n 0, 1) := by decide +kernel
theorem dX1_add_20 : decode cX1_add 20 = .ok (.getfield 29, 3) := by decide +kernel
theorem dX1_add_23 : decode cX1_add 23 = .ok (.sipush 400, 3) := by decide +kernel
theorem dX1_add_26 : decode cX1_add 26 = .ok (.if_icmp .lt 11, 3) := by decide +kernel
theorem dX1_add_29 : decode cX1_add 29 = .ok (.new 36, 3) := by decide +kernel
theorem dX1_add_32 : decode cX1_add 32 = .ok (.dup, 1) := by decide +kernel
theorem dX1_add_33 : decode cX1_add 33 = .ok (.invokespecial 38, 3) := by decide +kernel
theorem dX1_add_36 : decode cX1_add 36 = .ok (.athrow, 1) := by decide +kernel
theorem dX1_add_37 : decode cX1_add 37 = .ok (.aload_n 0, 1) := by decide +kernel
theorem dX1_add_38 : decode cX1_add 38 = .ok (.iload_n 1, 1) := by decide +kernel
theorem dX1_add_39 : decode cX1_add 39 = .ok (.invokevirtual 39, 3) := by decide +kernel
theorem dX1_add_42 : decode cX1_add 42 = .ok (.aload_n 0, 1) := by decide +kernel
theorem dX1_add_43 : decode cX1_add 43 = .ok (.getfield 29, 3) := by decide +kernel
theorem dX1_add_46 : decode cX1_add 46 = .ok (.ireturn, 1) := by decide +kernel
theorem dX1_read_0 : decode cX1_read 0 = .ok (.aload_n 0, 1) := by decide +kernel
theorem dX1_read_1 : decode cX1_read 1 = .ok (.invokevirtual 43, 3) := by decide +kernel
theorem dX1_read_4 : decode cX1_read 4 = .ok (.ifCond .ne 11, 3) := by decide +kernel
theorem dX1_read_7 : decode cX1_read 7 = .ok (.new 36, 3) := by decide +kernel
theorem dX1_read_10 : decode cX1_read 10 = .ok (.dup, 1) := by decide +kernel
theorem dX1_read_11 : decode cX1_read 11 = .ok (.invokespecial 38, 3) := by decide +kernel
theorem dX1_read_14 : decode cX1_read 14 = .ok (.athrow, 1) := by decide +kernel
theorem dX1_read_15 : decode cX1_read 15 = .ok (.aload_n 0, 1) := by decide +kernel
theorem dX1_read_16 : decode cX1_read 16 = .ok (.invokevirtual 47, 3) := by decide +kernel
theorem dX1_read_19 : decode cX1_read 19 = .ok (.lstore_n 1, 1) := by decide +kernel
theorem dX1_read_20 : decode cX1_read 20 = .ok (.aload_n 0, 1) := by decide +kernel
theorem dX1_read_21 : decode cX1_read 21 = .ok (.iconst 0, 1) := by decide +kernel
theorem dX1_read_22 : decode cX1_read 22 = .ok (.bipush 45, 2) := by decide +kernel
theorem dX1_read_24 : decode cX1_read 24 = .ok (.invokevirtual 51, 3) := by decide +kernel
theorem dX1_read_27 : decode cX1_read 27 = .ok (.ifCond .eq 11, 3) := by decide +kernel
theorem dX1_read_30 : decode cX1_read 30 = .ok (.lload_n 1, 1) := by decide +kernel
theorem dX1_read_31 : decode cX1_read 31 = .ok (.ldc2_w 55, 3) := by decide +kernel
theorem dX1_read_34 : decode cX1_read 34 = .ok (.lor, 1) := by decide +kernel
theorem dX1_read_35 : decode cX1_read 35 = .ok (.goto 4, 3) := by decide +kernel
theorem dX1_read_38 : decode cX1_read 38 = .ok (.lload_n 1, 1) := by decide +kernel
theorem dX1_read_39 : decode cX1_read 39 = .ok (.lreturn, 1) := by decide +kernel
theorem dX1_print_0 : decode cX1_print 0 = .ok (.iload_n 3, 1) := by decide +kernel
theorem dX1_print_1 : decode cX1_print 1 = .ok (.ifCond .lt 9, 3) := by decide +kernel
theorem dX1_print_4 : decode cX1_print 4 = .ok (.iload_n 3, 1) := by decide +kernel
theorem dX1_print_5 : decode cX1_print 5 = .ok (.bipush 30, 2) := by decide +kernel
theorem dX1_print_7 : decode cX1_print 7 = .ok (.if_icmp .le 11, 3) := by decide +kernel
theorem dX1_print_10 : decode cX1_print 10 = .ok (.new 33, 3) := by decide +kernel
theorem dX1_print_13 : decode cX1_print 13 = .ok (.dup, 1) := by decide +kernel
theorem dX1_print_14 : decode cX1_print 14 = .ok (.invokespecial 35, 3) := by decide +kernel
theorem dX1_print_17 : decode cX1_print 17 = .ok (.athrow, 1) := by decide +kernel
theorem dX1_print_18 : decode cX1_print 18 = .ok (.lload_n 1, 1) := by decide +kernel
theorem dX1_print_19 : decode cX1_print 19 = .ok (.invokestatic 57, 3) := by decide +kernel
theorem dX1_print_22 : decode cX1_print 22 = .ok (.ifCond .eq 11, 3) := by decide +kernel
theorem dX1_print_25 : decode cX1_print 25 = .ok (.new 36, 3) := by decide +kernel
theorem dX1_print_28 : decode cX1_print 28 = .ok (.dup, 1) := by decide +kernel
theorem dX1_print_29 : decode cX1_print 29 = .ok (.invokespecial 38, 3) := by decide +kernel
theorem dX1_print_32 : decode cX1_print 32 = .ok (.athrow, 1) := by decide +kernel
theorem dX1_print_33 : decode cX1_print 33 = .ok (.aload_n 0, 1) := by decide +kernel
theorem dX1_print_34 : decode cX1_print 34 = .ok (.getfield 16, 3) := by decide +kernel
theorem dX1_print_37 : decode cX1_print 37 = .ok (.lload_n 1, 1) := by decide +kernel
theorem dX1_print_38 : decode cX1_print 38 = .ok (.invokestatic 61, 3) := by decide +kernel
theorem dX1_print_41 : decode cX1_print 41 = .ok (.lload_n 1, 1) := by decide +kernel
theorem dX1_print_42 : decode cX1_print 42 = .ok (.invokestatic 65, 3) := by decide +kernel
theorem dX1_print_45 : decode cX1_print 45 = .ok (.invokevirtual 69, 3) := by decide +kernel
theorem dX1_print_48 : decode cX1_print 48 = .ok (.aload_n 0, 1) := by decide +kernel
end
section
theorem dX1_print_49 : decode cX1_print 49 = .ok (.getfield 20, 3) := by decide +kernel
theorem dX1_print_52 : decode cX1_print 52 = .ok (.aload_n 0, 1) := by decide +kernel
theorem dX1_print_53 : decode cX1_print 53 = .ok (.getfield 16, 3) := by decide +kernel
theorem dX1_print_56 : decode cX1_print 56 = .ok (.iload_n 3, 1) := by decide +kernel
theorem dX1_print_57 : decode cX1_print 57 = .ok (.ineg, 1) := by decide +kernel
theorem dX1_print_58 : decode cX1_print 58 = .ok (.invokevirtual 73, 3) := by decide +kernel
theorem dX1_print_61 : decode cX1_print 61 = .ok (.aload_n 0, 1) := by decide +kernel
theorem dX1_print_62 : decode cX1_print 62 = .ok (.lload_n 1, 1) := by decide +kernel
theorem dX1_print_63 : decode cX1_print 63 = .ok (.invokevirtual 77, 3) := by decide +kernel
theorem dX1_print_66 : decode cX1_print 66 = .ok (.aload_n 0, 1) := by decide +kernel
theorem dX1_print_67 : decode cX1_print 67 = .ok (.iconst 0, 1) := by decide +kernel
theorem dX1_print_68 : decode cX1_print 68 = .ok (.aload_n 0, 1) := by decide +kernel
theorem dX1_print_69 : decode cX1_print 69 = .ok (.getfield 20, 3) := by decide +kernel
theorem dX1_print_72 : decode cX1_print 72 = .ok (.invokevirtual 81, 3) := by decide +kernel
theorem dX1_print_75 : decode cX1_print 75 = .ok (.invokestatic 85, 3) := by decide +kernel
theorem dX1_print_78 : decode cX1_print 78 = .ok (.iconst 0, 1) := by decide +kernel
theorem dX1_print_79 : decode cX1_print 79 = .ok (.invokevirtual 91, 3) := by decide +kernel
theorem dX1_print_82 : decode cX1_print 82 = .ok (.iload_n 3, 1) := by decide +kernel
theorem dX1_print_83 : decode cX1_print 83 = .ok (.ifCond .le 16, 3) := by decide +kernel
theorem dX1_print_86 : decode cX1_print 86 = .ok (.aload_n 0, 1) := by decide +kernel
theorem dX1_print_87 : decode cX1_print 87 = .ok (.bipush 46, 2) := by decide +kernel
theorem dX1_print_89 : decode cX1_print 89 = .ok (.invokevirtual 39, 3) := by decide +kernel
theorem dX1_print_92 : decode cX1_print 92 = .ok (.aload_n 0, 1) := by decide +kernel
theorem dX1_print_93 : decode cX1_print 93 = .ok (.iconst (-1), 1) := by decide +kernel
theorem dX1_print_94 : decode cX1_print 94 = .ok (.iload_n 3, 1) := by decide +kernel
theorem dX1_print_95 : decode cX1_print 95 = .ok (.ineg, 1) := by decide +kernel
theorem dX1_print_96 : decode cX1_print 96 = .ok (.invokevirtual 91, 3) := by decide +kernel
theorem dX1_print_99 : decode cX1_print 99 = .ok (.aload_n 0, 1) := by decide +kernel
theorem dX1_print_100 : decode cX1_print 100 = .ok (.getfield 29, 3) := by decide +kernel
theorem dX1_print_103 : decode cX1_print 103 = .ok (.ireturn, 1) := by decide +kernel
theorem dX1_shortest_0 : decode cX1_shortest 0 = .ok (.lload_n 1, 1) := by decide +kernel
theorem dX1_shortest_1 : decode cX1_shortest 1 = .ok (.invokestatic 57, 3) := by decide +kernel
theorem dX1_shortest_4 : decode cX1_shortest 4 = .ok (.ifCond .eq 11, 3) := by decide +kernel
theorem dX1_shortest_7 : decode cX1_shortest 7 = .ok (.new 36, 3) := by decide +kernel
theorem dX1_shortest_10 : decode cX1_shortest 10 = .ok (.dup, 1) := by decide +kernel
theorem dX1_shortest_11 : decode cX1_shortest 11 = .ok (.invokespecial 38, 3) := by decide +kernel
theorem dX1_shortest_14 : decode cX1_shortest 14 = .ok (.athrow, 1) := by decide +kernel
theorem dX1_shortest_15 : decode cX1_shortest 15 = .ok (.aload_n 0, 1) := by decide +kernel
theorem dX1_shortest_16 : decode cX1_shortest 16 = .ok (.lload_n 1, 1) := by decide +kernel
theorem dX1_shortest_17 : decode cX1_shortest 17 = .ok (.invokevirtual 77, 3) := by decide +kernel
theorem dX1_shortest_20 : decode cX1_shortest 20 = .ok (.lload_n 1, 1) := by decide +kernel
theorem dX1_shortest_21 : decode cX1_shortest 21 = .ok (.invokestatic 61, 3) := by decide +kernel
theorem dX1_shortest_24 : decode cX1_shortest 24 = .ok (.lconst 0, 1) := by decide +kernel
theorem dX1_shortest_25 : decode cX1_shortest 25 = .ok (.lcmp, 1) := by decide +kernel
theorem dX1_shortest_26 : decode cX1_shortest 26 = .ok (.ifCond .ne 17, 3) := by decide +kernel
theorem dX1_shortest_29 : decode cX1_shortest 29 = .ok (.aload_n 0, 1) := by decide +kernel
theorem dX1_shortest_30 : decode cX1_shortest 30 = .ok (.bipush 48, 2) := by decide +kernel
theorem dX1_shortest_32 : decode cX1_shortest 32 = .ok (.invokevirtual 39, 3) := by decide +kernel
theorem dX1_shortest_35 : decode cX1_shortest 35 = .ok (.aload_n 0, 1) := by decide +kernel
theorem dX1_shortest_36 : decode cX1_shortest 36 = .ok (.iconst 0, 1) := by decide +kernel
theorem dX1_shortest_37 : decode cX1_shortest 37 = .ok (.invokevirtual 95, 3) := by decide +kernel
theorem dX1_shortest_40 : decode cX1_shortest 40 = .ok (.goto 15, 3) := by decide +kernel
theorem dX1_shortest_43 : decode cX1_shortest 43 = .ok (.aload_n 0, 1) := by decide +kernel
theorem dX1_shortest_44 : decode cX1_shortest 44 = .ok (.lload_n 1, 1) := by decide +kernel
theorem dX1_shortest_45 : decode cX1_shortest 45 = .ok (.invokestatic 61, 3) := by decide +kernel
theorem dX1_shortest_48 : decode cX1_shortest 48 = .ok (.lload_n 1, 1) := by decide +kernel
theorem dX1_shortest_49 : decode cX1_shortest 49 = .ok (.invokestatic 65, 3) := by decide +kernel
theorem dX1_shortest_52 : decode cX1_shortest 52 = .ok (.invokevirtual 98, 3) := by decide +kernel
theorem dX1_shortest_55 : decode cX1_shortest 55 = .ok (.aload_n 0, 1) := by decide +kernel
theorem dX1_shortest_56 : decode cX1_shortest 56 = .ok (.getfield 29, 3) := by decide +kernel
theorem dX1_shortest_59 : decode cX1_shortest 59 = .ok (.ireturn, 1) := by decide +kernel
theorem dX1_letter_0 : decode cX1_letter 0 = .ok (.iload_n 1, 1) := by decide +kernel
theorem dX1_letter_1 : decode cX1_letter 1 = .ok (.ifCond .lt 11, 3) := by decide +kernel
theorem dX1_letter_4 : decode cX1_letter 4 = .ok (.iload_n 1, 1) := by decide +kernel
theorem dX1_letter_5 : decode cX1_letter 5 = .ok (.aload_n 0, 1) := by decide +kernel
theorem dX1_letter_6 : decode cX1_letter 6 = .ok (.getfield 29, 3) := by decide +kernel
theorem dX1_letter_9 : decode cX1_letter 9 = .ok (.if_icmp .lt 11, 3) := by decide +kernel
theorem dX1_letter_12 : decode cX1_letter 12 = .ok (.new 101, 3) := by decide +kernel
theorem dX1_letter_15 : decode cX1_letter 15 = .ok (.dup, 1) := by decide +kernel
theorem dX1_letter_16 : decode cX1_letter 16 = .ok (.invokespecial 103, 3) := by decide +kernel
theorem dX1_letter_19 : decode cX1_letter 19 = .ok (.athrow, 1) := by decide +kernel
theorem dX1_letter_20 : decode cX1_letter 20 = .ok (.aload_n 0, 1) := by decide +kernel
theorem dX1_letter_21 : decode cX1_letter 21 = .ok (.getfield 9, 3) := by decide +kernel
theorem dX1_letter_24 : decode cX1_letter 24 = .ok (.iload_n 1, 1) := by decide +kernel
theorem dX1_letter_25 : decode cX1_letter 25 = .ok (.iaload, 1) := by decide +kernel
theorem dX1_letter_26 : decode cX1_letter 26 = .ok (.ireturn, 1) := by decide +kernel
theorem dX1_isNone_0 : decode cX1_isNone 0 = .ok (.lload_n 0, 1) := by decide +kernel
theorem dX1_isNone_1 : decode cX1_isNone 1 = .ok (.ldc2_w 104, 3) := by decide +kernel
theorem dX1_isNone_4 : decode cX1_isNone 4 = .ok (.land, 1) := by decide +kernel
theorem dX1_isNone_5 : decode cX1_isNone 5 = .ok (.ldc2_w 104, 3) := by decide +kernel
theorem dX1_isNone_8 : decode cX1_isNone 8 = .ok (.lcmp, 1) := by decide +kernel
theorem dX1_isNone_9 : decode cX1_isNone 9 = .ok (.ifCond .ne 7, 3) := by decide +kernel
theorem dX1_isNone_12 : decode cX1_isNone 12 = .ok (.iconst 1, 1) := by decide +kernel
theorem dX1_isNone_13 : decode cX1_isNone 13 = .ok (.goto 4, 3) := by decide +kernel
theorem dX1_isNone_16 : decode cX1_isNone 16 = .ok (.iconst 0, 1) := by decide +kernel
theorem dX1_isNone_17 : decode cX1_isNone 17 = .ok (.ireturn, 1) := by decide +kernel
theorem dX1_mantissaOf_0 : decode cX1_mantissaOf 0 = .ok (.lload_n 0, 1) := by decide +kernel
theorem dX1_mantissaOf_1 : decode cX1_mantissaOf 1 = .ok (.ldc2_w 106, 3) := by decide +kernel
theorem dX1_mantissaOf_4 : decode cX1_mantissaOf 4 = .ok (.land, 1) := by decide +kernel
theorem dX1_mantissaOf_5 : decode cX1_mantissaOf 5 = .ok (.lstore_n 2, 1) := by decide +kernel
theorem dX1_mantissaOf_6 : decode cX1_mantissaOf 6 = .ok (.lload_n 0, 1) := by decide +kernel
theorem dX1_mantissaOf_7 : decode cX1_mantissaOf 7 = .ok (.ldc2_w 104, 3) := by decide +kernel
theorem dX1_mantissaOf_10 : decode cX1_mantissaOf 10 = .ok (.land, 1) := by decide +kernel
theorem dX1_mantissaOf_11 : decode cX1_mantissaOf 11 = .ok (.lconst 0, 1) := by decide +kernel
theorem dX1_mantissaOf_12 : decode cX1_mantissaOf 12 = .ok (.lcmp, 1) := by decide +kernel
theorem dX1_mantissaOf_13 : decode cX1_mantissaOf 13 = .ok (.ifCond .ne 7, 3) := by decide +kernel
theorem dX1_mantissaOf_16 : decode cX1_mantissaOf 16 = .ok (.lload_n 2, 1) := by decide +kernel
theorem dX1_mantissaOf_17 : decode cX1_mantissaOf 17 = .ok (.goto 8, 3) := by decide +kernel
theorem dX1_mantissaOf_20 : decode cX1_mantissaOf 20 = .ok (.lload_n 2, 1) := by decide +kernel
theorem dX1_mantissaOf_21 : decode cX1_mantissaOf 21 = .ok (.ldc2_w 108, 3) := by decide +kernel
theorem dX1_mantissaOf_24 : decode cX1_mantissaOf 24 = .ok (.ladd, 1) := by decide +kernel
theorem dX1_mantissaOf_25 : decode cX1_mantissaOf 25 = .ok (.lreturn, 1) := by decide +kernel
theorem dX1_powerOf_0 : decode cX1_powerOf 0 = .ok (.lload_n 0, 1) := by decide +kernel
theorem dX1_powerOf_1 : decode cX1_powerOf 1 = .ok (.ldc2_w 104, 3) := by decide +kernel
theorem dX1_powerOf_4 : decode cX1_powerOf 4 = .ok (.land, 1) := by decide +kernel
theorem dX1_powerOf_5 : decode cX1_powerOf 5 = .ok (.bipush 52, 2) := by decide +kernel
theorem dX1_powerOf_7 : decode cX1_powerOf 7 = .ok (.lushr, 1) := by decide +kernel
theorem dX1_powerOf_8 : decode cX1_powerOf 8 = .ok (.l2i, 1) := by decide +kernel
theorem dX1_powerOf_9 : decode cX1_powerOf 9 = .ok (.istore_n 2, 1) := by decide +kernel
theorem dX1_powerOf_10 : decode cX1_powerOf 10 = .ok (.iload_n 2, 1) := by decide +kernel
theorem dX1_powerOf_11 : decode cX1_powerOf 11 = .ok (.iconst 1, 1) := by decide +kernel
theorem dX1_powerOf_12 : decode cX1_powerOf 12 = .ok (.invokestatic 85, 3) := by decide +kernel
theorem dX1_powerOf_15 : decode cX1_powerOf 15 = .ok (.iconst 1, 1) := by decide +kernel
theorem dX1_powerOf_16 : decode cX1_powerOf 16 = .ok (.isub, 1) := by decide +kernel
theorem dX1_powerOf_17 : decode cX1_powerOf 17 = .ok (.sipush (-1074), 3) := by decide +kernel
theorem dX1_powerOf_20 : decode cX1_powerOf 20 = .ok (.iadd, 1) := by decide +kernel
theorem dX1_powerOf_21 : decode cX1_powerOf 21 = .ok (.ireturn, 1) := by decide +kernel
theorem dX1_isAt_0 : decode cX1_isAt 0 = .ok (.iload_n 1, 1) := by decide +kernel
theorem dX1_isAt_1 : decode cX1_isAt 1 = .ok (.aload_n 0, 1) := by decide +kernel
theorem dX1_isAt_2 : decode cX1_isAt 2 = .ok (.getfield 29, 3) := by decide +kernel
theorem dX1_isAt_5 : decode cX1_isAt 5 = .ok (.if_icmp .ge 17, 3) := by decide +kernel
theorem dX1_isAt_8 : decode cX1_isAt 8 = .ok (.aload_n 0, 1) := by decide +kernel
theorem dX1_isAt_9 : decode cX1_isAt 9 = .ok (.getfield 9, 3) := by decide +kernel
theorem dX1_isAt_12 : decode cX1_isAt 12 = .ok (.iload_n 1, 1) := by decide +kernel
theorem dX1_isAt_13 : decode cX1_isAt 13 = .ok (.iaload, 1) := by decide +kernel
theorem dX1_isAt_14 : decode cX1_isAt 14 = .ok (.iload_n 2, 1) := by decide +kernel
theorem dX1_isAt_15 : decode cX1_isAt 15 = .ok (.if_icmp .ne 7, 3) := by decide +kernel
theorem dX1_isAt_18 : decode cX1_isAt 18 = .ok (.iconst 1, 1) := by decide +kernel
theorem dX1_isAt_19 : decode cX1_isAt 19 = .ok (.goto 4, 3) := by decide +kernel
theorem dX1_isAt_22 : decode cX1_isAt 22 = .ok (.iconst 0, 1) := by decide +kernel
theorem dX1_isAt_23 : decode cX1_isAt 23 = .ok (.ireturn, 1) := by decide +kernel
theorem dX1_scanNumeral_0 : decode cX1_scanNumeral 0 = .ok (.aload_n 0, 1) := by decide +kernel
theorem dX1_scanNumeral_1 : decode cX1_scanNumeral 1 = .ok (.aload_n 0, 1) := by decide +kernel
theorem dX1_scanNumeral_2 : decode cX1_scanNumeral 2 = .ok (.iconst 0, 1) := by decide +kernel
theorem dX1_scanNumeral_3 : decode cX1_scanNumeral 3 = .ok (.bipush 45, 2) := by decide +kernel
theorem dX1_scanNumeral_5 : decode cX1_scanNumeral 5 = .ok (.invokevirtual 51, 3) := by decide +kernel
theorem dX1_scanNumeral_8 : decode cX1_scanNumeral 8 = .ok (.ifCond .eq 7, 3) := by decide +kernel
theorem dX1_scanNumeral_11 : decode cX1_scanNumeral 11 = .ok (.iconst 1, 1) := by decide +kernel
theorem dX1_scanNumeral_12 : decode cX1_scanNumeral 12 = .ok (.goto 4, 3) := by decide +kernel
theorem dX1_scanNumeral_15 : decode cX1_scanNumeral 15 = .ok (.iconst 0, 1) := by decide +kernel
theorem dX1_scanNumeral_16 : decode cX1_scanNumeral 16 = .ok (.putfield 110, 3) := by decide +kernel
theorem dX1_scanNumeral_19 : decode cX1_scanNumeral 19 = .ok (.aload_n 0, 1) := by decide +kernel
theorem dX1_scanNumeral_20 : decode cX1_scanNumeral 20 = .ok (.aload_n 0, 1) := by decide +kernel
theorem dX1_scanNumeral_21 : decode cX1_scanNumeral 21 = .ok (.aload_n 0, 1) := by decide +kernel
theorem dX1_scanNumeral_22 : decode cX1_scanNumeral 22 = .ok (.getfield 110, 3) := by decide +kernel
theorem dX1_scanNumeral_25 : decode cX1_scanNumeral 25 = .ok (.invokevirtual 113, 3) := by decide +kernel
theorem dX1_scanNumeral_28 : decode cX1_scanNumeral 28 = .ok (.putfield 117, 3) := by decide +kernel
theorem dX1_scanNumeral_31 : decode cX1_scanNumeral 31 = .ok (.aload_n 0, 1) := by decide +kernel
theorem dX1_scanNumeral_32 : decode cX1_scanNumeral 32 = .ok (.aload_n 0, 1) := by decide +kernel
theorem dX1_scanNumeral_33 : decode cX1_scanNumeral 33 = .ok (.getfield 117, 3) := by decide +kernel
theorem dX1_scanNumeral_36 : decode cX1_scanNumeral 36 = .ok (.iconst 1, 1) := by decide +kernel
theorem dX1_scanNumeral_37 : decode cX1_scanNumeral 37 = .ok (.isub, 1) := by decide +kernel
theorem dX1_scanNumeral_38 : decode cX1_scanNumeral 38 = .ok (.putfield 120, 3) := by decide +kernel
theorem dX1_scanNumeral_41 : decode cX1_scanNumeral 41 = .ok (.aload_n 0, 1) := by decide +kernel
theorem dX1_scanNumeral_42 : decode cX1_scanNumeral 42 = .ok (.getfield 117, 3) := by decide +kernel
theorem dX1_scanNumeral_45 : decode cX1_scanNumeral 45 = .ok (.aload_n 0, 1) := by decide +kernel
theorem dX1_scanNumeral_46 : decode cX1_scanNumeral 46 = .ok (.getfield 110, 3) := by decide +kernel
theorem dX1_scanNumeral_49 : decode cX1_scanNumeral 49 = .ok (.if_icmp .ne 5, 3) := by decide +kernel
theorem dX1_scanNumeral_52 : decode cX1_scanNumeral 52 = .ok (.iconst 0, 1) := by decide +kernel
theorem dX1_scanNumeral_53 : decode cX1_scanNumeral 53 = .ok (.ireturn, 1) := by decide +kernel
theorem dX1_scanNumeral_54 : decode cX1_scanNumeral 54 = .ok (.aload_n 0, 1) := by decide +kernel
theorem dX1_scanNumeral_55 : decode cX1_scanNumeral 55 = .ok (.aload_n 0, 1) := by decide +kernel
theorem dX1_scanNumeral_56 : decode cX1_scanNumeral 56 = .ok (.getfield 117, 3) := by decide +kernel
theorem dX1_scanNumeral_59 : decode cX1_scanNumeral 59 = .ok (.bipush 46, 2) := by decide +kernel
theorem dX1_scanNumeral_61 : decode cX1_scanNumeral 61 = .ok (.invokevirtual 51, 3) := by decide +kernel
theorem dX1_scanNumeral_64 : decode cX1_scanNumeral 64 = .ok (.ifCond .eq 29, 3) := by decide +kernel
theorem dX1_scanNumeral_67 : decode cX1_scanNumeral 67 = .ok (.aload_n 0, 1) := by decide +kernel
theorem dX1_scanNumeral_68 : decode cX1_scanNumeral 68 = .ok (.getfield 117, 3) := by decide +kernel
theorem dX1_scanNumeral_71 : decode cX1_scanNumeral 71 = .ok (.iconst 1, 1) := by decide +kernel
theorem dX1_scanNumeral_72 : decode cX1_scanNumeral 72 = .ok (.iadd, 1) := by decide +kernel
theorem dX1_scanNumeral_73 : decode cX1_scanNumeral 73 = .ok (.istore_n 1, 1) := by decide +kernel
theorem dX1_scanNumeral_74 : decode cX1_scanNumeral 74 = .ok (.aload_n 0, 1) := by decide +kernel
theorem dX1_scanNumeral_75 : decode cX1_scanNumeral 75 = .ok (.aload_n 0, 1) := by decide +kernel
theorem dX1_scanNumeral_76 : decode cX1_scanNumeral 76 = .ok (.iload_n 1, 1) := by decide +kernel
theorem dX1_scanNumeral_77 : decode cX1_scanNumeral 77 = .ok (.invokevirtual 113, 3) := by decide +kernel
theorem dX1_scanNumeral_80 : decode cX1_scanNumeral 80 = .ok (.putfield 117, 3) := by decide +kernel
theorem dX1_scanNumeral_83 : decode cX1_scanNumeral 83 = .ok (.aload_n 0, 1) := by decide +kernel
theorem dX1_scanNumeral_84 : decode cX1_scanNumeral 84 = .ok (.getfield 117, 3) := by decide +kernel
theorem dX1_scanNumeral_87 : decode cX1_scanNumeral 87 = .ok (.iload_n 1, 1) := by decide +kernel
theorem dX1_scanNumeral_88 : decode cX1_scanNumeral 88 = .ok (.if_icmp .ne 5, 3) := by decide +kernel
theorem dX1_scanNumeral_91 : decode cX1_scanNumeral 91 = .ok (.iconst 0, 1) := by decide +kernel
theorem dX1_scanNumeral_92 : decode cX1_scanNumeral 92 = .ok (.ireturn, 1) := by decide +kernel
theorem dX1_scanNumeral_93 : decode cX1_scanNumeral 93 = .ok (.aload_n 0, 1) := by decide +kernel
theorem dX1_scanNumeral_94 : decode cX1_scanNumeral 94 = .ok (.iconst 0, 1) := by decide +kernel
theorem dX1_scanNumeral_95 : decode cX1_scanNumeral 95 = .ok (.putfield 123, 3) := by decide +kernel
theorem dX1_scanNumeral_98 : decode cX1_scanNumeral 98 = .ok (.aload_n 0, 1) := by decide +kernel
theorem dX1_scanNumeral_99 : decode cX1_scanNumeral 99 = .ok (.getfield 117, 3) := by decide +kernel
theorem dX1_scanNumeral_102 : decode cX1_scanNumeral 102 = .ok (.aload_n 0, 1) := by decide +kernel
theorem dX1_scanNumeral_103 : decode cX1_scanNumeral 103 = .ok (.getfield 29, 3) := by decide +kernel
theorem dX1_scanNumeral_106 : decode cX1_scanNumeral 106 = .ok (.if_icmp .eq 14, 3) := by decide +kernel
theorem dX1_scanNumeral_109 : decode cX1_scanNumeral 109 = .ok (.aload_n 0, 1) := by decide +kernel
theorem dX1_scanNumeral_110 : decode cX1_scanNumeral 110 = .ok (.aload_n 0, 1) := by decide +kernel
theorem dX1_scanNumeral_111 : decode cX1_scanNumeral 111 = .ok (.getfield 117, 3) := by decide +kernel
theorem dX1_scanNumeral_114 : decode cX1_scanNumeral 114 = .ok (.invokevirtual 126, 3) := by decide +kernel
theorem dX1_scanNumeral_117 : decode cX1_scanNumeral 117 = .ok (.ifCond .eq 7, 3) := by decide +kernel
theorem dX1_scanNumeral_120 : decode cX1_scanNumeral 120 = .ok (.iconst 1, 1) := by decide +kernel
theorem dX1_scanNumeral_121 : decode cX1_scanNumeral 121 = .ok (.goto 4, 3) := by decide +kernel
theorem dX1_scanNumeral_124 : decode cX1_scanNumeral 124 = .ok (.iconst 0, 1) := by decide +kernel
theorem dX1_scanNumeral_125 : decode cX1_scanNumeral 125 = .ok (.ireturn, 1) := by decide +kernel
theorem dX1_scanPower_0 : decode cX1_scanPower 0 = .ok (.aload_n 0, 1) := by decide +kernel
theorem dX1_scanPower_1 : decode cX1_scanPower 1 = .ok (.iload_n 1, 1) := by decide +kernel
theorem dX1_scanPower_2 : decode cX1_scanPower 2 = .ok (.bipush 101, 2) := by decide +kernel
theorem dX1_scanPower_4 : decode cX1_scanPower 4 = .ok (.invokevirtual 51, 3) := by decide +kernel
theorem dX1_scanPower_7 : decode cX1_scanPower 7 = .ok (.ifCond .ne 5, 3) := by decide +kernel
theorem dX1_scanPower_10 : decode cX1_scanPower 10 = .ok (.iconst 0, 1) := by decide +kernel
theorem dX1_scanPower_11 : decode cX1_scanPower 11 = .ok (.ireturn, 1) := by decide +kernel
theorem dX1_scanPower_12 : decode cX1_scanPower 12 = .ok (.aload_n 0, 1) := by decide +kernel
theorem dX1_scanPower_13 : decode cX1_scanPower 13 = .ok (.iload_n 1, 1) := by decide +kernel
theorem dX1_scanPower_14 : decode cX1_scanPower 14 = .ok (.iconst 1, 1) := by decide +kernel
theorem dX1_scanPower_15 : decode cX1_scanPower 15 = .ok (.iadd, 1) := by decide +kernel
theorem dX1_scanPower_16 : decode cX1_scanPower 16 = .ok (.bipush 45, 2) := by decide +kernel
theorem dX1_scanPower_18 : decode cX1_scanPower 18 = .ok (.invokevirtual 51, 3) := by decide +kernel
theorem dX1_scanPower_21 : decode cX1_scanPower 21 = .ok (.istore_n 2, 1) := by decide +kernel
theorem dX1_scanPower_22 : decode cX1_scanPower 22 = .ok (.iload_n 2, 1) := by decide +kernel
theorem dX1_scanPower_23 : decode cX1_scanPower 23 = .ok (.ifCond .eq 9, 3) := by decide +kernel
theorem dX1_scanPower_26 : decode cX1_scanPower 26 = .ok (.iload_n 1, 1) := by decide +kernel
theorem dX1_scanPower_27 : decode cX1_scanPower 27 = .ok (.iconst 2, 1) := by decide +kernel
theorem dX1_scanPower_28 : decode cX1_scanPower 28 = .ok (.iadd, 1) := by decide +kernel
theorem dX1_scanPower_29 : decode cX1_scanPower 29 = .ok (.goto 6, 3) := by decide +kernel
theorem dX1_scanPower_32 : decode cX1_scanPower 32 = .ok (.iload_n 1, 1) := by decide +kernel
theorem dX1_scanPower_33 : decode cX1_scanPower 33 = .ok (.iconst 1, 1) := by decide +kernel
theorem dX1_scanPower_34 : decode cX1_scanPower 34 = .ok (.iadd, 1) := by decide +kernel
theorem dX1_scanPower_35 : decode cX1_scanPower 35 = .ok (.istore_n 3, 1) := by decide +kernel
theorem dX1_scanPower_36 : decode cX1_scanPower 36 = .ok (.aload_n 0, 1) := by decide +kernel
theorem dX1_scanPower_37 : decode cX1_scanPower 37 = .ok (.iload_n 3, 1) := by decide +kernel
theorem dX1_scanPower_38 : decode cX1_scanPower 38 = .ok (.invokevirtual 113, 3) := by decide +kernel
theorem dX1_scanPower_41 : decode cX1_scanPower 41 = .ok (.istore 4, 2) := by decide +kernel
theorem dX1_scanPower_43 : decode cX1_scanPower 43 = .ok (.iload 4, 2) := by decide +kernel
theorem dX1_scanPower_45 : decode cX1_scanPower 45 = .ok (.iload_n 3, 1) := by decide +kernel
theorem dX1_scanPower_46 : decode cX1_scanPower 46 = .ok (.if_icmp .eq 20, 3) := by decide +kernel
theorem dX1_scanPower_49 : decode cX1_scanPower 49 = .ok (.iload 4, 2) := by decide +kernel
theorem dX1_scanPower_51 : decode cX1_scanPower 51 = .ok (.iload_n 3, 1) := by decide +kernel
theorem dX1_scanPower_52 : decode cX1_scanPower 52 = .ok (.isub, 1) := by decide +kernel
theorem dX1_scanPower_53 : decode cX1_scanPower 53 = .ok (.iconst 4, 1) := by decide +kernel
theorem dX1_scanPower_54 : decode cX1_scanPower 54 = .ok (.if_icmp .gt 12, 3) := by decide +kernel
theorem dX1_scanPower_57 : decode cX1_scanPower 57 = .ok (.iload 4, 2) := by decide +kernel
theorem dX1_scanPower_59 : decode cX1_scanPower 59 = .ok (.aload_n 0, 1) := by decide +kernel
theorem dX1_scanPower_60 : decode cX1_scanPower 60 = .ok (.getfield 29, 3) := by decide +kernel
theorem dX1_scanPower_63 : decode cX1_scanPower 63 = .ok (.if_icmp .eq 5, 3) := by decide +kernel
theorem dX1_scanPower_66 : decode cX1_scanPower 66 = .ok (.iconst 0, 1) := by decide +kernel
theorem dX1_scanPower_67 : decode cX1_scanPower 67 = .ok (.ireturn, 1) := by decide +kernel
theorem dX1_scanPower_68 : decode cX1_scanPower 68 = .ok (.iload_n 3, 1) := by decide +kernel
theorem dX1_scanPower_69 : decode cX1_scanPower 69 = .ok (.istore 5, 2) := by decide +kernel
theorem dX1_scanPower_71 : decode cX1_scanPower 71 = .ok (.iload 5, 2) := by decide +kernel
theorem dX1_scanPower_73 : decode cX1_scanPower 73 = .ok (.iload 4, 2) := by decide +kernel
theorem dX1_scanPower_75 : decode cX1_scanPower 75 = .ok (.if_icmp .ge 31, 3) := by decide +kernel
theorem dX1_scanPower_78 : decode cX1_scanPower 78 = .ok (.aload_n 0, 1) := by decide +kernel
theorem dX1_scanPower_79 : decode cX1_scanPower 79 = .ok (.aload_n 0, 1) := by decide +kernel
theorem dX1_scanPower_80 : decode cX1_scanPower 80 = .ok (.getfield 123, 3) := by decide +kernel
theorem dX1_scanPower_83 : decode cX1_scanPower 83 = .ok (.bipush 10, 2) := by decide +kernel
theorem dX1_scanPower_85 : decode cX1_scanPower 85 = .ok (.imul, 1) := by decide +kernel
theorem dX1_scanPower_86 : decode cX1_scanPower 86 = .ok (.aload_n 0, 1) := by decide +kernel
theorem dX1_scanPower_87 : decode cX1_scanPower 87 = .ok (.getfield 9, 3) := by decide +kernel
theorem dX1_scanPower_90 : decode cX1_scanPower 90 = .ok (.iload 5, 2) := by decide +kernel
theorem dX1_scanPower_92 : decode cX1_scanPower 92 = .ok (.iaload, 1) := by decide +kernel
theorem dX1_scanPower_93 : decode cX1_scanPower 93 = .ok (.iadd, 1) := by decide +kernel
theorem dX1_scanPower_94 : decode cX1_scanPower 94 = .ok (.bipush 48, 2) := by decide +kernel
theorem dX1_scanPower_96 : decode cX1_scanPower 96 = .ok (.isub, 1) := by decide +kernel
theorem dX1_scanPower_97 : decode cX1_scanPower 97 = .ok (.putfield 123, 3) := by decide +kernel
theorem dX1_scanPower_100 : decode cX1_scanPower 100 = .ok (.iinc 5 1, 3) := by decide +kernel
theorem dX1_scanPower_103 : decode cX1_scanPower 103 = .ok (.goto (-32), 3) := by decide +kernel
theorem dX1_scanPower_106 : decode cX1_scanPower 106 = .ok (.iload_n 2, 1) := by decide +kernel
theorem dX1_scanPower_107 : decode cX1_scanPower 107 = .ok (.ifCond .eq 12, 3) := by decide +kernel
theorem dX1_scanPower_110 : decode cX1_scanPower 110 = .ok (.aload_n 0, 1) := by decide +kernel
theorem dX1_scanPower_111 : decode cX1_scanPower 111 = .ok (.aload_n 0, 1) := by decide +kernel
theorem dX1_scanPower_112 : decode cX1_scanPower 112 = .ok (.getfield 123, 3) := by decide +kernel
theorem dX1_scanPower_115 : decode cX1_scanPower 115 = .ok (.ineg, 1) := by decide +kernel
theorem dX1_scanPower_116 : decode cX1_scanPower 116 = .ok (.putfield 123, 3) := by decide +kernel
theorem dX1_scanPower_119 : decode cX1_scanPower 119 = .ok (.iconst 1, 1) := by decide +kernel
theorem dX1_scanPower_120 : decode cX1_scanPower 120 = .ok (.ireturn, 1) := by decide +kernel
theorem dX1_endOfDigits_0 : decode cX1_endOfDigits 0 = .ok (.iload_n 1, 1) := by decide +kernel
theorem dX1_endOfDigits_1 : decode cX1_endOfDigits 1 = .ok (.istore_n 2, 1) := by decide +kernel
theorem dX1_endOfDigits_2 : decode cX1_endOfDigits 2 = .ok (.iload_n 2, 1) := by decide +kernel
theorem dX1_endOfDigits_3 : decode cX1_endOfDigits 3 = .ok (.aload_n 0, 1) := by decide +kernel
theorem dX1_endOfDigits_4 : decode cX1_endOfDigits 4 = .ok (.getfield 29, 3) := by decide +kernel
theorem dX1_endOfDigits_7 : decode cX1_endOfDigits 7 = .ok (.if_icmp .ge 31, 3) := by decide +kernel
theorem dX1_endOfDigits_10 : decode cX1_endOfDigits 10 = .ok (.aload_n 0, 1) := by decide +kernel
theorem dX1_endOfDigits_11 : decode cX1_endOfDigits 11 = .ok (.getfield 9, 3) := by decide +kernel
theorem dX1_endOfDigits_14 : decode cX1_endOfDigits 14 = .ok (.iload_n 2, 1) := by decide +kernel
theorem dX1_endOfDigits_15 : decode cX1_endOfDigits 15 = .ok (.iaload, 1) := by decide +kernel
theorem dX1_endOfDigits_16 : decode cX1_endOfDigits 16 = .ok (.bipush 48, 2) := by decide +kernel
theorem dX1_endOfDigits_18 : decode cX1_endOfDigits 18 = .ok (.if_icmp .lt 20, 3) := by decide +kernel
theorem dX1_endOfDigits_21 : decode cX1_endOfDigits 21 = .ok (.aload_n 0, 1) := by decide +kernel
theorem dX1_endOfDigits_22 : decode cX1_endOfDigits 22 = .ok (.getfield 9, 3) := by decide +kernel
theorem dX1_endOfDigits_25 : decode cX1_endOfDigits 25 = .ok (.iload_n 2, 1) := by decide +kernel
theorem dX1_endOfDigits_26 : decode cX1_endOfDigits 26 = .ok (.iaload, 1) := by decide +kernel
theorem dX1_endOfDigits_27 : decode cX1_endOfDigits 27 = .ok (.bipush 57, 2) := by decide +kernel
theorem dX1_endOfDigits_29 : decode cX1_endOfDigits 29 = .ok (.if_icmp .gt 9, 3) := by decide +kernel
theorem dX1_endOfDigits_32 : decode cX1_endOfDigits 32 = .ok (.iinc 2 1, 3) := by decide +kernel
theorem dX1_endOfDigits_35 : decode cX1_endOfDigits 35 = .ok (.goto (-33), 3) := by decide +kernel
theorem dX1_endOfDigits_38 : decode cX1_endOfDigits 38 = .ok (.iload_n 2, 1) := by decide +kernel
theorem dX1_endOfDigits_39 : decode cX1_endOfDigits 39 = .ok (.ireturn, 1) := by decide +kernel
theorem dX1_nearestToNumeral_0 : decode cX1_nearestToNumeral 0 = .ok (.aload_n 0, 1) := by decide +kernel
theorem dX1_nearestToNumeral_1 : decode cX1_nearestToNumeral 1 = .ok (.invokevirtual 130, 3) := by decide +kernel
theorem dX1_nearestToNumeral_4 : decode cX1_nearestToNumeral 4 = .ok (.istore_n 1, 1) := by decide +kernel
theorem dX1_nearestToNumeral_5 : decode cX1_nearestToNumeral 5 = .ok (.iload_n 1, 1) := by decide +kernel
theorem dX1_nearestToNumeral_6 : decode cX1_nearestToNumeral 6 = .ok (.aload_n 0, 1) := by decide +kernel
theorem dX1_nearestToNumeral_7 : decode cX1_nearestToNumeral 7 = .ok (.getfield 117, 3) := by decide +kernel
theorem dX1_nearestToNumeral_10 : decode cX1_nearestToNumeral 10 = .ok (.if_icmp .eq 14, 3) := by decide +kernel
theorem dX1_nearestToNumeral_13 : decode cX1_nearestToNumeral 13 = .ok (.aload_n 0, 1) := by decide +kernel
theorem dX1_nearestToNumeral_14 : decode cX1_nearestToNumeral 14 = .ok (.iload_n 1, 1) := by decide +kernel
theorem dX1_nearestToNumeral_15 : decode cX1_nearestToNumeral 15 = .ok (.invokevirtual 133, 3) := by decide +kernel
theorem dX1_nearestToNumeral_18 : decode cX1_nearestToNumeral 18 = .ok (.sipush (-324), 3) := by decide +kernel
theorem dX1_nearestToNumeral_21 : decode cX1_nearestToNumeral 21 = .ok (.if_icmp .ge 5, 3) := by decide +kernel
theorem dX1_nearestToNumeral_24 : decode cX1_nearestToNumeral 24 = .ok (.lconst 0, 1) := by decide +kernel
theorem dX1_nearestToNumeral_25 : decode cX1_nearestToNumeral 25 = .ok (.lreturn, 1) := by decide +kernel
theorem dX1_nearestToNumeral_26 : decode cX1_nearestToNumeral 26 = .ok (.aload_n 0, 1) := by decide +kernel
theorem dX1_nearestToNumeral_27 : decode cX1_nearestToNumeral 27 = .ok (.iload_n 1, 1) := by decide +kernel
theorem dX1_nearestToNumeral_28 : decode cX1_nearestToNumeral 28 = .ok (.invokevirtual 133, 3) := by decide +kernel
theorem dX1_nearestToNumeral_31 : decode cX1_nearestToNumeral 31 = .ok (.sipush 308, 3) := by decide +kernel
theorem dX1_nearestToNumeral_34 : decode cX1_nearestToNumeral 34 = .ok (.if_icmp .le 7, 3) := by decide +kernel
theorem dX1_nearestToNumeral_37 : decode cX1_nearestToNumeral 37 = .ok (.ldc2_w 104, 3) := by decide +kernel
theorem dX1_nearestToNumeral_40 : decode cX1_nearestToNumeral 40 = .ok (.lreturn, 1) := by decide +kernel
theorem dX1_nearestToNumeral_41 : decode cX1_nearestToNumeral 41 = .ok (.aload_n 0, 1) := by decide +kernel
theorem dX1_nearestToNumeral_42 : decode cX1_nearestToNumeral 42 = .ok (.getfield 16, 3) := by decide +kernel
theorem dX1_nearestToNumeral_45 : decode cX1_nearestToNumeral 45 = .ok (.invokevirtual 136, 3) := by decide +kernel
theorem dX1_nearestToNumeral_48 : decode cX1_nearestToNumeral 48 = .ok (.iload_n 1, 1) := by decide +kernel
theorem dX1_nearestToNumeral_49 : decode cX1_nearestToNumeral 49 = .ok (.istore_n 2, 1) := by decide +kernel
theorem dX1_nearestToNumeral_50 : decode cX1_nearestToNumeral 50 = .ok (.iload_n 2, 1) := by decide +kernel
theorem dX1_nearestToNumeral_51 : decode cX1_nearestToNumeral 51 = .ok (.aload_n 0, 1) := by decide +kernel
theorem dX1_nearestToNumeral_52 : decode cX1_nearestToNumeral 52 = .ok (.getfield 117, 3) := by decide +kernel
theorem dX1_nearestToNumeral_55 : decode cX1_nearestToNumeral 55 = .ok (.if_icmp .ge 41, 3) := by decide +kernel
theorem dX1_nearestToNumeral_58 : decode cX1_nearestToNumeral 58 = .ok (.aload_n 0, 1) := by decide +kernel
theorem dX1_nearestToNumeral_59 : decode cX1_nearestToNumeral 59 = .ok (.getfield 9, 3) := by decide +kernel
theorem dX1_nearestToNumeral_62 : decode cX1_nearestToNumeral 62 = .ok (.iload_n 2, 1) := by decide +kernel
theorem dX1_nearestToNumeral_63 : decode cX1_nearestToNumeral 63 = .ok (.iaload, 1) := by decide +kernel
theorem dX1_nearestToNumeral_64 : decode cX1_nearestToNumeral 64 = .ok (.bipush 46, 2) := by decide +kernel
theorem dX1_nearestToNumeral_66 : decode cX1_nearestToNumeral 66 = .ok (.if_icmp .eq 24, 3) := by decide +kernel
theorem dX1_nearestToNumeral_69 : decode cX1_nearestToNumeral 69 = .ok (.aload_n 0, 1) := by decide +kernel
theorem dX1_nearestToNumeral_70 : decode cX1_nearestToNumeral 70 = .ok (.getfield 16, 3) := by decide +kernel
theorem dX1_nearestToNumeral_73 : decode cX1_nearestToNumeral 73 = .ok (.aload_n 0, 1) := by decide +kernel
theorem dX1_nearestToNumeral_74 : decode cX1_nearestToNumeral 74 = .ok (.iload_n 2, 1) := by decide +kernel
theorem dX1_nearestToNumeral_75 : decode cX1_nearestToNumeral 75 = .ok (.invokevirtual 133, 3) := by decide +kernel
theorem dX1_nearestToNumeral_78 : decode cX1_nearestToNumeral 78 = .ok (.aload_n 0, 1) := by decide +kernel
theorem dX1_nearestToNumeral_79 : decode cX1_nearestToNumeral 79 = .ok (.getfield 9, 3) := by decide +kernel
theorem dX1_nearestToNumeral_82 : decode cX1_nearestToNumeral 82 = .ok (.iload_n 2, 1) := by decide +kernel
theorem dX1_nearestToNumeral_83 : decode cX1_nearestToNumeral 83 = .ok (.iaload, 1) := by decide +kernel
theorem dX1_nearestToNumeral_84 : decode cX1_nearestToNumeral 84 = .ok (.bipush 48, 2) := by decide +kernel
theorem dX1_nearestToNumeral_86 : decode cX1_nearestToNumeral 86 = .ok (.isub, 1) := by decide +kernel
theorem dX1_nearestToNumeral_87 : decode cX1_nearestToNumeral 87 = .ok (.invokevirtual 139, 3) := by decide +kernel
theorem dX1_nearestToNumeral_90 : decode cX1_nearestToNumeral 90 = .ok (.iinc 2 1, 3) := by decide +kernel
theorem dX1_nearestToNumeral_93 : decode cX1_nearestToNumeral 93 = .ok (.goto (-43), 3) := by decide +kernel
theorem dX1_nearestToNumeral_96 : decode cX1_nearestToNumeral 96 = .ok (.aload_n 0, 1) := by decide +kernel
theorem dX1_nearestToNumeral_97 : decode cX1_nearestToNumeral 97 = .ok (.invokevirtual 142, 3) := by decide +kernel
theorem dX1_nearestToNumeral_100 : decode cX1_nearestToNumeral 100 = .ok (.lreturn, 1) := by decide +kernel
theorem dX1_leadingDigit_0 : decode cX1_leadingDigit 0 = .ok (.aload_n 0, 1) := by decide +kernel
theorem dX1_leadingDigit_1 : decode cX1_leadingDigit 1 = .ok (.getfield 110, 3) := by decide +kernel
theorem dX1_leadingDigit_4 : decode cX1_leadingDigit 4 = .ok (.istore_n 1, 1) := by decide +kernel
theorem dX1_leadingDigit_5 : decode cX1_leadingDigit 5 = .ok (.iload_n 1, 1) := by decide +kernel
theorem dX1_leadingDigit_6 : decode cX1_leadingDigit 6 = .ok (.aload_n 0, 1) := by decide +kernel
theorem dX1_leadingDigit_7 : decode cX1_leadingDigit 7 = .ok (.getfield 117, 3) := by decide +kernel
theorem dX1_leadingDigit_10 : decode cX1_leadingDigit 10 = .ok (.if_icmp .ge 31, 3) := by decide +kernel
theorem dX1_leadingDigit_13 : decode cX1_leadingDigit 13 = .ok (.aload_n 0, 1) := by decide +kernel
theorem dX1_leadingDigit_14 : decode cX1_leadingDigit 14 = .ok (.getfield 9, 3) := by decide +kernel
theorem dX1_leadingDigit_17 : decode cX1_leadingDigit 17 = .ok (.iload_n 1, 1) := by decide +kernel
theorem dX1_leadingDigit_18 : decode cX1_leadingDigit 18 = .ok (.iaload, 1) := by decide +kernel
theorem dX1_leadingDigit_19 : decode cX1_leadingDigit 19 = .ok (.bipush 48, 2) := by decide +kernel
theorem dX1_leadingDigit_21 : decode cX1_leadingDigit 21 = .ok (.if_icmp .eq 14, 3) := by decide +kernel
theorem dX1_leadingDigit_24 : decode cX1_leadingDigit 24 = .ok (.aload_n 0, 1) := by decide +kernel
theorem dX1_leadingDigit_25 : decode cX1_leadingDigit 25 = .ok (.getfield 9, 3) := by decide +kernel
theorem dX1_leadingDigit_28 : decode cX1_leadingDigit 28 = .ok (.iload_n 1, 1) := by decide +kernel
theorem dX1_leadingDigit_29 : decode cX1_leadingDigit 29 = .ok (.iaload, 1) := by decide +kernel
theorem dX1_leadingDigit_30 : decode cX1_leadingDigit 30 = .ok (.bipush 46, 2) := by decide +kernel
theorem dX1_leadingDigit_32 : decode cX1_leadingDigit 32 = .ok (.if_icmp .ne 9, 3) := by decide +kernel
theorem dX1_leadingDigit_35 : decode cX1_leadingDigit 35 = .ok (.iinc 1 1, 3) := by decide +kernel
theorem dX1_leadingDigit_38 : decode cX1_leadingDigit 38 = .ok (.goto (-33), 3) := by decide +kernel
theorem dX1_leadingDigit_41 : decode cX1_leadingDigit 41 = .ok (.iload_n 1, 1) := by decide +kernel
theorem dX1_leadingDigit_42 : decode cX1_leadingDigit 42 = .ok (.ireturn, 1) := by decide +kernel
theorem dX1_placeOf_0 : decode cX1_placeOf 0 = .ok (.iload_n 1, 1) := by decide +kernel
theorem dX1_placeOf_1 : decode cX1_placeOf 1 = .ok (.aload_n 0, 1) := by decide +kernel
theorem dX1_placeOf_2 : decode cX1_placeOf 2 = .ok (.getfield 120, 3) := by decide +kernel
theorem dX1_placeOf_5 : decode cX1_placeOf 5 = .ok (.if_icmp .le 14, 3) := by decide +kernel
theorem dX1_placeOf_8 : decode cX1_placeOf 8 = .ok (.iload_n 1, 1) := by decide +kernel
theorem dX1_placeOf_9 : decode cX1_placeOf 9 = .ok (.aload_n 0, 1) := by decide +kernel
theorem dX1_placeOf_10 : decode cX1_placeOf 10 = .ok (.getfield 120, 3) := by decide +kernel
theorem dX1_placeOf_13 : decode cX1_placeOf 13 = .ok (.isub, 1) := by decide +kernel
theorem dX1_placeOf_14 : decode cX1_placeOf 14 = .ok (.iconst 1, 1) := by decide +kernel
theorem dX1_placeOf_15 : decode cX1_placeOf 15 = .ok (.isub, 1) := by decide +kernel
theorem dX1_placeOf_16 : decode cX1_placeOf 16 = .ok (.goto 9, 3) := by decide +kernel
theorem dX1_placeOf_19 : decode cX1_placeOf 19 = .ok (.iload_n 1, 1) := by decide +kernel
theorem dX1_placeOf_20 : decode cX1_placeOf 20 = .ok (.aload_n 0, 1) := by decide +kernel
theorem dX1_placeOf_21 : decode cX1_placeOf 21 = .ok (.getfield 120, 3) := by decide +kernel
theorem dX1_placeOf_24 : decode cX1_placeOf 24 = .ok (.isub, 1) := by decide +kernel
theorem dX1_placeOf_25 : decode cX1_placeOf 25 = .ok (.istore_n 2, 1) := by decide +kernel
theorem dX1_placeOf_26 : decode cX1_placeOf 26 = .ok (.aload_n 0, 1) := by decide +kernel
theorem dX1_placeOf_27 : decode cX1_placeOf 27 = .ok (.getfield 123, 3) := by decide +kernel
theorem dX1_placeOf_30 : decode cX1_placeOf 30 = .ok (.iload_n 2, 1) := by decide +kernel
theorem dX1_placeOf_31 : decode cX1_placeOf 31 = .ok (.isub, 1) := by decide +kernel
theorem dX1_placeOf_32 : decode cX1_placeOf 32 = .ok (.ireturn, 1) := by decide +kernel
theorem dX1_nearestToNumber_0 : decode cX1_nearestToNumber 0 = .ok (.iconst 0, 1) := by decide +kernel
theorem dX1_nearestToNumber_1 : decode cX1_nearestToNumber 1 = .ok (.istore_n 1, 1) := by decide +kernel
theorem dX1_nearestToNumber_2 : decode cX1_nearestToNumber 2 = .ok (.iconst 0, 1) := by decide +kernel
theorem dX1_nearestToNumber_3 : decode cX1_nearestToNumber 3 = .ok (.istore_n 2, 1) := by decide +kernel
theorem dX1_nearestToNumber_4 : decode cX1_nearestToNumber 4 = .ok (.iload_n 2, 1) := by decide +kernel
theorem dX1_nearestToNumber_5 : decode cX1_nearestToNumber 5 = .ok (.bipush 100, 2) := by decide +kernel
theorem dX1_nearestToNumber_7 : decode cX1_nearestToNumber 7 = .ok (.if_icmp .ge 31, 3) := by decide +kernel
theorem dX1_nearestToNumber_10 : decode cX1_nearestToNumber 10 = .ok (.aload_n 0, 1) := by decide +kernel
theorem dX1_nearestToNumber_11 : decode cX1_nearestToNumber 11 = .ok (.getfield 16, 3) := by decide +kernel
theorem dX1_nearestToNumber_14 : decode cX1_nearestToNumber 14 = .ok (.invokevirtual 145, 3) := by decide +kernel
theorem dX1_nearestToNumber_17 : decode cX1_nearestToNumber 17 = .ok (.ifCond .eq 21, 3) := by decide +kernel
theorem dX1_nearestToNumber_20 : decode cX1_nearestToNumber 20 = .ok (.aload_n 0, 1) := by decide +kernel
theorem dX1_nearestToNumber_21 : decode cX1_nearestToNumber 21 = .ok (.getfield 16, 3) := by decide +kernel
theorem dX1_nearestToNumber_24 : decode cX1_nearestToNumber 24 = .ok (.bipush (-33), 2) := by decide +kernel
theorem dX1_nearestToNumber_26 : decode cX1_nearestToNumber 26 = .ok (.invokevirtual 148, 3) := by decide +kernel
theorem dX1_nearestToNumber_29 : decode cX1_nearestToNumber 29 = .ok (.iinc 1 33, 3) := by decide +kernel
theorem dX1_nearestToNumber_32 : decode cX1_nearestToNumber 32 = .ok (.iinc 2 1, 3) := by decide +kernel
theorem dX1_nearestToNumber_35 : decode cX1_nearestToNumber 35 = .ok (.goto (-31), 3) := by decide +kernel
theorem dX1_nearestToNumber_38 : decode cX1_nearestToNumber 38 = .ok (.iconst 0, 1) := by decide +kernel
theorem dX1_nearestToNumber_39 : decode cX1_nearestToNumber 39 = .ok (.istore_n 2, 1) := by decide +kernel
theorem dX1_nearestToNumber_40 : decode cX1_nearestToNumber 40 = .ok (.iload_n 2, 1) := by decide +kernel
theorem dX1_nearestToNumber_41 : decode cX1_nearestToNumber 41 = .ok (.bipush 100, 2) := by decide +kernel
theorem dX1_nearestToNumber_43 : decode cX1_nearestToNumber 43 = .ok (.if_icmp .ge 34, 3) := by decide +kernel
theorem dX1_nearestToNumber_46 : decode cX1_nearestToNumber 46 = .ok (.aload_n 0, 1) := by decide +kernel
theorem dX1_nearestToNumber_47 : decode cX1_nearestToNumber 47 = .ok (.iload_n 1, 1) := by decide +kernel
theorem dX1_nearestToNumber_48 : decode cX1_nearestToNumber 48 = .ok (.invokevirtual 151, 3) := by decide +kernel
theorem dX1_nearestToNumber_51 : decode cX1_nearestToNumber 51 = .ok (.istore_n 3, 1) := by decide +kernel
theorem dX1_nearestToNumber_52 : decode cX1_nearestToNumber 52 = .ok (.iload_n 3, 1) := by decide +kernel
theorem dX1_nearestToNumber_53 : decode cX1_nearestToNumber 53 = .ok (.ifCond .ne 6, 3) := by decide +kernel
theorem dX1_nearestToNumber_56 : decode cX1_nearestToNumber 56 = .ok (.goto 21, 3) := by decide +kernel
theorem dX1_nearestToNumber_59 : decode cX1_nearestToNumber 59 = .ok (.aload_n 0, 1) := by decide +kernel
theorem dX1_nearestToNumber_60 : decode cX1_nearestToNumber 60 = .ok (.getfield 16, 3) := by decide +kernel
theorem dX1_nearestToNumber_63 : decode cX1_nearestToNumber 63 = .ok (.iload_n 3, 1) := by decide +kernel
theorem dX1_nearestToNumber_64 : decode cX1_nearestToNumber 64 = .ok (.invokevirtual 148, 3) := by decide +kernel
theorem dX1_nearestToNumber_67 : decode cX1_nearestToNumber 67 = .ok (.iload_n 1, 1) := by decide +kernel
theorem dX1_nearestToNumber_68 : decode cX1_nearestToNumber 68 = .ok (.iload_n 3, 1) := by decide +kernel
theorem dX1_nearestToNumber_69 : decode cX1_nearestToNumber 69 = .ok (.isub, 1) := by decide +kernel
theorem dX1_nearestToNumber_70 : decode cX1_nearestToNumber 70 = .ok (.istore_n 1, 1) := by decide +kernel
theorem dX1_nearestToNumber_71 : decode cX1_nearestToNumber 71 = .ok (.iinc 2 1, 3) := by decide +kernel
theorem dX1_nearestToNumber_74 : decode cX1_nearestToNumber 74 = .ok (.goto (-34), 3) := by decide +kernel
theorem dX1_nearestToNumber_77 : decode cX1_nearestToNumber 77 = .ok (.aload_n 0, 1) := by decide +kernel
theorem dX1_nearestToNumber_78 : decode cX1_nearestToNumber 78 = .ok (.getfield 20, 3) := by decide +kernel
theorem dX1_nearestToNumber_81 : decode cX1_nearestToNumber 81 = .ok (.aload_n 0, 1) := by decide +kernel
theorem dX1_nearestToNumber_82 : decode cX1_nearestToNumber 82 = .ok (.getfield 16, 3) := by decide +kernel
theorem dX1_nearestToNumber_85 : decode cX1_nearestToNumber 85 = .ok (.iconst 0, 1) := by decide +kernel
theorem dX1_nearestToNumber_86 : decode cX1_nearestToNumber 86 = .ok (.invokevirtual 73, 3) := by decide +kernel
theorem dX1_nearestToNumber_89 : decode cX1_nearestToNumber 89 = .ok (.aload_n 0, 1) := by decide +kernel
theorem dX1_nearestToNumber_90 : decode cX1_nearestToNumber 90 = .ok (.getfield 20, 3) := by decide +kernel
theorem dX1_nearestToNumber_93 : decode cX1_nearestToNumber 93 = .ok (.invokevirtual 154, 3) := by decide +kernel
theorem dX1_nearestToNumber_96 : decode cX1_nearestToNumber 96 = .ok (.iload_n 1, 1) := by decide +kernel
theorem dX1_nearestToNumber_97 : decode cX1_nearestToNumber 97 = .ok (.invokestatic 157, 3) := by decide +kernel
theorem dX1_nearestToNumber_100 : decode cX1_nearestToNumber 100 = .ok (.lreturn, 1) := by decide +kernel
theorem dX1_bitsToScale_0 : decode cX1_bitsToScale 0 = .ok (.bipush 64, 2) := by decide +kernel
theorem dX1_bitsToScale_2 : decode cX1_bitsToScale 2 = .ok (.aload_n 0, 1) := by decide +kernel
theorem dX1_bitsToScale_3 : decode cX1_bitsToScale 3 = .ok (.getfield 16, 3) := by decide +kernel
theorem dX1_bitsToScale_6 : decode cX1_bitsToScale 6 = .ok (.invokevirtual 154, 3) := by decide +kernel
theorem dX1_bitsToScale_9 : decode cX1_bitsToScale 9 = .ok (.invokestatic 161, 3) := by decide +kernel
theorem dX1_bitsToScale_12 : decode cX1_bitsToScale 12 = .ok (.isub, 1) := by decide +kernel
theorem dX1_bitsToScale_13 : decode cX1_bitsToScale 13 = .ok (.istore_n 2, 1) := by decide +kernel
theorem dX1_bitsToScale_14 : decode cX1_bitsToScale 14 = .ok (.bipush 53, 2) := by decide +kernel
theorem dX1_bitsToScale_16 : decode cX1_bitsToScale 16 = .ok (.iload_n 2, 1) := by decide +kernel
theorem dX1_bitsToScale_17 : decode cX1_bitsToScale 17 = .ok (.isub, 1) := by decide +kernel
theorem dX1_bitsToScale_18 : decode cX1_bitsToScale 18 = .ok (.bipush 33, 2) := by decide +kernel
theorem dX1_bitsToScale_20 : decode cX1_bitsToScale 20 = .ok (.invokestatic 166, 3) := by decide +kernel
theorem dX1_bitsToScale_23 : decode cX1_bitsToScale 23 = .ok (.istore_n 3, 1) := by decide +kernel
theorem dX1_bitsToScale_24 : decode cX1_bitsToScale 24 = .ok (.iload_n 3, 1) := by decide +kernel
theorem dX1_bitsToScale_25 : decode cX1_bitsToScale 25 = .ok (.iload_n 1, 1) := by decide +kernel
theorem dX1_bitsToScale_26 : decode cX1_bitsToScale 26 = .ok (.sipush (-1074), 3) := by decide +kernel
theorem dX1_bitsToScale_29 : decode cX1_bitsToScale 29 = .ok (.isub, 1) := by decide +kernel
theorem dX1_bitsToScale_30 : decode cX1_bitsToScale 30 = .ok (.invokestatic 166, 3) := by decide +kernel
theorem dX1_bitsToScale_33 : decode cX1_bitsToScale 33 = .ok (.ireturn, 1) := by decide +kernel
theorem dX1_joined_0 : decode cX1_joined 0 = .ok (.iload_n 2, 1) := by decide +kernel
theorem dX1_joined_1 : decode cX1_joined 1 = .ok (.sipush 971, 3) := by decide +kernel
theorem dX1_joined_4 : decode cX1_joined 4 = .ok (.if_icmp .le 7, 3) := by decide +kernel
theorem dX1_joined_7 : decode cX1_joined 7 = .ok (.ldc2_w 104, 3) := by decide +kernel
theorem dX1_joined_10 : decode cX1_joined 10 = .ok (.lreturn, 1) := by decide +kernel
theorem dX1_joined_11 : decode cX1_joined 11 = .ok (.iload_n 2, 1) := by decide +kernel
theorem dX1_joined_12 : decode cX1_joined 12 = .ok (.sipush (-1074), 3) := by decide +kernel
theorem dX1_joined_15 : decode cX1_joined 15 = .ok (.isub, 1) := by decide +kernel
theorem dX1_joined_16 : decode cX1_joined 16 = .ok (.i2l, 1) := by decide +kernel
theorem dX1_joined_17 : decode cX1_joined 17 = .ok (.bipush 52, 2) := by decide +kernel
theorem dX1_joined_19 : decode cX1_joined 19 = .ok (.lshl, 1) := by decide +kernel
theorem dX1_joined_20 : decode cX1_joined 20 = .ok (.lload_n 0, 1) := by decide +kernel
theorem dX1_joined_21 : decode cX1_joined 21 = .ok (.ladd, 1) := by decide +kernel
theorem dX1_joined_22 : decode cX1_joined 22 = .ok (.lreturn, 1) := by decide +kernel
theorem dX1_putShortest_0 : decode cX1_putShortest 0 = .ok (.aload_n 0, 1) := by decide +kernel
theorem dX1_putShortest_1 : decode cX1_putShortest 1 = .ok (.getfield 16, 3) := by decide +kernel
theorem dX1_putShortest_4 : decode cX1_putShortest 4 = .ok (.lload_n 1, 1) := by decide +kernel
theorem dX1_putShortest_5 : decode cX1_putShortest 5 = .ok (.iload_n 3, 1) := by decide +kernel
theorem dX1_putShortest_6 : decode cX1_putShortest 6 = .ok (.invokevirtual 69, 3) := by decide +kernel
theorem dX1_putShortest_9 : decode cX1_putShortest 9 = .ok (.aload_n 0, 1) := by decide +kernel
theorem dX1_putShortest_10 : decode cX1_putShortest 10 = .ok (.lload_n 1, 1) := by decide +kernel
theorem dX1_putShortest_11 : decode cX1_putShortest 11 = .ok (.iload_n 3, 1) := by decide +kernel
theorem dX1_putShortest_12 : decode cX1_putShortest 12 = .ok (.invokevirtual 169, 3) := by decide +kernel
theorem dX1_putShortest_15 : decode cX1_putShortest 15 = .ok (.aload_n 0, 1) := by decide +kernel
theorem dX1_putShortest_16 : decode cX1_putShortest 16 = .ok (.lload_n 1, 1) := by decide +kernel
theorem dX1_putShortest_17 : decode cX1_putShortest 17 = .ok (.ldc2_w 172, 3) := by decide +kernel
theorem dX1_putShortest_20 : decode cX1_putShortest 20 = .ok (.lrem, 1) := by decide +kernel
theorem dX1_putShortest_21 : decode cX1_putShortest 21 = .ok (.lconst 0, 1) := by decide +kernel
theorem dX1_putShortest_22 : decode cX1_putShortest 22 = .ok (.lcmp, 1) := by decide +kernel
theorem dX1_putShortest_23 : decode cX1_putShortest 23 = .ok (.ifCond .ne 7, 3) := by decide +kernel
theorem dX1_putShortest_26 : decode cX1_putShortest 26 = .ok (.iconst 1, 1) := by decide +kernel
theorem dX1_putShortest_27 : decode cX1_putShortest 27 = .ok (.goto 4, 3) := by decide +kernel
theorem dX1_putShortest_30 : decode cX1_putShortest 30 = .ok (.iconst 0, 1) := by decide +kernel
theorem dX1_putShortest_31 : decode cX1_putShortest 31 = .ok (.invokevirtual 174, 3) := by decide +kernel
theorem dX1_putShortest_34 : decode cX1_putShortest 34 = .ok (.istore 4, 2) := by decide +kernel
theorem dX1_putShortest_36 : decode cX1_putShortest 36 = .ok (.aload_n 0, 1) := by decide +kernel
theorem dX1_putShortest_37 : decode cX1_putShortest 37 = .ok (.getfield 20, 3) := by decide +kernel
theorem dX1_putShortest_40 : decode cX1_putShortest 40 = .ok (.invokevirtual 81, 3) := by decide +kernel
theorem dX1_putShortest_43 : decode cX1_putShortest 43 = .ok (.istore 5, 2) := by decide +kernel
theorem dX1_putShortest_45 : decode cX1_putShortest 45 = .ok (.aload_n 0, 1) := by decide +kernel
theorem dX1_putShortest_46 : decode cX1_putShortest 46 = .ok (.iload 5, 2) := by decide +kernel
theorem dX1_putShortest_48 : decode cX1_putShortest 48 = .ok (.iload 5, 2) := by decide +kernel
theorem dX1_putShortest_50 : decode cX1_putShortest 50 = .ok (.invokevirtual 91, 3) := by decide +kernel
theorem dX1_putShortest_53 : decode cX1_putShortest 53 = .ok (.iload 4, 2) := by decide +kernel
theorem dX1_putShortest_55 : decode cX1_putShortest 55 = .ok (.iconst 1, 1) := by decide +kernel
theorem dX1_putShortest_56 : decode cX1_putShortest 56 = .ok (.if_icmp .le 24, 3) := by decide +kernel
theorem dX1_putShortest_59 : decode cX1_putShortest 59 = .ok (.aload_n 0, 1) := by decide +kernel
theorem dX1_putShortest_60 : decode cX1_putShortest 60 = .ok (.bipush 46, 2) := by decide +kernel
theorem dX1_putShortest_62 : decode cX1_putShortest 62 = .ok (.invokevirtual 39, 3) := by decide +kernel
theorem dX1_putShortest_65 : decode cX1_putShortest 65 = .ok (.aload_n 0, 1) := by decide +kernel
theorem dX1_putShortest_66 : decode cX1_putShortest 66 = .ok (.iload 5, 2) := by decide +kernel
theorem dX1_putShortest_68 : decode cX1_putShortest 68 = .ok (.iconst 1, 1) := by decide +kernel
theorem dX1_putShortest_69 : decode cX1_putShortest 69 = .ok (.isub, 1) := by decide +kernel
theorem dX1_putShortest_70 : decode cX1_putShortest 70 = .ok (.iload 5, 2) := by decide +kernel
theorem dX1_putShortest_72 : decode cX1_putShortest 72 = .ok (.iload 4, 2) := by decide +kernel
theorem dX1_putShortest_74 : decode cX1_putShortest 74 = .ok (.isub, 1) := by decide +kernel
theorem dX1_putShortest_75 : decode cX1_putShortest 75 = .ok (.iconst 1, 1) := by decide +kernel
theorem dX1_putShortest_76 : decode cX1_putShortest 76 = .ok (.iadd, 1) := by decide +kernel
theorem dX1_putShortest_77 : decode cX1_putShortest 77 = .ok (.invokevirtual 91, 3) := by decide +kernel
theorem dX1_putShortest_80 : decode cX1_putShortest 80 = .ok (.aload_n 0, 1) := by decide +kernel
theorem dX1_putShortest_81 : decode cX1_putShortest 81 = .ok (.iload 5, 2) := by decide +kernel
theorem dX1_putShortest_83 : decode cX1_putShortest 83 = .ok (.invokevirtual 95, 3) := by decide +kernel
theorem dX1_putShortest_86 : decode cX1_putShortest 86 = .ok (.return_, 1) := by decide +kernel
theorem dX1_takeEdges_0 : decode cX1_takeEdges 0 = .ok (.lload_n 1, 1) := by decide +kernel
theorem dX1_takeEdges_1 : decode cX1_takeEdges 1 = .ok (.ldc2_w 108, 3) := by decide +kernel
theorem dX1_takeEdges_4 : decode cX1_takeEdges 4 = .ok (.lcmp, 1) := by decide +kernel
theorem dX1_takeEdges_5 : decode cX1_takeEdges 5 = .ok (.ifCond .ne 14, 3) := by decide +kernel
theorem dX1_takeEdges_8 : decode cX1_takeEdges 8 = .ok (.iload_n 3, 1) := by decide +kernel
theorem dX1_takeEdges_9 : decode cX1_takeEdges 9 = .ok (.sipush (-1074), 3) := by decide +kernel
theorem dX1_takeEdges_12 : decode cX1_takeEdges 12 = .ok (.if_icmp .le 7, 3) := by decide +kernel
theorem dX1_takeEdges_15 : decode cX1_takeEdges 15 = .ok (.iconst 1, 1) := by decide +kernel
theorem dX1_takeEdges_16 : decode cX1_takeEdges 16 = .ok (.goto 4, 3) := by decide +kernel
theorem dX1_takeEdges_19 : decode cX1_takeEdges 19 = .ok (.iconst 0, 1) := by decide +kernel
theorem dX1_takeEdges_20 : decode cX1_takeEdges 20 = .ok (.istore 4, 2) := by decide +kernel
theorem dX1_takeEdges_22 : decode cX1_takeEdges 22 = .ok (.ldc2_w 178, 3) := by decide +kernel
theorem dX1_takeEdges_25 : decode cX1_takeEdges 25 = .ok (.lload_n 1, 1) := by decide +kernel
theorem dX1_takeEdges_26 : decode cX1_takeEdges 26 = .ok (.lmul, 1) := by decide +kernel
theorem dX1_takeEdges_27 : decode cX1_takeEdges 27 = .ok (.lstore 5, 2) := by decide +kernel
theorem dX1_takeEdges_29 : decode cX1_takeEdges 29 = .ok (.aload_n 0, 1) := by decide +kernel
theorem dX1_takeEdges_30 : decode cX1_takeEdges 30 = .ok (.getfield 23, 3) := by decide +kernel
theorem dX1_takeEdges_33 : decode cX1_takeEdges 33 = .ok (.lload 5, 2) := by decide +kernel
theorem dX1_takeEdges_35 : decode cX1_takeEdges 35 = .ok (.iload 4, 2) := by decide +kernel
theorem dX1_takeEdges_37 : decode cX1_takeEdges 37 = .ok (.ifCond .eq 7, 3) := by decide +kernel
theorem dX1_takeEdges_40 : decode cX1_takeEdges 40 = .ok (.iconst 1, 1) := by decide +kernel
theorem dX1_takeEdges_41 : decode cX1_takeEdges 41 = .ok (.goto 4, 3) := by decide +kernel
theorem dX1_takeEdges_44 : decode cX1_takeEdges 44 = .ok (.iconst 2, 1) := by decide +kernel
theorem dX1_takeEdges_45 : decode cX1_takeEdges 45 = .ok (.i2l, 1) := by decide +kernel
theorem dX1_takeEdges_46 : decode cX1_takeEdges 46 = .ok (.lsub, 1) := by decide +kernel
theorem dX1_takeEdges_47 : decode cX1_takeEdges 47 = .ok (.iload_n 3, 1) := by decide +kernel
theorem dX1_takeEdges_48 : decode cX1_takeEdges 48 = .ok (.iconst 2, 1) := by decide +kernel
theorem dX1_takeEdges_49 : decode cX1_takeEdges 49 = .ok (.isub, 1) := by decide +kernel
theorem dX1_takeEdges_50 : decode cX1_takeEdges 50 = .ok (.invokevirtual 69, 3) := by decide +kernel
theorem dX1_takeEdges_53 : decode cX1_takeEdges 53 = .ok (.aload_n 0, 1) := by decide +kernel
theorem dX1_takeEdges_54 : decode cX1_takeEdges 54 = .ok (.getfield 26, 3) := by decide +kernel
theorem dX1_takeEdges_57 : decode cX1_takeEdges 57 = .ok (.lload 5, 2) := by decide +kernel
theorem dX1_takeEdges_59 : decode cX1_takeEdges 59 = .ok (.ldc2_w 172, 3) := by decide +kernel
theorem dX1_takeEdges_62 : decode cX1_takeEdges 62 = .ok (.ladd, 1) := by decide +kernel
theorem dX1_takeEdges_63 : decode cX1_takeEdges 63 = .ok (.iload_n 3, 1) := by decide +kernel
theorem dX1_takeEdges_64 : decode cX1_takeEdges 64 = .ok (.iconst 2, 1) := by decide +kernel
theorem dX1_takeEdges_65 : decode cX1_takeEdges 65 = .ok (.isub, 1) := by decide +kernel
theorem dX1_takeEdges_66 : decode cX1_takeEdges 66 = .ok (.invokevirtual 69, 3) := by decide +kernel
theorem dX1_takeEdges_69 : decode cX1_takeEdges 69 = .ok (.return_, 1) := by decide +kernel
theorem dX1_roundToFewest_0 : decode cX1_roundToFewest 0 = .ok (.aload_n 0, 1) := by decide +kernel
theorem dX1_roundToFewest_1 : decode cX1_roundToFewest 1 = .ok (.getfield 16, 3) := by decide +kernel
theorem dX1_roundToFewest_4 : decode cX1_roundToFewest 4 = .ok (.invokevirtual 81, 3) := by decide +kernel
theorem dX1_roundToFewest_7 : decode cX1_roundToFewest 7 = .ok (.istore_n 2, 1) := by decide +kernel
theorem dX1_roundToFewest_8 : decode cX1_roundToFewest 8 = .ok (.iconst 1, 1) := by decide +kernel
theorem dX1_roundToFewest_9 : decode cX1_roundToFewest 9 = .ok (.istore_n 3, 1) := by decide +kernel
theorem dX1_roundToFewest_10 : decode cX1_roundToFewest 10 = .ok (.iload_n 3, 1) := by decide +kernel
theorem dX1_roundToFewest_11 : decode cX1_roundToFewest 11 = .ok (.bipush 17, 2) := by decide +kernel
theorem dX1_roundToFewest_13 : decode cX1_roundToFewest 13 = .ok (.if_icmp .ge 35, 3) := by decide +kernel
theorem dX1_roundToFewest_16 : decode cX1_roundToFewest 16 = .ok (.aload_n 0, 1) := by decide +kernel
theorem dX1_roundToFewest_17 : decode cX1_roundToFewest 17 = .ok (.getfield 20, 3) := by decide +kernel
theorem dX1_roundToFewest_20 : decode cX1_roundToFewest 20 = .ok (.aload_n 0, 1) := by decide +kernel
theorem dX1_roundToFewest_21 : decode cX1_roundToFewest 21 = .ok (.getfield 16, 3) := by decide +kernel
theorem dX1_roundToFewest_24 : decode cX1_roundToFewest 24 = .ok (.iload_n 2, 1) := by decide +kernel
theorem dX1_roundToFewest_25 : decode cX1_roundToFewest 25 = .ok (.iload_n 3, 1) := by decide +kernel
theorem dX1_roundToFewest_26 : decode cX1_roundToFewest 26 = .ok (.isub, 1) := by decide +kernel
theorem dX1_roundToFewest_27 : decode cX1_roundToFewest 27 = .ok (.iconst 1, 1) := by decide +kernel
theorem dX1_roundToFewest_28 : decode cX1_roundToFewest 28 = .ok (.iadd, 1) := by decide +kernel
theorem dX1_roundToFewest_29 : decode cX1_roundToFewest 29 = .ok (.invokevirtual 73, 3) := by decide +kernel
theorem dX1_roundToFewest_32 : decode cX1_roundToFewest 32 = .ok (.aload_n 0, 1) := by decide +kernel
theorem dX1_roundToFewest_33 : decode cX1_roundToFewest 33 = .ok (.iload_n 1, 1) := by decide +kernel
theorem dX1_roundToFewest_34 : decode cX1_roundToFewest 34 = .ok (.invokevirtual 180, 3) := by decide +kernel
theorem dX1_roundToFewest_37 : decode cX1_roundToFewest 37 = .ok (.ifCond .eq 5, 3) := by decide +kernel
theorem dX1_roundToFewest_40 : decode cX1_roundToFewest 40 = .ok (.iload_n 3, 1) := by decide +kernel
theorem dX1_roundToFewest_41 : decode cX1_roundToFewest 41 = .ok (.ireturn, 1) := by decide +kernel
theorem dX1_roundToFewest_42 : decode cX1_roundToFewest 42 = .ok (.iinc 3 1, 3) := by decide +kernel
theorem dX1_roundToFewest_45 : decode cX1_roundToFewest 45 = .ok (.goto (-35), 3) := by decide +kernel
theorem dX1_roundToFewest_48 : decode cX1_roundToFewest 48 = .ok (.aload_n 0, 1) := by decide +kernel
theorem dX1_roundToFewest_49 : decode cX1_roundToFewest 49 = .ok (.getfield 20, 3) := by decide +kernel
theorem dX1_roundToFewest_52 : decode cX1_roundToFewest 52 = .ok (.aload_n 0, 1) := by decide +kernel
theorem dX1_roundToFewest_53 : decode cX1_roundToFewest 53 = .ok (.getfield 16, 3) := by decide +kernel
theorem dX1_roundToFewest_56 : decode cX1_roundToFewest 56 = .ok (.iload_n 2, 1) := by decide +kernel
theorem dX1_roundToFewest_57 : decode cX1_roundToFewest 57 = .ok (.bipush 17, 2) := by decide +kernel
theorem dX1_roundToFewest_59 : decode cX1_roundToFewest 59 = .ok (.isub, 1) := by decide +kernel
theorem dX1_roundToFewest_60 : decode cX1_roundToFewest 60 = .ok (.iconst 1, 1) := by decide +kernel
theorem dX1_roundToFewest_61 : decode cX1_roundToFewest 61 = .ok (.iadd, 1) := by decide +kernel
theorem dX1_roundToFewest_62 : decode cX1_roundToFewest 62 = .ok (.invokevirtual 73, 3) := by decide +kernel
theorem dX1_roundToFewest_65 : decode cX1_roundToFewest 65 = .ok (.bipush 17, 2) := by decide +kernel
theorem dX1_roundToFewest_67 : decode cX1_roundToFewest 67 = .ok (.ireturn, 1) := by decide +kernel
theorem dX1_isBetweenEdges_0 : decode cX1_isBetweenEdges 0 = .ok (.aload_n 0, 1) := by decide +kernel
theorem dX1_isBetweenEdges_1 : decode cX1_isBetweenEdges 1 = .ok (.getfield 20, 3) := by decide +kernel
theorem dX1_isBetweenEdges_4 : decode cX1_isBetweenEdges 4 = .ok (.aload_n 0, 1) := by decide +kernel
theorem dX1_isBetweenEdges_5 : decode cX1_isBetweenEdges 5 = .ok (.getfield 23, 3) := by decide +kernel
theorem dX1_isBetweenEdges_8 : decode cX1_isBetweenEdges 8 = .ok (.invokevirtual 184, 3) := by decide +kernel
theorem dX1_isBetweenEdges_11 : decode cX1_isBetweenEdges 11 = .ok (.istore_n 2, 1) := by decide +kernel
theorem dX1_isBetweenEdges_12 : decode cX1_isBetweenEdges 12 = .ok (.aload_n 0, 1) := by decide +kernel
theorem dX1_isBetweenEdges_13 : decode cX1_isBetweenEdges 13 = .ok (.getfield 26, 3) := by decide +kernel
theorem dX1_isBetweenEdges_16 : decode cX1_isBetweenEdges 16 = .ok (.aload_n 0, 1) := by decide +kernel
theorem dX1_isBetweenEdges_17 : decode cX1_isBetweenEdges 17 = .ok (.getfield 20, 3) := by decide +kernel
theorem dX1_isBetweenEdges_20 : decode cX1_isBetweenEdges 20 = .ok (.invokevirtual 184, 3) := by decide +kernel
theorem dX1_isBetweenEdges_23 : decode cX1_isBetweenEdges 23 = .ok (.istore_n 3, 1) := by decide +kernel
theorem dX1_isBetweenEdges_24 : decode cX1_isBetweenEdges 24 = .ok (.iload_n 1, 1) := by decide +kernel
theorem dX1_isBetweenEdges_25 : decode cX1_isBetweenEdges 25 = .ok (.ifCond .eq 17, 3) := by decide +kernel
theorem dX1_isBetweenEdges_28 : decode cX1_isBetweenEdges 28 = .ok (.iload_n 2, 1) := by decide +kernel
theorem dX1_isBetweenEdges_29 : decode cX1_isBetweenEdges 29 = .ok (.ifCond .lt 11, 3) := by decide +kernel
theorem dX1_isBetweenEdges_32 : decode cX1_isBetweenEdges 32 = .ok (.iload_n 3, 1) := by decide +kernel
theorem dX1_isBetweenEdges_33 : decode cX1_isBetweenEdges 33 = .ok (.ifCond .lt 7, 3) := by decide +kernel
theorem dX1_isBetweenEdges_36 : decode cX1_isBetweenEdges 36 = .ok (.iconst 1, 1) := by decide +kernel
theorem dX1_isBetweenEdges_37 : decode cX1_isBetweenEdges 37 = .ok (.goto 4, 3) := by decide +kernel
theorem dX1_isBetweenEdges_40 : decode cX1_isBetweenEdges 40 = .ok (.iconst 0, 1) := by decide +kernel
theorem dX1_isBetweenEdges_41 : decode cX1_isBetweenEdges 41 = .ok (.ireturn, 1) := by decide +kernel
theorem dX1_isBetweenEdges_42 : decode cX1_isBetweenEdges 42 = .ok (.iload_n 2, 1) := by decide +kernel
theorem dX1_isBetweenEdges_43 : decode cX1_isBetweenEdges 43 = .ok (.ifCond .le 11, 3) := by decide +kernel
theorem dX1_isBetweenEdges_46 : decode cX1_isBetweenEdges 46 = .ok (.iload_n 3, 1) := by decide +kernel
theorem dX1_isBetweenEdges_47 : decode cX1_isBetweenEdges 47 = .ok (.ifCond .le 7, 3) := by decide +kernel
theorem dX1_isBetweenEdges_50 : decode cX1_isBetweenEdges 50 = .ok (.iconst 1, 1) := by decide +kernel
theorem dX1_isBetweenEdges_51 : decode cX1_isBetweenEdges 51 = .ok (.goto 4, 3) := by decide +kernel
theorem dX1_isBetweenEdges_54 : decode cX1_isBetweenEdges 54 = .ok (.iconst 0, 1) := by decide +kernel
theorem dX1_isBetweenEdges_55 : decode cX1_isBetweenEdges 55 = .ok (.ireturn, 1) := by decide +kernel
theorem dX1_startText_0 : decode cX1_startText 0 = .ok (.aload_n 0, 1) := by decide +kernel
theorem dX1_startText_1 : decode cX1_startText 1 = .ok (.iconst 0, 1) := by decide +kernel
theorem dX1_startText_2 : decode cX1_startText 2 = .ok (.putfield 29, 3) := by decide +kernel
theorem dX1_startText_5 : decode cX1_startText 5 = .ok (.lload_n 1, 1) := by decide +kernel
theorem dX1_startText_6 : decode cX1_startText 6 = .ok (.lconst 0, 1) := by decide +kernel
theorem dX1_startText_7 : decode cX1_startText 7 = .ok (.lcmp, 1) := by decide +kernel
theorem dX1_startText_8 : decode cX1_startText 8 = .ok (.ifCond .ge 9, 3) := by decide +kernel
theorem dX1_startText_11 : decode cX1_startText 11 = .ok (.aload_n 0, 1) := by decide +kernel
theorem dX1_startText_12 : decode cX1_startText 12 = .ok (.bipush 45, 2) := by decide +kernel
theorem dX1_startText_14 : decode cX1_startText 14 = .ok (.invokevirtual 39, 3) := by decide +kernel
theorem dX1_startText_17 : decode cX1_startText 17 = .ok (.return_, 1) := by decide +kernel
theorem dX1_put_0 : decode cX1_put 0 = .ok (.aload_n 0, 1) := by decide +kernel
theorem dX1_put_1 : decode cX1_put 1 = .ok (.getfield 29, 3) := by decide +kernel
theorem dX1_put_4 : decode cX1_put 4 = .ok (.sipush 400, 3) := by decide +kernel
theorem dX1_put_7 : decode cX1_put 7 = .ok (.if_icmp .ge 23, 3) := by decide +kernel
theorem dX1_put_10 : decode cX1_put 10 = .ok (.aload_n 0, 1) := by decide +kernel
theorem dX1_put_11 : decode cX1_put 11 = .ok (.getfield 9, 3) := by decide +kernel
theorem dX1_put_14 : decode cX1_put 14 = .ok (.aload_n 0, 1) := by decide +kernel
theorem dX1_put_15 : decode cX1_put 15 = .ok (.getfield 29, 3) := by decide +kernel
theorem dX1_put_18 : decode cX1_put 18 = .ok (.iload_n 1, 1) := by decide +kernel
theorem dX1_put_19 : decode cX1_put 19 = .ok (.iastore, 1) := by decide +kernel
theorem dX1_put_20 : decode cX1_put 20 = .ok (.aload_n 0, 1) := by decide +kernel
theorem dX1_put_21 : decode cX1_put 21 = .ok (.dup, 1) := by decide +kernel
theorem dX1_put_22 : decode cX1_put 22 = .ok (.getfield 29, 3) := by decide +kernel
theorem dX1_put_25 : decode cX1_put 25 = .ok (.iconst 1, 1) := by decide +kernel
theorem dX1_put_26 : decode cX1_put 26 = .ok (.iadd, 1) := by decide +kernel
theorem dX1_put_27 : decode cX1_put 27 = .ok (.putfield 29, 3) := by decide +kernel
theorem dX1_put_30 : decode cX1_put 30 = .ok (.return_, 1) := by decide +kernel
theorem dX1_putDigits_0 : decode cX1_putDigits 0 = .ok (.iload_n 1, 1) := by decide +kernel
theorem dX1_putDigits_1 : decode cX1_putDigits 1 = .ok (.istore_n 3, 1) := by decide +kernel
theorem dX1_putDigits_2 : decode cX1_putDigits 2 = .ok (.iload_n 3, 1) := by decide +kernel
theorem dX1_putDigits_3 : decode cX1_putDigits 3 = .ok (.iload_n 2, 1) := by decide +kernel
theorem dX1_putDigits_4 : decode cX1_putDigits 4 = .ok (.if_icmp .lt 24, 3) := by decide +kernel
theorem dX1_putDigits_7 : decode cX1_putDigits 7 = .ok (.aload_n 0, 1) := by decide +kernel
theorem dX1_putDigits_8 : decode cX1_putDigits 8 = .ok (.bipush 48, 2) := by decide +kernel
theorem dX1_putDigits_10 : decode cX1_putDigits 10 = .ok (.aload_n 0, 1) := by decide +kernel
theorem dX1_putDigits_11 : decode cX1_putDigits 11 = .ok (.getfield 20, 3) := by decide +kernel
theorem dX1_putDigits_14 : decode cX1_putDigits 14 = .ok (.iload_n 3, 1) := by decide +kernel
theorem dX1_putDigits_15 : decode cX1_putDigits 15 = .ok (.invokevirtual 188, 3) := by decide +kernel
theorem dX1_putDigits_18 : decode cX1_putDigits 18 = .ok (.iadd, 1) := by decide +kernel
theorem dX1_putDigits_19 : decode cX1_putDigits 19 = .ok (.invokevirtual 39, 3) := by decide +kernel
theorem dX1_putDigits_22 : decode cX1_putDigits 22 = .ok (.iinc 3 (-1), 3) := by decide +kernel
theorem dX1_putDigits_25 : decode cX1_putDigits 25 = .ok (.goto (-23), 3) := by decide +kernel
theorem dX1_putDigits_28 : decode cX1_putDigits 28 = .ok (.return_, 1) := by decide +kernel
theorem dX1_putPower_0 : decode cX1_putPower 0 = .ok (.aload_n 0, 1) := by decide +kernel
theorem dX1_putPower_1 : decode cX1_putPower 1 = .ok (.bipush 101, 2) := by decide +kernel
theorem dX1_putPower_3 : decode cX1_putPower 3 = .ok (.invokevirtual 39, 3) := by decide +kernel
theorem dX1_putPower_6 : decode cX1_putPower 6 = .ok (.iload_n 1, 1) := by decide +kernel
theorem dX1_putPower_7 : decode cX1_putPower 7 = .ok (.ifCond .ge 9, 3) := by decide +kernel
theorem dX1_putPower_10 : decode cX1_putPower 10 = .ok (.aload_n 0, 1) := by decide +kernel
theorem dX1_putPower_11 : decode cX1_putPower 11 = .ok (.bipush 45, 2) := by decide +kernel
theorem dX1_putPower_13 : decode cX1_putPower 13 = .ok (.invokevirtual 39, 3) := by decide +kernel
theorem dX1_putPower_16 : decode cX1_putPower 16 = .ok (.iload_n 1, 1) := by decide +kernel
theorem dX1_putPower_17 : decode cX1_putPower 17 = .ok (.invokestatic 191, 3) := by decide +kernel
theorem dX1_putPower_20 : decode cX1_putPower 20 = .ok (.istore_n 2, 1) := by decide +kernel
theorem dX1_putPower_21 : decode cX1_putPower 21 = .ok (.iload_n 2, 1) := by decide +kernel
theorem dX1_putPower_22 : decode cX1_putPower 22 = .ok (.bipush 100, 2) := by decide +kernel
theorem dX1_putPower_24 : decode cX1_putPower 24 = .ok (.if_icmp .lt 14, 3) := by decide +kernel
theorem dX1_putPower_27 : decode cX1_putPower 27 = .ok (.aload_n 0, 1) := by decide +kernel
theorem dX1_putPower_28 : decode cX1_putPower 28 = .ok (.bipush 48, 2) := by decide +kernel
theorem dX1_putPower_30 : decode cX1_putPower 30 = .ok (.iload_n 2, 1) := by decide +kernel
theorem dX1_putPower_31 : decode cX1_putPower 31 = .ok (.bipush 100, 2) := by decide +kernel
theorem dX1_putPower_33 : decode cX1_putPower 33 = .ok (.idiv, 1) := by decide +kernel
theorem dX1_putPower_34 : decode cX1_putPower 34 = .ok (.iadd, 1) := by decide +kernel
theorem dX1_putPower_35 : decode cX1_putPower 35 = .ok (.invokevirtual 39, 3) := by decide +kernel
theorem dX1_putPower_38 : decode cX1_putPower 38 = .ok (.iload_n 2, 1) := by decide +kernel
theorem dX1_putPower_39 : decode cX1_putPower 39 = .ok (.bipush 10, 2) := by decide +kernel
theorem dX1_putPower_41 : decode cX1_putPower 41 = .ok (.if_icmp .lt 17, 3) := by decide +kernel
theorem dX1_putPower_44 : decode cX1_putPower 44 = .ok (.aload_n 0, 1) := by decide +kernel
end
section
theorem dX1_putPower_45 : decode cX1_putPower 45 = .ok (.bipush 48, 2) := by decide +kernel
theorem dX1_putPower_47 : decode cX1_putPower 47 = .ok (.iload_n 2, 1) := by decide +kernel
theorem dX1_putPower_48 : decode cX1_putPower 48 = .ok (.bipush 10, 2) := by decide +kernel
theorem dX1_putPower_50 : decode cX1_putPower 50 = .ok (.idiv, 1) := by decide +kernel
theorem dX1_putPower_51 : decode cX1_putPower 51 = .ok (.bipush 10, 2) := by decide +kernel
theorem dX1_putPower_53 : decode cX1_putPower 53 = .ok (.irem, 1) := by decide +kernel
theorem dX1_putPower_54 : decode cX1_putPower 54 = .ok (.iadd, 1) := by decide +kernel
theorem dX1_putPower_55 : decode cX1_putPower 55 = .ok (.invokevirtual 39, 3) := by decide +kernel
theorem dX1_putPower_58 : decode cX1_putPower 58 = .ok (.aload_n 0, 1) := by decide +kernel
theorem dX1_putPower_59 : decode cX1_putPower 59 = .ok (.bipush 48, 2) := by decide +kernel
theorem dX1_putPower_61 : decode cX1_putPower 61 = .ok (.iload_n 2, 1) := by decide +kernel
theorem dX1_putPower_62 : decode cX1_putPower 62 = .ok (.bipush 10, 2) := by decide +kernel
theorem dX1_putPower_64 : decode cX1_putPower 64 = .ok (.irem, 1) := by decide +kernel
theorem dX1_putPower_65 : decode cX1_putPower 65 = .ok (.iadd, 1) := by decide +kernel
theorem dX1_putPower_66 : decode cX1_putPower 66 = .ok (.invokevirtual 39, 3) := by decide +kernel
theorem dX1_putPower_69 : decode cX1_putPower 69 = .ok (.return_, 1) := by decide +kernel
theorem dX2_init_0 : decode cX2_init 0 = .ok (.aload_n 0, 1) := by decide +kernel
theorem dX2_init_1 : decode cX2_init 1 = .ok (.invokespecial 1, 3) := by decide +kernel
theorem dX2_init_4 : decode cX2_init 4 = .ok (.aload_n 0, 1) := by decide +kernel
theorem dX2_init_5 : decode cX2_init 5 = .ok (.sipush 400, 3) := by decide +kernel
theorem dX2_init_8 : decode cX2_init 8 = .ok (.newarray .int, 2) := by decide +kernel
theorem dX2_init_10 : decode cX2_init 10 = .ok (.putfield 7, 3) := by decide +kernel
theorem dX2_init_13 : decode cX2_init 13 = .ok (.aload_n 0, 1) := by decide +kernel
theorem dX2_init_14 : decode cX2_init 14 = .ok (.sipush 7000, 3) := by decide +kernel
theorem dX2_init_17 : decode cX2_init 17 = .ok (.newarray .int, 2) := by decide +kernel
theorem dX2_init_19 : decode cX2_init 19 = .ok (.putfield 13, 3) := by decide +kernel
theorem dX2_init_22 : decode cX2_init 22 = .ok (.aload_n 0, 1) := by decide +kernel
theorem dX2_init_23 : decode cX2_init 23 = .ok (.sipush 7000, 3) := by decide +kernel
theorem dX2_init_26 : decode cX2_init 26 = .ok (.newarray .int, 2) := by decide +kernel
theorem dX2_init_28 : decode cX2_init 28 = .ok (.putfield 16, 3) := by decide +kernel
theorem dX2_init_31 : decode cX2_init 31 = .ok (.aload_n 0, 1) := by decide +kernel
theorem dX2_init_32 : decode cX2_init 32 = .ok (.sipush 7000, 3) := by decide +kernel
theorem dX2_init_35 : decode cX2_init 35 = .ok (.newarray .int, 2) := by decide +kernel
theorem dX2_init_37 : decode cX2_init 37 = .ok (.putfield 19, 3) := by decide +kernel
theorem dX2_init_40 : decode cX2_init 40 = .ok (.aload_n 0, 1) := by decide +kernel
theorem dX2_init_41 : decode cX2_init 41 = .ok (.sipush 160, 3) := by decide +kernel
theorem dX2_init_44 : decode cX2_init 44 = .ok (.newarray .long, 2) := by decide +kernel
theorem dX2_init_46 : decode cX2_init 46 = .ok (.putfield 22, 3) := by decide +kernel
theorem dX2_init_49 : decode cX2_init 49 = .ok (.return_, 1) := by decide +kernel
theorem dX2_thrown_0 : decode cX2_thrown 0 = .ok (.aload_n 0, 1) := by decide +kernel
theorem dX2_thrown_1 : decode cX2_thrown 1 = .ok (.getfield 26, 3) := by decide +kernel
theorem dX2_thrown_4 : decode cX2_thrown 4 = .ok (.ireturn, 1) := by decide +kernel
theorem dX2_clear_0 : decode cX2_clear 0 = .ok (.aload_n 0, 1) := by decide +kernel
theorem dX2_clear_1 : decode cX2_clear 1 = .ok (.iconst 0, 1) := by decide +kernel
theorem dX2_clear_2 : decode cX2_clear 2 = .ok (.putfield 26, 3) := by decide +kernel
theorem dX2_clear_5 : decode cX2_clear 5 = .ok (.aload_n 0, 1) := by decide +kernel
theorem dX2_clear_6 : decode cX2_clear 6 = .ok (.iconst 0, 1) := by decide +kernel
theorem dX2_clear_7 : decode cX2_clear 7 = .ok (.putfield 30, 3) := by decide +kernel
theorem dX2_clear_10 : decode cX2_clear 10 = .ok (.return_, 1) := by decide +kernel
theorem dX2_add_0 : decode cX2_add 0 = .ok (.aload_n 0, 1) := by decide +kernel
theorem dX2_add_1 : decode cX2_add 1 = .ok (.iload_n 1, 1) := by decide +kernel
theorem dX2_add_2 : decode cX2_add 2 = .ok (.ifCond .lt 10, 3) := by decide +kernel
theorem dX2_add_5 : decode cX2_add 5 = .ok (.iload_n 1, 1) := by decide +kernel
theorem dX2_add_6 : decode cX2_add 6 = .ok (.sipush 255, 3) := by decide +kernel
theorem dX2_add_9 : decode cX2_add 9 = .ok (.if_icmp .le 7, 3) := by decide +kernel
theorem dX2_add_12 : decode cX2_add 12 = .ok (.iconst 1, 1) := by decide +kernel
theorem dX2_add_13 : decode cX2_add 13 = .ok (.goto 18, 3) := by decide +kernel
theorem dX2_add_16 : decode cX2_add 16 = .ok (.aload_n 0, 1) := by decide +kernel
theorem dX2_add_17 : decode cX2_add 17 = .ok (.getfield 30, 3) := by decide +kernel
theorem dX2_add_20 : decode cX2_add 20 = .ok (.sipush 400, 3) := by decide +kernel
theorem dX2_add_23 : decode cX2_add 23 = .ok (.if_icmp .ne 7, 3) := by decide +kernel
theorem dX2_add_26 : decode cX2_add 26 = .ok (.iconst 2, 1) := by decide +kernel
theorem dX2_add_27 : decode cX2_add 27 = .ok (.goto 4, 3) := by decide +kernel
theorem dX2_add_30 : decode cX2_add 30 = .ok (.iconst 0, 1) := by decide +kernel
theorem dX2_add_31 : decode cX2_add 31 = .ok (.putfield 26, 3) := by decide +kernel
theorem dX2_add_34 : decode cX2_add 34 = .ok (.aload_n 0, 1) := by decide +kernel
theorem dX2_add_35 : decode cX2_add 35 = .ok (.getfield 26, 3) := by decide +kernel
theorem dX2_add_38 : decode cX2_add 38 = .ok (.ifCond .eq 5, 3) := by decide +kernel
theorem dX2_add_41 : decode cX2_add 41 = .ok (.iconst 0, 1) := by decide +kernel
theorem dX2_add_42 : decode cX2_add 42 = .ok (.ireturn, 1) := by decide +kernel
theorem dX2_add_43 : decode cX2_add 43 = .ok (.aload_n 0, 1) := by decide +kernel
theorem dX2_add_44 : decode cX2_add 44 = .ok (.getfield 7, 3) := by decide +kernel
theorem dX2_add_47 : decode cX2_add 47 = .ok (.aload_n 0, 1) := by decide +kernel
theorem dX2_add_48 : decode cX2_add 48 = .ok (.getfield 30, 3) := by decide +kernel
theorem dX2_add_51 : decode cX2_add 51 = .ok (.iload_n 1, 1) := by decide +kernel
theorem dX2_add_52 : decode cX2_add 52 = .ok (.iastore, 1) := by decide +kernel
theorem dX2_add_53 : decode cX2_add 53 = .ok (.aload_n 0, 1) := by decide +kernel
theorem dX2_add_54 : decode cX2_add 54 = .ok (.dup, 1) := by decide +kernel
theorem dX2_add_55 : decode cX2_add 55 = .ok (.getfield 30, 3) := by decide +kernel
theorem dX2_add_58 : decode cX2_add 58 = .ok (.iconst 1, 1) := by decide +kernel
theorem dX2_add_59 : decode cX2_add 59 = .ok (.iadd, 1) := by decide +kernel
theorem dX2_add_60 : decode cX2_add 60 = .ok (.putfield 30, 3) := by decide +kernel
theorem dX2_add_63 : decode cX2_add 63 = .ok (.aload_n 0, 1) := by decide +kernel
theorem dX2_add_64 : decode cX2_add 64 = .ok (.getfield 30, 3) := by decide +kernel
theorem dX2_add_67 : decode cX2_add 67 = .ok (.ireturn, 1) := by decide +kernel
theorem dX2_digit_0 : decode cX2_digit 0 = .ok (.iload_n 2, 1) := by decide +kernel
theorem dX2_digit_1 : decode cX2_digit 1 = .ok (.ifCond .lt 24, 3) := by decide +kernel
theorem dX2_digit_4 : decode cX2_digit 4 = .ok (.iload_n 2, 1) := by decide +kernel
theorem dX2_digit_5 : decode cX2_digit 5 = .ok (.aload_n 0, 1) := by decide +kernel
theorem dX2_digit_6 : decode cX2_digit 6 = .ok (.getfield 16, 3) := by decide +kernel
theorem dX2_digit_9 : decode cX2_digit 9 = .ok (.iload_n 1, 1) := by decide +kernel
theorem dX2_digit_10 : decode cX2_digit 10 = .ok (.iaload, 1) := by decide +kernel
theorem dX2_digit_11 : decode cX2_digit 11 = .ok (.if_icmp .ge 14, 3) := by decide +kernel
theorem dX2_digit_14 : decode cX2_digit 14 = .ok (.aload_n 0, 1) := by decide +kernel
theorem dX2_digit_15 : decode cX2_digit 15 = .ok (.getfield 13, 3) := by decide +kernel
theorem dX2_digit_18 : decode cX2_digit 18 = .ok (.iload_n 1, 1) := by decide +kernel
theorem dX2_digit_19 : decode cX2_digit 19 = .ok (.iload_n 2, 1) := by decide +kernel
theorem dX2_digit_20 : decode cX2_digit 20 = .ok (.iadd, 1) := by decide +kernel
theorem dX2_digit_21 : decode cX2_digit 21 = .ok (.iaload, 1) := by decide +kernel
theorem dX2_digit_22 : decode cX2_digit 22 = .ok (.goto 4, 3) := by decide +kernel
theorem dX2_digit_25 : decode cX2_digit 25 = .ok (.iconst 0, 1) := by decide +kernel
theorem dX2_digit_26 : decode cX2_digit 26 = .ok (.ireturn, 1) := by decide +kernel
theorem dX2_more_0 : decode cX2_more 0 = .ok (.aload_n 0, 1) := by decide +kernel
theorem dX2_more_1 : decode cX2_more 1 = .ok (.getfield 13, 3) := by decide +kernel
theorem dX2_more_4 : decode cX2_more 4 = .ok (.iload_n 1, 1) := by decide +kernel
theorem dX2_more_5 : decode cX2_more 5 = .ok (.aload_n 0, 1) := by decide +kernel
theorem dX2_more_6 : decode cX2_more 6 = .ok (.getfield 16, 3) := by decide +kernel
theorem dX2_more_9 : decode cX2_more 9 = .ok (.iload_n 1, 1) := by decide +kernel
theorem dX2_more_10 : decode cX2_more 10 = .ok (.iaload, 1) := by decide +kernel
theorem dX2_more_11 : decode cX2_more 11 = .ok (.iadd, 1) := by decide +kernel
theorem dX2_more_12 : decode cX2_more 12 = .ok (.iload_n 2, 1) := by decide +kernel
theorem dX2_more_13 : decode cX2_more 13 = .ok (.iastore, 1) := by decide +kernel
theorem dX2_more_14 : decode cX2_more 14 = .ok (.aload_n 0, 1) := by decide +kernel
theorem dX2_more_15 : decode cX2_more 15 = .ok (.getfield 16, 3) := by decide +kernel
theorem dX2_more_18 : decode cX2_more 18 = .ok (.iload_n 1, 1) := by decide +kernel
theorem dX2_more_19 : decode cX2_more 19 = .ok (.dup2, 1) := by decide +kernel
theorem dX2_more_20 : decode cX2_more 20 = .ok (.iaload, 1) := by decide +kernel
theorem dX2_more_21 : decode cX2_more 21 = .ok (.iconst 1, 1) := by decide +kernel
theorem dX2_more_22 : decode cX2_more 22 = .ok (.iadd, 1) := by decide +kernel
theorem dX2_more_23 : decode cX2_more 23 = .ok (.iastore, 1) := by decide +kernel
theorem dX2_more_24 : decode cX2_more 24 = .ok (.return_, 1) := by decide +kernel
theorem dX2_trim_0 : decode cX2_trim 0 = .ok (.iconst 0, 1) := by decide +kernel
theorem dX2_trim_1 : decode cX2_trim 1 = .ok (.istore_n 2, 1) := by decide +kernel
theorem dX2_trim_2 : decode cX2_trim 2 = .ok (.iload_n 2, 1) := by decide +kernel
theorem dX2_trim_3 : decode cX2_trim 3 = .ok (.aload_n 0, 1) := by decide +kernel
theorem dX2_trim_4 : decode cX2_trim 4 = .ok (.getfield 16, 3) := by decide +kernel
theorem dX2_trim_7 : decode cX2_trim 7 = .ok (.iload_n 1, 1) := by decide +kernel
theorem dX2_trim_8 : decode cX2_trim 8 = .ok (.iaload, 1) := by decide +kernel
theorem dX2_trim_9 : decode cX2_trim 9 = .ok (.if_icmp .ge 20, 3) := by decide +kernel
theorem dX2_trim_12 : decode cX2_trim 12 = .ok (.aload_n 0, 1) := by decide +kernel
theorem dX2_trim_13 : decode cX2_trim 13 = .ok (.getfield 13, 3) := by decide +kernel
theorem dX2_trim_16 : decode cX2_trim 16 = .ok (.iload_n 1, 1) := by decide +kernel
theorem dX2_trim_17 : decode cX2_trim 17 = .ok (.iload_n 2, 1) := by decide +kernel
theorem dX2_trim_18 : decode cX2_trim 18 = .ok (.iadd, 1) := by decide +kernel
theorem dX2_trim_19 : decode cX2_trim 19 = .ok (.iaload, 1) := by decide +kernel
theorem dX2_trim_20 : decode cX2_trim 20 = .ok (.ifCond .ne 9, 3) := by decide +kernel
theorem dX2_trim_23 : decode cX2_trim 23 = .ok (.iinc 2 1, 3) := by decide +kernel
theorem dX2_trim_26 : decode cX2_trim 26 = .ok (.goto (-24), 3) := by decide +kernel
theorem dX2_trim_29 : decode cX2_trim 29 = .ok (.iload_n 2, 1) := by decide +kernel
theorem dX2_trim_30 : decode cX2_trim 30 = .ok (.istore_n 3, 1) := by decide +kernel
theorem dX2_trim_31 : decode cX2_trim 31 = .ok (.iload_n 3, 1) := by decide +kernel
theorem dX2_trim_32 : decode cX2_trim 32 = .ok (.aload_n 0, 1) := by decide +kernel
theorem dX2_trim_33 : decode cX2_trim 33 = .ok (.getfield 16, 3) := by decide +kernel
theorem dX2_trim_36 : decode cX2_trim 36 = .ok (.iload_n 1, 1) := by decide +kernel
theorem dX2_trim_37 : decode cX2_trim 37 = .ok (.iaload, 1) := by decide +kernel
theorem dX2_trim_38 : decode cX2_trim 38 = .ok (.if_icmp .ge 27, 3) := by decide +kernel
theorem dX2_trim_41 : decode cX2_trim 41 = .ok (.aload_n 0, 1) := by decide +kernel
theorem dX2_trim_42 : decode cX2_trim 42 = .ok (.getfield 13, 3) := by decide +kernel
theorem dX2_trim_45 : decode cX2_trim 45 = .ok (.iload_n 1, 1) := by decide +kernel
theorem dX2_trim_46 : decode cX2_trim 46 = .ok (.iload_n 3, 1) := by decide +kernel
theorem dX2_trim_47 : decode cX2_trim 47 = .ok (.iadd, 1) := by decide +kernel
theorem dX2_trim_48 : decode cX2_trim 48 = .ok (.iload_n 2, 1) := by decide +kernel
theorem dX2_trim_49 : decode cX2_trim 49 = .ok (.isub, 1) := by decide +kernel
theorem dX2_trim_50 : decode cX2_trim 50 = .ok (.aload_n 0, 1) := by decide +kernel
theorem dX2_trim_51 : decode cX2_trim 51 = .ok (.getfield 13, 3) := by decide +kernel
theorem dX2_trim_54 : decode cX2_trim 54 = .ok (.iload_n 1, 1) := by decide +kernel
theorem dX2_trim_55 : decode cX2_trim 55 = .ok (.iload_n 3, 1) := by decide +kernel
theorem dX2_trim_56 : decode cX2_trim 56 = .ok (.iadd, 1) := by decide +kernel
theorem dX2_trim_57 : decode cX2_trim 57 = .ok (.iaload, 1) := by decide +kernel
theorem dX2_trim_58 : decode cX2_trim 58 = .ok (.iastore, 1) := by decide +kernel
theorem dX2_trim_59 : decode cX2_trim 59 = .ok (.iinc 3 1, 3) := by decide +kernel
theorem dX2_trim_62 : decode cX2_trim 62 = .ok (.goto (-31), 3) := by decide +kernel
theorem dX2_trim_65 : decode cX2_trim 65 = .ok (.aload_n 0, 1) := by decide +kernel
theorem dX2_trim_66 : decode cX2_trim 66 = .ok (.getfield 16, 3) := by decide +kernel
theorem dX2_trim_69 : decode cX2_trim 69 = .ok (.iload_n 1, 1) := by decide +kernel
theorem dX2_trim_70 : decode cX2_trim 70 = .ok (.dup2, 1) := by decide +kernel
theorem dX2_trim_71 : decode cX2_trim 71 = .ok (.iaload, 1) := by decide +kernel
theorem dX2_trim_72 : decode cX2_trim 72 = .ok (.iload_n 2, 1) := by decide +kernel
theorem dX2_trim_73 : decode cX2_trim 73 = .ok (.isub, 1) := by decide +kernel
theorem dX2_trim_74 : decode cX2_trim 74 = .ok (.iastore, 1) := by decide +kernel
theorem dX2_trim_75 : decode cX2_trim 75 = .ok (.aload_n 0, 1) := by decide +kernel
theorem dX2_trim_76 : decode cX2_trim 76 = .ok (.getfield 19, 3) := by decide +kernel
theorem dX2_trim_79 : decode cX2_trim 79 = .ok (.iload_n 1, 1) := by decide +kernel
theorem dX2_trim_80 : decode cX2_trim 80 = .ok (.dup2, 1) := by decide +kernel
theorem dX2_trim_81 : decode cX2_trim 81 = .ok (.iaload, 1) := by decide +kernel
theorem dX2_trim_82 : decode cX2_trim 82 = .ok (.iload_n 2, 1) := by decide +kernel
theorem dX2_trim_83 : decode cX2_trim 83 = .ok (.isub, 1) := by decide +kernel
theorem dX2_trim_84 : decode cX2_trim 84 = .ok (.iastore, 1) := by decide +kernel
theorem dX2_trim_85 : decode cX2_trim 85 = .ok (.aload_n 0, 1) := by decide +kernel
theorem dX2_trim_86 : decode cX2_trim 86 = .ok (.getfield 16, 3) := by decide +kernel
theorem dX2_trim_89 : decode cX2_trim 89 = .ok (.iload_n 1, 1) := by decide +kernel
theorem dX2_trim_90 : decode cX2_trim 90 = .ok (.iaload, 1) := by decide +kernel
theorem dX2_trim_91 : decode cX2_trim 91 = .ok (.ifCond .le 34, 3) := by decide +kernel
theorem dX2_trim_94 : decode cX2_trim 94 = .ok (.aload_n 0, 1) := by decide +kernel
theorem dX2_trim_95 : decode cX2_trim 95 = .ok (.getfield 13, 3) := by decide +kernel
theorem dX2_trim_98 : decode cX2_trim 98 = .ok (.iload_n 1, 1) := by decide +kernel
theorem dX2_trim_99 : decode cX2_trim 99 = .ok (.aload_n 0, 1) := by decide +kernel
theorem dX2_trim_100 : decode cX2_trim 100 = .ok (.getfield 16, 3) := by decide +kernel
theorem dX2_trim_103 : decode cX2_trim 103 = .ok (.iload_n 1, 1) := by decide +kernel
theorem dX2_trim_104 : decode cX2_trim 104 = .ok (.iaload, 1) := by decide +kernel
theorem dX2_trim_105 : decode cX2_trim 105 = .ok (.iadd, 1) := by decide +kernel
theorem dX2_trim_106 : decode cX2_trim 106 = .ok (.iconst 1, 1) := by decide +kernel
theorem dX2_trim_107 : decode cX2_trim 107 = .ok (.isub, 1) := by decide +kernel
theorem dX2_trim_108 : decode cX2_trim 108 = .ok (.iaload, 1) := by decide +kernel
theorem dX2_trim_109 : decode cX2_trim 109 = .ok (.ifCond .ne 16, 3) := by decide +kernel
theorem dX2_trim_112 : decode cX2_trim 112 = .ok (.aload_n 0, 1) := by decide +kernel
theorem dX2_trim_113 : decode cX2_trim 113 = .ok (.getfield 16, 3) := by decide +kernel
theorem dX2_trim_116 : decode cX2_trim 116 = .ok (.iload_n 1, 1) := by decide +kernel
theorem dX2_trim_117 : decode cX2_trim 117 = .ok (.dup2, 1) := by decide +kernel
theorem dX2_trim_118 : decode cX2_trim 118 = .ok (.iaload, 1) := by decide +kernel
theorem dX2_trim_119 : decode cX2_trim 119 = .ok (.iconst 1, 1) := by decide +kernel
theorem dX2_trim_120 : decode cX2_trim 120 = .ok (.isub, 1) := by decide +kernel
theorem dX2_trim_121 : decode cX2_trim 121 = .ok (.iastore, 1) := by decide +kernel
theorem dX2_trim_122 : decode cX2_trim 122 = .ok (.goto (-37), 3) := by decide +kernel
theorem dX2_trim_125 : decode cX2_trim 125 = .ok (.return_, 1) := by decide +kernel
theorem dX2_round_0 : decode cX2_round 0 = .ok (.aload_n 0, 1) := by decide +kernel
theorem dX2_round_1 : decode cX2_round 1 = .ok (.getfield 19, 3) := by decide +kernel
theorem dX2_round_4 : decode cX2_round 4 = .ok (.sipush 2800, 3) := by decide +kernel
theorem dX2_round_7 : decode cX2_round 7 = .ok (.aload_n 0, 1) := by decide +kernel
theorem dX2_round_8 : decode cX2_round 8 = .ok (.getfield 19, 3) := by decide +kernel
theorem dX2_round_11 : decode cX2_round 11 = .ok (.sipush 1400, 3) := by decide +kernel
theorem dX2_round_14 : decode cX2_round 14 = .ok (.iaload, 1) := by decide +kernel
theorem dX2_round_15 : decode cX2_round 15 = .ok (.iastore, 1) := by decide +kernel
theorem dX2_round_16 : decode cX2_round 16 = .ok (.aload_n 0, 1) := by decide +kernel
theorem dX2_round_17 : decode cX2_round 17 = .ok (.getfield 16, 3) := by decide +kernel
theorem dX2_round_20 : decode cX2_round 20 = .ok (.sipush 2800, 3) := by decide +kernel
theorem dX2_round_23 : decode cX2_round 23 = .ok (.iload_n 1, 1) := by decide +kernel
theorem dX2_round_24 : decode cX2_round 24 = .ok (.ifCond .ge 7, 3) := by decide +kernel
theorem dX2_round_27 : decode cX2_round 27 = .ok (.iconst 0, 1) := by decide +kernel
theorem dX2_round_28 : decode cX2_round 28 = .ok (.goto 4, 3) := by decide +kernel
theorem dX2_round_31 : decode cX2_round 31 = .ok (.iload_n 1, 1) := by decide +kernel
theorem dX2_round_32 : decode cX2_round 32 = .ok (.iastore, 1) := by decide +kernel
theorem dX2_round_33 : decode cX2_round 33 = .ok (.iconst 0, 1) := by decide +kernel
theorem dX2_round_34 : decode cX2_round 34 = .ok (.istore_n 2, 1) := by decide +kernel
theorem dX2_round_35 : decode cX2_round 35 = .ok (.iload_n 2, 1) := by decide +kernel
theorem dX2_round_36 : decode cX2_round 36 = .ok (.aload_n 0, 1) := by decide +kernel
theorem dX2_round_37 : decode cX2_round 37 = .ok (.getfield 16, 3) := by decide +kernel
theorem dX2_round_40 : decode cX2_round 40 = .ok (.sipush 2800, 3) := by decide +kernel
theorem dX2_round_43 : decode cX2_round 43 = .ok (.iaload, 1) := by decide +kernel
theorem dX2_round_44 : decode cX2_round 44 = .ok (.if_icmp .ge 27, 3) := by decide +kernel
theorem dX2_round_47 : decode cX2_round 47 = .ok (.aload_n 0, 1) := by decide +kernel
theorem dX2_round_48 : decode cX2_round 48 = .ok (.getfield 13, 3) := by decide +kernel
theorem dX2_round_51 : decode cX2_round 51 = .ok (.sipush 2800, 3) := by decide +kernel
theorem dX2_round_54 : decode cX2_round 54 = .ok (.iload_n 2, 1) := by decide +kernel
theorem dX2_round_55 : decode cX2_round 55 = .ok (.iadd, 1) := by decide +kernel
theorem dX2_round_56 : decode cX2_round 56 = .ok (.aload_n 0, 1) := by decide +kernel
theorem dX2_round_57 : decode cX2_round 57 = .ok (.sipush 1400, 3) := by decide +kernel
theorem dX2_round_60 : decode cX2_round 60 = .ok (.iload_n 2, 1) := by decide +kernel
theorem dX2_round_61 : decode cX2_round 61 = .ok (.invokevirtual 33, 3) := by decide +kernel
theorem dX2_round_64 : decode cX2_round 64 = .ok (.iastore, 1) := by decide +kernel
theorem dX2_round_65 : decode cX2_round 65 = .ok (.iinc 2 1, 3) := by decide +kernel
theorem dX2_round_68 : decode cX2_round 68 = .ok (.goto (-33), 3) := by decide +kernel
theorem dX2_round_71 : decode cX2_round 71 = .ok (.iload_n 1, 1) := by decide +kernel
theorem dX2_round_72 : decode cX2_round 72 = .ok (.ifCond .ge 4, 3) := by decide +kernel
theorem dX2_round_75 : decode cX2_round 75 = .ok (.return_, 1) := by decide +kernel
theorem dX2_round_76 : decode cX2_round 76 = .ok (.aload_n 0, 1) := by decide +kernel
theorem dX2_round_77 : decode cX2_round 77 = .ok (.sipush 1400, 3) := by decide +kernel
theorem dX2_round_80 : decode cX2_round 80 = .ok (.iload_n 1, 1) := by decide +kernel
theorem dX2_round_81 : decode cX2_round 81 = .ok (.invokevirtual 33, 3) := by decide +kernel
theorem dX2_round_84 : decode cX2_round 84 = .ok (.istore_n 2, 1) := by decide +kernel
theorem dX2_round_85 : decode cX2_round 85 = .ok (.iconst 0, 1) := by decide +kernel
theorem dX2_round_86 : decode cX2_round 86 = .ok (.istore_n 3, 1) := by decide +kernel
theorem dX2_round_87 : decode cX2_round 87 = .ok (.iload_n 1, 1) := by decide +kernel
theorem dX2_round_88 : decode cX2_round 88 = .ok (.iconst 1, 1) := by decide +kernel
theorem dX2_round_89 : decode cX2_round 89 = .ok (.iadd, 1) := by decide +kernel
theorem dX2_round_90 : decode cX2_round 90 = .ok (.istore 4, 2) := by decide +kernel
theorem dX2_round_92 : decode cX2_round 92 = .ok (.iload 4, 2) := by decide +kernel
theorem dX2_round_94 : decode cX2_round 94 = .ok (.aload_n 0, 1) := by decide +kernel
theorem dX2_round_95 : decode cX2_round 95 = .ok (.getfield 16, 3) := by decide +kernel
theorem dX2_round_98 : decode cX2_round 98 = .ok (.sipush 1400, 3) := by decide +kernel
theorem dX2_round_101 : decode cX2_round 101 = .ok (.iaload, 1) := by decide +kernel
theorem dX2_round_102 : decode cX2_round 102 = .ok (.if_icmp .ge 25, 3) := by decide +kernel
theorem dX2_round_105 : decode cX2_round 105 = .ok (.aload_n 0, 1) := by decide +kernel
theorem dX2_round_106 : decode cX2_round 106 = .ok (.getfield 13, 3) := by decide +kernel
theorem dX2_round_109 : decode cX2_round 109 = .ok (.sipush 1400, 3) := by decide +kernel
theorem dX2_round_112 : decode cX2_round 112 = .ok (.iload 4, 2) := by decide +kernel
theorem dX2_round_114 : decode cX2_round 114 = .ok (.iadd, 1) := by decide +kernel
theorem dX2_round_115 : decode cX2_round 115 = .ok (.iaload, 1) := by decide +kernel
theorem dX2_round_116 : decode cX2_round 116 = .ok (.ifCond .eq 5, 3) := by decide +kernel
theorem dX2_round_119 : decode cX2_round 119 = .ok (.iconst 1, 1) := by decide +kernel
theorem dX2_round_120 : decode cX2_round 120 = .ok (.istore_n 3, 1) := by decide +kernel
theorem dX2_round_121 : decode cX2_round 121 = .ok (.iinc 4 1, 3) := by decide +kernel
theorem dX2_round_124 : decode cX2_round 124 = .ok (.goto (-32), 3) := by decide +kernel
theorem dX2_round_127 : decode cX2_round 127 = .ok (.iload_n 1, 1) := by decide +kernel
theorem dX2_round_128 : decode cX2_round 128 = .ok (.ifCond .le 25, 3) := by decide +kernel
theorem dX2_round_131 : decode cX2_round 131 = .ok (.aload_n 0, 1) := by decide +kernel
theorem dX2_round_132 : decode cX2_round 132 = .ok (.getfield 13, 3) := by decide +kernel
theorem dX2_round_135 : decode cX2_round 135 = .ok (.sipush 2800, 3) := by decide +kernel
theorem dX2_round_138 : decode cX2_round 138 = .ok (.iload_n 1, 1) := by decide +kernel
theorem dX2_round_139 : decode cX2_round 139 = .ok (.iadd, 1) := by decide +kernel
theorem dX2_round_140 : decode cX2_round 140 = .ok (.iconst 1, 1) := by decide +kernel
theorem dX2_round_141 : decode cX2_round 141 = .ok (.isub, 1) := by decide +kernel
theorem dX2_round_142 : decode cX2_round 142 = .ok (.iaload, 1) := by decide +kernel
theorem dX2_round_143 : decode cX2_round 143 = .ok (.iconst 2, 1) := by decide +kernel
theorem dX2_round_144 : decode cX2_round 144 = .ok (.irem, 1) := by decide +kernel
theorem dX2_round_145 : decode cX2_round 145 = .ok (.iconst 1, 1) := by decide +kernel
theorem dX2_round_146 : decode cX2_round 146 = .ok (.if_icmp .ne 7, 3) := by decide +kernel
theorem dX2_round_149 : decode cX2_round 149 = .ok (.iconst 1, 1) := by decide +kernel
theorem dX2_round_150 : decode cX2_round 150 = .ok (.goto 4, 3) := by decide +kernel
theorem dX2_round_153 : decode cX2_round 153 = .ok (.iconst 0, 1) := by decide +kernel
theorem dX2_round_154 : decode cX2_round 154 = .ok (.istore 4, 2) := by decide +kernel
theorem dX2_round_156 : decode cX2_round 156 = .ok (.iload_n 2, 1) := by decide +kernel
theorem dX2_round_157 : decode cX2_round 157 = .ok (.iconst 5, 1) := by decide +kernel
theorem dX2_round_158 : decode cX2_round 158 = .ok (.if_icmp .lt 17, 3) := by decide +kernel
theorem dX2_round_161 : decode cX2_round 161 = .ok (.iload_n 2, 1) := by decide +kernel
theorem dX2_round_162 : decode cX2_round 162 = .ok (.iconst 5, 1) := by decide +kernel
theorem dX2_round_163 : decode cX2_round 163 = .ok (.if_icmp .ne 13, 3) := by decide +kernel
theorem dX2_round_166 : decode cX2_round 166 = .ok (.iload_n 3, 1) := by decide +kernel
theorem dX2_round_167 : decode cX2_round 167 = .ok (.ifCond .ne 9, 3) := by decide +kernel
theorem dX2_round_170 : decode cX2_round 170 = .ok (.iload 4, 2) := by decide +kernel
theorem dX2_round_172 : decode cX2_round 172 = .ok (.ifCond .ne 4, 3) := by decide +kernel
theorem dX2_round_175 : decode cX2_round 175 = .ok (.return_, 1) := by decide +kernel
theorem dX2_round_176 : decode cX2_round 176 = .ok (.aload_n 0, 1) := by decide +kernel
theorem dX2_round_177 : decode cX2_round 177 = .ok (.getfield 16, 3) := by decide +kernel
theorem dX2_round_180 : decode cX2_round 180 = .ok (.sipush 2800, 3) := by decide +kernel
theorem dX2_round_183 : decode cX2_round 183 = .ok (.iaload, 1) := by decide +kernel
theorem dX2_round_184 : decode cX2_round 184 = .ok (.iconst 1, 1) := by decide +kernel
theorem dX2_round_185 : decode cX2_round 185 = .ok (.isub, 1) := by decide +kernel
theorem dX2_round_186 : decode cX2_round 186 = .ok (.istore 5, 2) := by decide +kernel
theorem dX2_round_188 : decode cX2_round 188 = .ok (.iload 5, 2) := by decide +kernel
theorem dX2_round_190 : decode cX2_round 190 = .ok (.ifCond .lt 37, 3) := by decide +kernel
theorem dX2_round_193 : decode cX2_round 193 = .ok (.aload_n 0, 1) := by decide +kernel
theorem dX2_round_194 : decode cX2_round 194 = .ok (.getfield 13, 3) := by decide +kernel
theorem dX2_round_197 : decode cX2_round 197 = .ok (.sipush 2800, 3) := by decide +kernel
theorem dX2_round_200 : decode cX2_round 200 = .ok (.iload 5, 2) := by decide +kernel
theorem dX2_round_202 : decode cX2_round 202 = .ok (.iadd, 1) := by decide +kernel
theorem dX2_round_203 : decode cX2_round 203 = .ok (.iaload, 1) := by decide +kernel
theorem dX2_round_204 : decode cX2_round 204 = .ok (.bipush 9, 2) := by decide +kernel
theorem dX2_round_206 : decode cX2_round 206 = .ok (.if_icmp .ne 21, 3) := by decide +kernel
theorem dX2_round_209 : decode cX2_round 209 = .ok (.aload_n 0, 1) := by decide +kernel
theorem dX2_round_210 : decode cX2_round 210 = .ok (.getfield 13, 3) := by decide +kernel
theorem dX2_round_213 : decode cX2_round 213 = .ok (.sipush 2800, 3) := by decide +kernel
theorem dX2_round_216 : decode cX2_round 216 = .ok (.iload 5, 2) := by decide +kernel
theorem dX2_round_218 : decode cX2_round 218 = .ok (.iadd, 1) := by decide +kernel
theorem dX2_round_219 : decode cX2_round 219 = .ok (.iconst 0, 1) := by decide +kernel
theorem dX2_round_220 : decode cX2_round 220 = .ok (.iastore, 1) := by decide +kernel
theorem dX2_round_221 : decode cX2_round 221 = .ok (.iinc 5 (-1), 3) := by decide +kernel
theorem dX2_round_224 : decode cX2_round 224 = .ok (.goto (-36), 3) := by decide +kernel
theorem dX2_round_227 : decode cX2_round 227 = .ok (.iload 5, 2) := by decide +kernel
theorem dX2_round_229 : decode cX2_round 229 = .ok (.ifCond .lt 19, 3) := by decide +kernel
theorem dX2_round_232 : decode cX2_round 232 = .ok (.aload_n 0, 1) := by decide +kernel
theorem dX2_round_233 : decode cX2_round 233 = .ok (.getfield 13, 3) := by decide +kernel
theorem dX2_round_236 : decode cX2_round 236 = .ok (.sipush 2800, 3) := by decide +kernel
theorem dX2_round_239 : decode cX2_round 239 = .ok (.iload 5, 2) := by decide +kernel
theorem dX2_round_241 : decode cX2_round 241 = .ok (.iadd, 1) := by decide +kernel
theorem dX2_round_242 : decode cX2_round 242 = .ok (.dup2, 1) := by decide +kernel
theorem dX2_round_243 : decode cX2_round 243 = .ok (.iaload, 1) := by decide +kernel
theorem dX2_round_244 : decode cX2_round 244 = .ok (.iconst 1, 1) := by decide +kernel
theorem dX2_round_245 : decode cX2_round 245 = .ok (.iadd, 1) := by decide +kernel
theorem dX2_round_246 : decode cX2_round 246 = .ok (.iastore, 1) := by decide +kernel
theorem dX2_round_247 : decode cX2_round 247 = .ok (.return_, 1) := by decide +kernel
theorem dX2_round_248 : decode cX2_round 248 = .ok (.aload_n 0, 1) := by decide +kernel
theorem dX2_round_249 : decode cX2_round 249 = .ok (.getfield 16, 3) := by decide +kernel
theorem dX2_round_252 : decode cX2_round 252 = .ok (.sipush 2800, 3) := by decide +kernel
theorem dX2_round_255 : decode cX2_round 255 = .ok (.iaload, 1) := by decide +kernel
theorem dX2_round_256 : decode cX2_round 256 = .ok (.istore 6, 2) := by decide +kernel
theorem dX2_round_258 : decode cX2_round 258 = .ok (.iload 6, 2) := by decide +kernel
theorem dX2_round_260 : decode cX2_round 260 = .ok (.ifCond .le 33, 3) := by decide +kernel
theorem dX2_round_263 : decode cX2_round 263 = .ok (.aload_n 0, 1) := by decide +kernel
theorem dX2_round_264 : decode cX2_round 264 = .ok (.getfield 13, 3) := by decide +kernel
theorem dX2_round_267 : decode cX2_round 267 = .ok (.sipush 2800, 3) := by decide +kernel
theorem dX2_round_270 : decode cX2_round 270 = .ok (.iload 6, 2) := by decide +kernel
theorem dX2_round_272 : decode cX2_round 272 = .ok (.iadd, 1) := by decide +kernel
theorem dX2_round_273 : decode cX2_round 273 = .ok (.aload_n 0, 1) := by decide +kernel
theorem dX2_round_274 : decode cX2_round 274 = .ok (.getfield 13, 3) := by decide +kernel
theorem dX2_round_277 : decode cX2_round 277 = .ok (.sipush 2800, 3) := by decide +kernel
theorem dX2_round_280 : decode cX2_round 280 = .ok (.iload 6, 2) := by decide +kernel
theorem dX2_round_282 : decode cX2_round 282 = .ok (.iadd, 1) := by decide +kernel
theorem dX2_round_283 : decode cX2_round 283 = .ok (.iconst 1, 1) := by decide +kernel
theorem dX2_round_284 : decode cX2_round 284 = .ok (.isub, 1) := by decide +kernel
theorem dX2_round_285 : decode cX2_round 285 = .ok (.iaload, 1) := by decide +kernel
theorem dX2_round_286 : decode cX2_round 286 = .ok (.iastore, 1) := by decide +kernel
theorem dX2_round_287 : decode cX2_round 287 = .ok (.iinc 6 (-1), 3) := by decide +kernel
theorem dX2_round_290 : decode cX2_round 290 = .ok (.goto (-32), 3) := by decide +kernel
theorem dX2_round_293 : decode cX2_round 293 = .ok (.aload_n 0, 1) := by decide +kernel
theorem dX2_round_294 : decode cX2_round 294 = .ok (.getfield 13, 3) := by decide +kernel
theorem dX2_round_297 : decode cX2_round 297 = .ok (.sipush 2800, 3) := by decide +kernel
theorem dX2_round_300 : decode cX2_round 300 = .ok (.iconst 1, 1) := by decide +kernel
theorem dX2_round_301 : decode cX2_round 301 = .ok (.iastore, 1) := by decide +kernel
theorem dX2_round_302 : decode cX2_round 302 = .ok (.aload_n 0, 1) := by decide +kernel
theorem dX2_round_303 : decode cX2_round 303 = .ok (.getfield 16, 3) := by decide +kernel
theorem dX2_round_306 : decode cX2_round 306 = .ok (.sipush 2800, 3) := by decide +kernel
theorem dX2_round_309 : decode cX2_round 309 = .ok (.dup2, 1) := by decide +kernel
theorem dX2_round_310 : decode cX2_round 310 = .ok (.iaload, 1) := by decide +kernel
theorem dX2_round_311 : decode cX2_round 311 = .ok (.iconst 1, 1) := by decide +kernel
theorem dX2_round_312 : decode cX2_round 312 = .ok (.iadd, 1) := by decide +kernel
theorem dX2_round_313 : decode cX2_round 313 = .ok (.iastore, 1) := by decide +kernel
theorem dX2_round_314 : decode cX2_round 314 = .ok (.aload_n 0, 1) := by decide +kernel
theorem dX2_round_315 : decode cX2_round 315 = .ok (.getfield 19, 3) := by decide +kernel
theorem dX2_round_318 : decode cX2_round 318 = .ok (.sipush 2800, 3) := by decide +kernel
theorem dX2_round_321 : decode cX2_round 321 = .ok (.dup2, 1) := by decide +kernel
theorem dX2_round_322 : decode cX2_round 322 = .ok (.iaload, 1) := by decide +kernel
theorem dX2_round_323 : decode cX2_round 323 = .ok (.iconst 1, 1) := by decide +kernel
theorem dX2_round_324 : decode cX2_round 324 = .ok (.iadd, 1) := by decide +kernel
theorem dX2_round_325 : decode cX2_round 325 = .ok (.iastore, 1) := by decide +kernel
theorem dX2_round_326 : decode cX2_round 326 = .ok (.return_, 1) := by decide +kernel
theorem dX2_against_0 : decode cX2_against 0 = .ok (.aload_n 0, 1) := by decide +kernel
theorem dX2_against_1 : decode cX2_against 1 = .ok (.getfield 16, 3) := by decide +kernel
theorem dX2_against_4 : decode cX2_against 4 = .ok (.iload_n 1, 1) := by decide +kernel
theorem dX2_against_5 : decode cX2_against 5 = .ok (.iaload, 1) := by decide +kernel
theorem dX2_against_6 : decode cX2_against 6 = .ok (.ifCond .eq 12, 3) := by decide +kernel
theorem dX2_against_9 : decode cX2_against 9 = .ok (.aload_n 0, 1) := by decide +kernel
theorem dX2_against_10 : decode cX2_against 10 = .ok (.getfield 16, 3) := by decide +kernel
theorem dX2_against_13 : decode cX2_against 13 = .ok (.iload_n 2, 1) := by decide +kernel
theorem dX2_against_14 : decode cX2_against 14 = .ok (.iaload, 1) := by decide +kernel
theorem dX2_against_15 : decode cX2_against 15 = .ok (.ifCond .ne 31, 3) := by decide +kernel
theorem dX2_against_18 : decode cX2_against 18 = .ok (.aload_n 0, 1) := by decide +kernel
theorem dX2_against_19 : decode cX2_against 19 = .ok (.getfield 16, 3) := by decide +kernel
theorem dX2_against_22 : decode cX2_against 22 = .ok (.iload_n 1, 1) := by decide +kernel
theorem dX2_against_23 : decode cX2_against 23 = .ok (.iaload, 1) := by decide +kernel
theorem dX2_against_24 : decode cX2_against 24 = .ok (.ifCond .ne 20, 3) := by decide +kernel
theorem dX2_against_27 : decode cX2_against 27 = .ok (.aload_n 0, 1) := by decide +kernel
theorem dX2_against_28 : decode cX2_against 28 = .ok (.getfield 16, 3) := by decide +kernel
theorem dX2_against_31 : decode cX2_against 31 = .ok (.iload_n 2, 1) := by decide +kernel
theorem dX2_against_32 : decode cX2_against 32 = .ok (.iaload, 1) := by decide +kernel
theorem dX2_against_33 : decode cX2_against 33 = .ok (.ifCond .ne 7, 3) := by decide +kernel
theorem dX2_against_36 : decode cX2_against 36 = .ok (.iconst 0, 1) := by decide +kernel
theorem dX2_against_37 : decode cX2_against 37 = .ok (.goto 8, 3) := by decide +kernel
theorem dX2_against_40 : decode cX2_against 40 = .ok (.iconst (-1), 1) := by decide +kernel
theorem dX2_against_41 : decode cX2_against 41 = .ok (.goto 4, 3) := by decide +kernel
theorem dX2_against_44 : decode cX2_against 44 = .ok (.iconst 1, 1) := by decide +kernel
theorem dX2_against_45 : decode cX2_against 45 = .ok (.ireturn, 1) := by decide +kernel
theorem dX2_against_46 : decode cX2_against 46 = .ok (.aload_n 0, 1) := by decide +kernel
theorem dX2_against_47 : decode cX2_against 47 = .ok (.getfield 19, 3) := by decide +kernel
theorem dX2_against_50 : decode cX2_against 50 = .ok (.iload_n 1, 1) := by decide +kernel
theorem dX2_against_51 : decode cX2_against 51 = .ok (.iaload, 1) := by decide +kernel
theorem dX2_against_52 : decode cX2_against 52 = .ok (.aload_n 0, 1) := by decide +kernel
theorem dX2_against_53 : decode cX2_against 53 = .ok (.getfield 19, 3) := by decide +kernel
theorem dX2_against_56 : decode cX2_against 56 = .ok (.iload_n 2, 1) := by decide +kernel
theorem dX2_against_57 : decode cX2_against 57 = .ok (.iaload, 1) := by decide +kernel
theorem dX2_against_58 : decode cX2_against 58 = .ok (.if_icmp .eq 24, 3) := by decide +kernel
theorem dX2_against_61 : decode cX2_against 61 = .ok (.aload_n 0, 1) := by decide +kernel
theorem dX2_against_62 : decode cX2_against 62 = .ok (.getfield 19, 3) := by decide +kernel
theorem dX2_against_65 : decode cX2_against 65 = .ok (.iload_n 1, 1) := by decide +kernel
theorem dX2_against_66 : decode cX2_against 66 = .ok (.iaload, 1) := by decide +kernel
theorem dX2_against_67 : decode cX2_against 67 = .ok (.aload_n 0, 1) := by decide +kernel
theorem dX2_against_68 : decode cX2_against 68 = .ok (.getfield 19, 3) := by decide +kernel
theorem dX2_against_71 : decode cX2_against 71 = .ok (.iload_n 2, 1) := by decide +kernel
theorem dX2_against_72 : decode cX2_against 72 = .ok (.iaload, 1) := by decide +kernel
theorem dX2_against_73 : decode cX2_against 73 = .ok (.if_icmp .ge 7, 3) := by decide +kernel
theorem dX2_against_76 : decode cX2_against 76 = .ok (.iconst (-1), 1) := by decide +kernel
theorem dX2_against_77 : decode cX2_against 77 = .ok (.goto 4, 3) := by decide +kernel
theorem dX2_against_80 : decode cX2_against 80 = .ok (.iconst 1, 1) := by decide +kernel
theorem dX2_against_81 : decode cX2_against 81 = .ok (.ireturn, 1) := by decide +kernel
theorem dX2_against_82 : decode cX2_against 82 = .ok (.iconst 0, 1) := by decide +kernel
theorem dX2_against_83 : decode cX2_against 83 = .ok (.istore_n 3, 1) := by decide +kernel
theorem dX2_against_84 : decode cX2_against 84 = .ok (.iload_n 3, 1) := by decide +kernel
theorem dX2_against_85 : decode cX2_against 85 = .ok (.aload_n 0, 1) := by decide +kernel
theorem dX2_against_86 : decode cX2_against 86 = .ok (.getfield 16, 3) := by decide +kernel
theorem dX2_against_89 : decode cX2_against 89 = .ok (.iload_n 1, 1) := by decide +kernel
theorem dX2_against_90 : decode cX2_against 90 = .ok (.iaload, 1) := by decide +kernel
theorem dX2_against_91 : decode cX2_against 91 = .ok (.if_icmp .lt 13, 3) := by decide +kernel
theorem dX2_against_94 : decode cX2_against 94 = .ok (.iload_n 3, 1) := by decide +kernel
theorem dX2_against_95 : decode cX2_against 95 = .ok (.aload_n 0, 1) := by decide +kernel
theorem dX2_against_96 : decode cX2_against 96 = .ok (.getfield 16, 3) := by decide +kernel
theorem dX2_against_99 : decode cX2_against 99 = .ok (.iload_n 2, 1) := by decide +kernel
theorem dX2_against_100 : decode cX2_against 100 = .ok (.iaload, 1) := by decide +kernel
theorem dX2_against_101 : decode cX2_against 101 = .ok (.if_icmp .ge 45, 3) := by decide +kernel
theorem dX2_against_104 : decode cX2_against 104 = .ok (.aload_n 0, 1) := by decide +kernel
theorem dX2_against_105 : decode cX2_against 105 = .ok (.iload_n 1, 1) := by decide +kernel
theorem dX2_against_106 : decode cX2_against 106 = .ok (.iload_n 3, 1) := by decide +kernel
theorem dX2_against_107 : decode cX2_against 107 = .ok (.invokevirtual 33, 3) := by decide +kernel
theorem dX2_against_110 : decode cX2_against 110 = .ok (.aload_n 0, 1) := by decide +kernel
theorem dX2_against_111 : decode cX2_against 111 = .ok (.iload_n 2, 1) := by decide +kernel
theorem dX2_against_112 : decode cX2_against 112 = .ok (.iload_n 3, 1) := by decide +kernel
theorem dX2_against_113 : decode cX2_against 113 = .ok (.invokevirtual 33, 3) := by decide +kernel
theorem dX2_against_116 : decode cX2_against 116 = .ok (.if_icmp .eq 24, 3) := by decide +kernel
theorem dX2_against_119 : decode cX2_against 119 = .ok (.aload_n 0, 1) := by decide +kernel
theorem dX2_against_120 : decode cX2_against 120 = .ok (.iload_n 1, 1) := by decide +kernel
theorem dX2_against_121 : decode cX2_against 121 = .ok (.iload_n 3, 1) := by decide +kernel
theorem dX2_against_122 : decode cX2_against 122 = .ok (.invokevirtual 33, 3) := by decide +kernel
theorem dX2_against_125 : decode cX2_against 125 = .ok (.aload_n 0, 1) := by decide +kernel
theorem dX2_against_126 : decode cX2_against 126 = .ok (.iload_n 2, 1) := by decide +kernel
theorem dX2_against_127 : decode cX2_against 127 = .ok (.iload_n 3, 1) := by decide +kernel
theorem dX2_against_128 : decode cX2_against 128 = .ok (.invokevirtual 33, 3) := by decide +kernel
theorem dX2_against_131 : decode cX2_against 131 = .ok (.if_icmp .ge 7, 3) := by decide +kernel
theorem dX2_against_134 : decode cX2_against 134 = .ok (.iconst (-1), 1) := by decide +kernel
theorem dX2_against_135 : decode cX2_against 135 = .ok (.goto 4, 3) := by decide +kernel
theorem dX2_against_138 : decode cX2_against 138 = .ok (.iconst 1, 1) := by decide +kernel
theorem dX2_against_139 : decode cX2_against 139 = .ok (.ireturn, 1) := by decide +kernel
theorem dX2_against_140 : decode cX2_against 140 = .ok (.iinc 3 1, 3) := by decide +kernel
theorem dX2_against_143 : decode cX2_against 143 = .ok (.goto (-59), 3) := by decide +kernel
theorem dX2_against_146 : decode cX2_against 146 = .ok (.iconst 0, 1) := by decide +kernel
theorem dX2_against_147 : decode cX2_against 147 = .ok (.ireturn, 1) := by decide +kernel
theorem dX2_times_0 : decode cX2_times 0 = .ok (.lconst 0, 1) := by decide +kernel
theorem dX2_times_1 : decode cX2_times 1 = .ok (.lstore_n 3, 1) := by decide +kernel
theorem dX2_times_2 : decode cX2_times 2 = .ok (.iconst 0, 1) := by decide +kernel
theorem dX2_times_3 : decode cX2_times 3 = .ok (.istore 5, 2) := by decide +kernel
theorem dX2_times_5 : decode cX2_times 5 = .ok (.iload 5, 2) := by decide +kernel
theorem dX2_times_7 : decode cX2_times 7 = .ok (.aload_n 0, 1) := by decide +kernel
theorem dX2_times_8 : decode cX2_times 8 = .ok (.getfield 37, 3) := by decide +kernel
theorem dX2_times_11 : decode cX2_times 11 = .ok (.if_icmp .ge 39, 3) := by decide +kernel
theorem dX2_times_14 : decode cX2_times 14 = .ok (.lload_n 3, 1) := by decide +kernel
theorem dX2_times_15 : decode cX2_times 15 = .ok (.aload_n 0, 1) := by decide +kernel
theorem dX2_times_16 : decode cX2_times 16 = .ok (.getfield 22, 3) := by decide +kernel
theorem dX2_times_19 : decode cX2_times 19 = .ok (.iload 5, 2) := by decide +kernel
theorem dX2_times_21 : decode cX2_times 21 = .ok (.laload, 1) := by decide +kernel
theorem dX2_times_22 : decode cX2_times 22 = .ok (.lload_n 1, 1) := by decide +kernel
theorem dX2_times_23 : decode cX2_times 23 = .ok (.lmul, 1) := by decide +kernel
theorem dX2_times_24 : decode cX2_times 24 = .ok (.ladd, 1) := by decide +kernel
theorem dX2_times_25 : decode cX2_times 25 = .ok (.lstore_n 3, 1) := by decide +kernel
theorem dX2_times_26 : decode cX2_times 26 = .ok (.aload_n 0, 1) := by decide +kernel
theorem dX2_times_27 : decode cX2_times 27 = .ok (.getfield 22, 3) := by decide +kernel
theorem dX2_times_30 : decode cX2_times 30 = .ok (.iload 5, 2) := by decide +kernel
theorem dX2_times_32 : decode cX2_times 32 = .ok (.lload_n 3, 1) := by decide +kernel
theorem dX2_times_33 : decode cX2_times 33 = .ok (.ldc2_w 40, 3) := by decide +kernel
theorem dX2_times_36 : decode cX2_times 36 = .ok (.lrem, 1) := by decide +kernel
theorem dX2_times_37 : decode cX2_times 37 = .ok (.lastore, 1) := by decide +kernel
theorem dX2_times_38 : decode cX2_times 38 = .ok (.lload_n 3, 1) := by decide +kernel
theorem dX2_times_39 : decode cX2_times 39 = .ok (.ldc2_w 40, 3) := by decide +kernel
theorem dX2_times_42 : decode cX2_times 42 = .ok (.ldiv, 1) := by decide +kernel
theorem dX2_times_43 : decode cX2_times 43 = .ok (.lstore_n 3, 1) := by decide +kernel
theorem dX2_times_44 : decode cX2_times 44 = .ok (.iinc 5 1, 3) := by decide +kernel
theorem dX2_times_47 : decode cX2_times 47 = .ok (.goto (-42), 3) := by decide +kernel
theorem dX2_times_50 : decode cX2_times 50 = .ok (.lload_n 3, 1) := by decide +kernel
theorem dX2_times_51 : decode cX2_times 51 = .ok (.lconst 0, 1) := by decide +kernel
theorem dX2_times_52 : decode cX2_times 52 = .ok (.lcmp, 1) := by decide +kernel
theorem dX2_times_53 : decode cX2_times 53 = .ok (.ifCond .le 23, 3) := by decide +kernel
theorem dX2_times_56 : decode cX2_times 56 = .ok (.aload_n 0, 1) := by decide +kernel
theorem dX2_times_57 : decode cX2_times 57 = .ok (.getfield 22, 3) := by decide +kernel
theorem dX2_times_60 : decode cX2_times 60 = .ok (.aload_n 0, 1) := by decide +kernel
theorem dX2_times_61 : decode cX2_times 61 = .ok (.getfield 37, 3) := by decide +kernel
theorem dX2_times_64 : decode cX2_times 64 = .ok (.lload_n 3, 1) := by decide +kernel
theorem dX2_times_65 : decode cX2_times 65 = .ok (.lastore, 1) := by decide +kernel
theorem dX2_times_66 : decode cX2_times 66 = .ok (.aload_n 0, 1) := by decide +kernel
theorem dX2_times_67 : decode cX2_times 67 = .ok (.dup, 1) := by decide +kernel
theorem dX2_times_68 : decode cX2_times 68 = .ok (.getfield 37, 3) := by decide +kernel
theorem dX2_times_71 : decode cX2_times 71 = .ok (.iconst 1, 1) := by decide +kernel
theorem dX2_times_72 : decode cX2_times 72 = .ok (.iadd, 1) := by decide +kernel
theorem dX2_times_73 : decode cX2_times 73 = .ok (.putfield 37, 3) := by decide +kernel
theorem dX2_times_76 : decode cX2_times 76 = .ok (.return_, 1) := by decide +kernel
theorem dX2_row_0 : decode cX2_row 0 = .ok (.aload_n 0, 1) := by decide +kernel
theorem dX2_row_1 : decode cX2_row 1 = .ok (.iconst 0, 1) := by decide +kernel
theorem dX2_row_2 : decode cX2_row 2 = .ok (.putfield 37, 3) := by decide +kernel
theorem dX2_row_5 : decode cX2_row 5 = .ok (.lload_n 1, 1) := by decide +kernel
theorem dX2_row_6 : decode cX2_row 6 = .ok (.lstore 5, 2) := by decide +kernel
theorem dX2_row_8 : decode cX2_row 8 = .ok (.lload 5, 2) := by decide +kernel
theorem dX2_row_10 : decode cX2_row 10 = .ok (.lconst 0, 1) := by decide +kernel
theorem dX2_row_11 : decode cX2_row 11 = .ok (.lcmp, 1) := by decide +kernel
theorem dX2_row_12 : decode cX2_row 12 = .ok (.ifCond .le 39, 3) := by decide +kernel
theorem dX2_row_15 : decode cX2_row 15 = .ok (.aload_n 0, 1) := by decide +kernel
theorem dX2_row_16 : decode cX2_row 16 = .ok (.getfield 22, 3) := by decide +kernel
theorem dX2_row_19 : decode cX2_row 19 = .ok (.aload_n 0, 1) := by decide +kernel
theorem dX2_row_20 : decode cX2_row 20 = .ok (.getfield 37, 3) := by decide +kernel
theorem dX2_row_23 : decode cX2_row 23 = .ok (.lload 5, 2) := by decide +kernel
theorem dX2_row_25 : decode cX2_row 25 = .ok (.ldc2_w 40, 3) := by decide +kernel
theorem dX2_row_28 : decode cX2_row 28 = .ok (.lrem, 1) := by decide +kernel
theorem dX2_row_29 : decode cX2_row 29 = .ok (.lastore, 1) := by decide +kernel
theorem dX2_row_30 : decode cX2_row 30 = .ok (.aload_n 0, 1) := by decide +kernel
theorem dX2_row_31 : decode cX2_row 31 = .ok (.dup, 1) := by decide +kernel
theorem dX2_row_32 : decode cX2_row 32 = .ok (.getfield 37, 3) := by decide +kernel
theorem dX2_row_35 : decode cX2_row 35 = .ok (.iconst 1, 1) := by decide +kernel
theorem dX2_row_36 : decode cX2_row 36 = .ok (.iadd, 1) := by decide +kernel
theorem dX2_row_37 : decode cX2_row 37 = .ok (.putfield 37, 3) := by decide +kernel
theorem dX2_row_40 : decode cX2_row 40 = .ok (.lload 5, 2) := by decide +kernel
theorem dX2_row_42 : decode cX2_row 42 = .ok (.ldc2_w 40, 3) := by decide +kernel
theorem dX2_row_45 : decode cX2_row 45 = .ok (.ldiv, 1) := by decide +kernel
theorem dX2_row_46 : decode cX2_row 46 = .ok (.lstore 5, 2) := by decide +kernel
theorem dX2_row_48 : decode cX2_row 48 = .ok (.goto (-40), 3) := by decide +kernel
theorem dX2_row_51 : decode cX2_row 51 = .ok (.iconst 0, 1) := by decide +kernel
theorem dX2_row_52 : decode cX2_row 52 = .ok (.istore 5, 2) := by decide +kernel
theorem dX2_row_54 : decode cX2_row 54 = .ok (.iload 5, 2) := by decide +kernel
theorem dX2_row_56 : decode cX2_row 56 = .ok (.iload_n 3, 1) := by decide +kernel
theorem dX2_row_57 : decode cX2_row 57 = .ok (.bipush 29, 2) := by decide +kernel
theorem dX2_row_59 : decode cX2_row 59 = .ok (.idiv, 1) := by decide +kernel
theorem dX2_row_60 : decode cX2_row 60 = .ok (.if_icmp .ge 16, 3) := by decide +kernel
theorem dX2_row_63 : decode cX2_row 63 = .ok (.aload_n 0, 1) := by decide +kernel
theorem dX2_row_64 : decode cX2_row 64 = .ok (.ldc2_w 42, 3) := by decide +kernel
theorem dX2_row_67 : decode cX2_row 67 = .ok (.invokevirtual 44, 3) := by decide +kernel
theorem dX2_row_70 : decode cX2_row 70 = .ok (.iinc 5 1, 3) := by decide +kernel
theorem dX2_row_73 : decode cX2_row 73 = .ok (.goto (-19), 3) := by decide +kernel
theorem dX2_row_76 : decode cX2_row 76 = .ok (.iload_n 3, 1) := by decide +kernel
theorem dX2_row_77 : decode cX2_row 77 = .ok (.ifCond .le 13, 3) := by decide +kernel
theorem dX2_row_80 : decode cX2_row 80 = .ok (.aload_n 0, 1) := by decide +kernel
theorem dX2_row_81 : decode cX2_row 81 = .ok (.lconst 1, 1) := by decide +kernel
theorem dX2_row_82 : decode cX2_row 82 = .ok (.iload_n 3, 1) := by decide +kernel
theorem dX2_row_83 : decode cX2_row 83 = .ok (.bipush 29, 2) := by decide +kernel
theorem dX2_row_85 : decode cX2_row 85 = .ok (.irem, 1) := by decide +kernel
theorem dX2_row_86 : decode cX2_row 86 = .ok (.lshl, 1) := by decide +kernel
theorem dX2_row_87 : decode cX2_row 87 = .ok (.invokevirtual 44, 3) := by decide +kernel
theorem dX2_row_90 : decode cX2_row 90 = .ok (.iconst 0, 1) := by decide +kernel
theorem dX2_row_91 : decode cX2_row 91 = .ok (.istore 5, 2) := by decide +kernel
theorem dX2_row_93 : decode cX2_row 93 = .ok (.iload 5, 2) := by decide +kernel
theorem dX2_row_95 : decode cX2_row 95 = .ok (.iload_n 3, 1) := by decide +kernel
theorem dX2_row_96 : decode cX2_row 96 = .ok (.ineg, 1) := by decide +kernel
theorem dX2_row_97 : decode cX2_row 97 = .ok (.bipush 12, 2) := by decide +kernel
theorem dX2_row_99 : decode cX2_row 99 = .ok (.idiv, 1) := by decide +kernel
theorem dX2_row_100 : decode cX2_row 100 = .ok (.if_icmp .ge 16, 3) := by decide +kernel
theorem dX2_row_103 : decode cX2_row 103 = .ok (.aload_n 0, 1) := by decide +kernel
theorem dX2_row_104 : decode cX2_row 104 = .ok (.ldc2_w 48, 3) := by decide +kernel
theorem dX2_row_107 : decode cX2_row 107 = .ok (.invokevirtual 44, 3) := by decide +kernel
theorem dX2_row_110 : decode cX2_row 110 = .ok (.iinc 5 1, 3) := by decide +kernel
theorem dX2_row_113 : decode cX2_row 113 = .ok (.goto (-20), 3) := by decide +kernel
theorem dX2_row_116 : decode cX2_row 116 = .ok (.iconst 0, 1) := by decide +kernel
theorem dX2_row_117 : decode cX2_row 117 = .ok (.istore 5, 2) := by decide +kernel
theorem dX2_row_119 : decode cX2_row 119 = .ok (.iload 5, 2) := by decide +kernel
theorem dX2_row_121 : decode cX2_row 121 = .ok (.iload_n 3, 1) := by decide +kernel
theorem dX2_row_122 : decode cX2_row 122 = .ok (.ifCond .ge 11, 3) := by decide +kernel
theorem dX2_row_125 : decode cX2_row 125 = .ok (.iload_n 3, 1) := by decide +kernel
theorem dX2_row_126 : decode cX2_row 126 = .ok (.ineg, 1) := by decide +kernel
theorem dX2_row_127 : decode cX2_row 127 = .ok (.bipush 12, 2) := by decide +kernel
theorem dX2_row_129 : decode cX2_row 129 = .ok (.irem, 1) := by decide +kernel
theorem dX2_row_130 : decode cX2_row 130 = .ok (.goto 4, 3) := by decide +kernel
theorem dX2_row_133 : decode cX2_row 133 = .ok (.iconst 0, 1) := by decide +kernel
theorem dX2_row_134 : decode cX2_row 134 = .ok (.if_icmp .ge 16, 3) := by decide +kernel
theorem dX2_row_137 : decode cX2_row 137 = .ok (.aload_n 0, 1) := by decide +kernel
theorem dX2_row_138 : decode cX2_row 138 = .ok (.ldc2_w 50, 3) := by decide +kernel
theorem dX2_row_141 : decode cX2_row 141 = .ok (.invokevirtual 44, 3) := by decide +kernel
theorem dX2_row_144 : decode cX2_row 144 = .ok (.iinc 5 1, 3) := by decide +kernel
theorem dX2_row_147 : decode cX2_row 147 = .ok (.goto (-28), 3) := by decide +kernel
theorem dX2_row_150 : decode cX2_row 150 = .ok (.aload_n 0, 1) := by decide +kernel
theorem dX2_row_151 : decode cX2_row 151 = .ok (.getfield 16, 3) := by decide +kernel
theorem dX2_row_154 : decode cX2_row 154 = .ok (.iload 4, 2) := by decide +kernel
theorem dX2_row_156 : decode cX2_row 156 = .ok (.iconst 0, 1) := by decide +kernel
theorem dX2_row_157 : decode cX2_row 157 = .ok (.iastore, 1) := by decide +kernel
theorem dX2_row_158 : decode cX2_row 158 = .ok (.aload_n 0, 1) := by decide +kernel
theorem dX2_row_159 : decode cX2_row 159 = .ok (.getfield 37, 3) := by decide +kernel
theorem dX2_row_162 : decode cX2_row 162 = .ok (.iconst 1, 1) := by decide +kernel
theorem dX2_row_163 : decode cX2_row 163 = .ok (.isub, 1) := by decide +kernel
theorem dX2_row_164 : decode cX2_row 164 = .ok (.istore 5, 2) := by decide +kernel
theorem dX2_row_166 : decode cX2_row 166 = .ok (.iload 5, 2) := by decide +kernel
theorem dX2_row_168 : decode cX2_row 168 = .ok (.ifCond .lt 53, 3) := by decide +kernel
theorem dX2_row_171 : decode cX2_row 171 = .ok (.ldc2_w 52, 3) := by decide +kernel
theorem dX2_row_174 : decode cX2_row 174 = .ok (.lstore 6, 2) := by decide +kernel
theorem dX2_row_176 : decode cX2_row 176 = .ok (.lload 6, 2) := by decide +kernel
theorem dX2_row_178 : decode cX2_row 178 = .ok (.lconst 0, 1) := by decide +kernel
theorem dX2_row_179 : decode cX2_row 179 = .ok (.lcmp, 1) := by decide +kernel
theorem dX2_row_180 : decode cX2_row 180 = .ok (.ifCond .le 35, 3) := by decide +kernel
theorem dX2_row_183 : decode cX2_row 183 = .ok (.aload_n 0, 1) := by decide +kernel
theorem dX2_row_184 : decode cX2_row 184 = .ok (.iload 4, 2) := by decide +kernel
theorem dX2_row_186 : decode cX2_row 186 = .ok (.aload_n 0, 1) := by decide +kernel
theorem dX2_row_187 : decode cX2_row 187 = .ok (.getfield 22, 3) := by decide +kernel
theorem dX2_row_190 : decode cX2_row 190 = .ok (.iload 5, 2) := by decide +kernel
theorem dX2_row_192 : decode cX2_row 192 = .ok (.laload, 1) := by decide +kernel
theorem dX2_row_193 : decode cX2_row 193 = .ok (.lload 6, 2) := by decide +kernel
theorem dX2_row_195 : decode cX2_row 195 = .ok (.ldiv, 1) := by decide +kernel
theorem dX2_row_196 : decode cX2_row 196 = .ok (.ldc2_w 54, 3) := by decide +kernel
theorem dX2_row_199 : decode cX2_row 199 = .ok (.lrem, 1) := by decide +kernel
theorem dX2_row_200 : decode cX2_row 200 = .ok (.l2i, 1) := by decide +kernel
theorem dX2_row_201 : decode cX2_row 201 = .ok (.invokevirtual 56, 3) := by decide +kernel
theorem dX2_row_204 : decode cX2_row 204 = .ok (.lload 6, 2) := by decide +kernel
theorem dX2_row_206 : decode cX2_row 206 = .ok (.ldc2_w 54, 3) := by decide +kernel
theorem dX2_row_209 : decode cX2_row 209 = .ok (.ldiv, 1) := by decide +kernel
theorem dX2_row_210 : decode cX2_row 210 = .ok (.lstore 6, 2) := by decide +kernel
theorem dX2_row_212 : decode cX2_row 212 = .ok (.goto (-36), 3) := by decide +kernel
theorem dX2_row_215 : decode cX2_row 215 = .ok (.iinc 5 (-1), 3) := by decide +kernel
theorem dX2_row_218 : decode cX2_row 218 = .ok (.goto (-52), 3) := by decide +kernel
theorem dX2_row_221 : decode cX2_row 221 = .ok (.aload_n 0, 1) := by decide +kernel
theorem dX2_row_222 : decode cX2_row 222 = .ok (.getfield 19, 3) := by decide +kernel
theorem dX2_row_225 : decode cX2_row 225 = .ok (.iload 4, 2) := by decide +kernel
theorem dX2_row_227 : decode cX2_row 227 = .ok (.aload_n 0, 1) := by decide +kernel
theorem dX2_row_228 : decode cX2_row 228 = .ok (.getfield 16, 3) := by decide +kernel
theorem dX2_row_231 : decode cX2_row 231 = .ok (.iload 4, 2) := by decide +kernel
theorem dX2_row_233 : decode cX2_row 233 = .ok (.iaload, 1) := by decide +kernel
theorem dX2_row_234 : decode cX2_row 234 = .ok (.iload_n 3, 1) := by decide +kernel
theorem dX2_row_235 : decode cX2_row 235 = .ok (.ifCond .ge 7, 3) := by decide +kernel
theorem dX2_row_238 : decode cX2_row 238 = .ok (.iload_n 3, 1) := by decide +kernel
theorem dX2_row_239 : decode cX2_row 239 = .ok (.goto 4, 3) := by decide +kernel
theorem dX2_row_242 : decode cX2_row 242 = .ok (.iconst 0, 1) := by decide +kernel
theorem dX2_row_243 : decode cX2_row 243 = .ok (.iadd, 1) := by decide +kernel
theorem dX2_row_244 : decode cX2_row 244 = .ok (.iastore, 1) := by decide +kernel
theorem dX2_row_245 : decode cX2_row 245 = .ok (.aload_n 0, 1) := by decide +kernel
theorem dX2_row_246 : decode cX2_row 246 = .ok (.iload 4, 2) := by decide +kernel
theorem dX2_row_248 : decode cX2_row 248 = .ok (.invokevirtual 60, 3) := by decide +kernel
theorem dX2_row_251 : decode cX2_row 251 = .ok (.return_, 1) := by decide +kernel
theorem dX2_whole_0 : decode cX2_whole 0 = .ok (.lload_n 0, 1) := by decide +kernel
theorem dX2_whole_1 : decode cX2_whole 1 = .ok (.bipush 52, 2) := by decide +kernel
theorem dX2_whole_3 : decode cX2_whole 3 = .ok (.lushr, 1) := by decide +kernel
theorem dX2_whole_4 : decode cX2_whole 4 = .ok (.lconst 0, 1) := by decide +kernel
theorem dX2_whole_5 : decode cX2_whole 5 = .ok (.lcmp, 1) := by decide +kernel
theorem dX2_whole_6 : decode cX2_whole 6 = .ok (.ifCond .ne 7, 3) := by decide +kernel
theorem dX2_whole_9 : decode cX2_whole 9 = .ok (.lload_n 0, 1) := by decide +kernel
theorem dX2_whole_10 : decode cX2_whole 10 = .ok (.goto 12, 3) := by decide +kernel
theorem dX2_whole_13 : decode cX2_whole 13 = .ok (.lload_n 0, 1) := by decide +kernel
theorem dX2_whole_14 : decode cX2_whole 14 = .ok (.ldc2_w 64, 3) := by decide +kernel
theorem dX2_whole_17 : decode cX2_whole 17 = .ok (.land, 1) := by decide +kernel
theorem dX2_whole_18 : decode cX2_whole 18 = .ok (.ldc2_w 66, 3) := by decide +kernel
theorem dX2_whole_21 : decode cX2_whole 21 = .ok (.lor, 1) := by decide +kernel
theorem dX2_whole_22 : decode cX2_whole 22 = .ok (.lreturn, 1) := by decide +kernel
theorem dX2_two_0 : decode cX2_two 0 = .ok (.lload_n 0, 1) := by decide +kernel
theorem dX2_two_1 : decode cX2_two 1 = .ok (.bipush 52, 2) := by decide +kernel
theorem dX2_two_3 : decode cX2_two 3 = .ok (.lushr, 1) := by decide +kernel
theorem dX2_two_4 : decode cX2_two 4 = .ok (.lconst 0, 1) := by decide +kernel
theorem dX2_two_5 : decode cX2_two 5 = .ok (.lcmp, 1) := by decide +kernel
theorem dX2_two_6 : decode cX2_two 6 = .ok (.ifCond .ne 9, 3) := by decide +kernel
theorem dX2_two_9 : decode cX2_two 9 = .ok (.sipush (-1074), 3) := by decide +kernel
theorem dX2_two_12 : decode cX2_two 12 = .ok (.goto 12, 3) := by decide +kernel
theorem dX2_two_15 : decode cX2_two 15 = .ok (.lload_n 0, 1) := by decide +kernel
theorem dX2_two_16 : decode cX2_two 16 = .ok (.bipush 52, 2) := by decide +kernel
theorem dX2_two_18 : decode cX2_two 18 = .ok (.lushr, 1) := by decide +kernel
theorem dX2_two_19 : decode cX2_two 19 = .ok (.l2i, 1) := by decide +kernel
theorem dX2_two_20 : decode cX2_two 20 = .ok (.sipush 1075, 3) := by decide +kernel
theorem dX2_two_23 : decode cX2_two 23 = .ok (.isub, 1) := by decide +kernel
theorem dX2_two_24 : decode cX2_two 24 = .ok (.ireturn, 1) := by decide +kernel
theorem dX2_rowOf_0 : decode cX2_rowOf 0 = .ok (.aload_n 0, 1) := by decide +kernel
theorem dX2_rowOf_1 : decode cX2_rowOf 1 = .ok (.lload_n 1, 1) := by decide +kernel
theorem dX2_rowOf_2 : decode cX2_rowOf 2 = .ok (.invokestatic 68, 3) := by decide +kernel
theorem dX2_rowOf_5 : decode cX2_rowOf 5 = .ok (.lload_n 1, 1) := by decide +kernel
theorem dX2_rowOf_6 : decode cX2_rowOf 6 = .ok (.invokestatic 72, 3) := by decide +kernel
theorem dX2_rowOf_9 : decode cX2_rowOf 9 = .ok (.iload_n 3, 1) := by decide +kernel
theorem dX2_rowOf_10 : decode cX2_rowOf 10 = .ok (.invokevirtual 76, 3) := by decide +kernel
theorem dX2_rowOf_13 : decode cX2_rowOf 13 = .ok (.return_, 1) := by decide +kernel
theorem dX2_is_0 : decode cX2_is 0 = .ok (.aload_n 0, 1) := by decide +kernel
theorem dX2_is_1 : decode cX2_is 1 = .ok (.getfield 80, 3) := by decide +kernel
theorem dX2_is_4 : decode cX2_is 4 = .ok (.aload_n 0, 1) := by decide +kernel
theorem dX2_is_5 : decode cX2_is 5 = .ok (.getfield 30, 3) := by decide +kernel
theorem dX2_is_8 : decode cX2_is 8 = .ok (.if_icmp .ge 20, 3) := by decide +kernel
theorem dX2_is_11 : decode cX2_is 11 = .ok (.aload_n 0, 1) := by decide +kernel
theorem dX2_is_12 : decode cX2_is 12 = .ok (.getfield 7, 3) := by decide +kernel
theorem dX2_is_15 : decode cX2_is 15 = .ok (.aload_n 0, 1) := by decide +kernel
end
section
theorem dX2_is_16 : decode cX2_is 16 = .ok (.getfield 80, 3) := by decide +kernel
theorem dX2_is_19 : decode cX2_is 19 = .ok (.iaload, 1) := by decide +kernel
theorem dX2_is_20 : decode cX2_is 20 = .ok (.iload_n 1, 1) := by decide +kernel
theorem dX2_is_21 : decode cX2_is 21 = .ok (.if_icmp .ne 7, 3) := by decide +kernel
theorem dX2_is_24 : decode cX2_is 24 = .ok (.iconst 1, 1) := by decide +kernel
theorem dX2_is_25 : decode cX2_is 25 = .ok (.goto 4, 3) := by decide +kernel
theorem dX2_is_28 : decode cX2_is 28 = .ok (.iconst 0, 1) := by decide +kernel
theorem dX2_is_29 : decode cX2_is 29 = .ok (.ireturn, 1) := by decide +kernel
theorem dX2_isDigit_0 : decode cX2_isDigit 0 = .ok (.aload_n 0, 1) := by decide +kernel
theorem dX2_isDigit_1 : decode cX2_isDigit 1 = .ok (.getfield 80, 3) := by decide +kernel
theorem dX2_isDigit_4 : decode cX2_isDigit 4 = .ok (.aload_n 0, 1) := by decide +kernel
theorem dX2_isDigit_5 : decode cX2_isDigit 5 = .ok (.getfield 30, 3) := by decide +kernel
theorem dX2_isDigit_8 : decode cX2_isDigit 8 = .ok (.if_icmp .ge 35, 3) := by decide +kernel
theorem dX2_isDigit_11 : decode cX2_isDigit 11 = .ok (.aload_n 0, 1) := by decide +kernel
theorem dX2_isDigit_12 : decode cX2_isDigit 12 = .ok (.getfield 7, 3) := by decide +kernel
theorem dX2_isDigit_15 : decode cX2_isDigit 15 = .ok (.aload_n 0, 1) := by decide +kernel
theorem dX2_isDigit_16 : decode cX2_isDigit 16 = .ok (.getfield 80, 3) := by decide +kernel
theorem dX2_isDigit_19 : decode cX2_isDigit 19 = .ok (.iaload, 1) := by decide +kernel
theorem dX2_isDigit_20 : decode cX2_isDigit 20 = .ok (.bipush 48, 2) := by decide +kernel
theorem dX2_isDigit_22 : decode cX2_isDigit 22 = .ok (.if_icmp .lt 21, 3) := by decide +kernel
theorem dX2_isDigit_25 : decode cX2_isDigit 25 = .ok (.aload_n 0, 1) := by decide +kernel
theorem dX2_isDigit_26 : decode cX2_isDigit 26 = .ok (.getfield 7, 3) := by decide +kernel
theorem dX2_isDigit_29 : decode cX2_isDigit 29 = .ok (.aload_n 0, 1) := by decide +kernel
theorem dX2_isDigit_30 : decode cX2_isDigit 30 = .ok (.getfield 80, 3) := by decide +kernel
theorem dX2_isDigit_33 : decode cX2_isDigit 33 = .ok (.iaload, 1) := by decide +kernel
theorem dX2_isDigit_34 : decode cX2_isDigit 34 = .ok (.bipush 57, 2) := by decide +kernel
theorem dX2_isDigit_36 : decode cX2_isDigit 36 = .ok (.if_icmp .gt 7, 3) := by decide +kernel
theorem dX2_isDigit_39 : decode cX2_isDigit 39 = .ok (.iconst 1, 1) := by decide +kernel
theorem dX2_isDigit_40 : decode cX2_isDigit 40 = .ok (.goto 4, 3) := by decide +kernel
theorem dX2_isDigit_43 : decode cX2_isDigit 43 = .ok (.iconst 0, 1) := by decide +kernel
theorem dX2_isDigit_44 : decode cX2_isDigit 44 = .ok (.ireturn, 1) := by decide +kernel
theorem dX2_parse_0 : decode cX2_parse 0 = .ok (.aload_n 0, 1) := by decide +kernel
theorem dX2_parse_1 : decode cX2_parse 1 = .ok (.getfield 16, 3) := by decide +kernel
theorem dX2_parse_4 : decode cX2_parse 4 = .ok (.iconst 0, 1) := by decide +kernel
theorem dX2_parse_5 : decode cX2_parse 5 = .ok (.iconst 0, 1) := by decide +kernel
theorem dX2_parse_6 : decode cX2_parse 6 = .ok (.iastore, 1) := by decide +kernel
theorem dX2_parse_7 : decode cX2_parse 7 = .ok (.aload_n 0, 1) := by decide +kernel
theorem dX2_parse_8 : decode cX2_parse 8 = .ok (.getfield 19, 3) := by decide +kernel
theorem dX2_parse_11 : decode cX2_parse 11 = .ok (.iconst 0, 1) := by decide +kernel
theorem dX2_parse_12 : decode cX2_parse 12 = .ok (.iconst 0, 1) := by decide +kernel
theorem dX2_parse_13 : decode cX2_parse 13 = .ok (.iastore, 1) := by decide +kernel
theorem dX2_parse_14 : decode cX2_parse 14 = .ok (.aload_n 0, 1) := by decide +kernel
theorem dX2_parse_15 : decode cX2_parse 15 = .ok (.invokevirtual 83, 3) := by decide +kernel
theorem dX2_parse_18 : decode cX2_parse 18 = .ok (.ifCond .ne 5, 3) := by decide +kernel
theorem dX2_parse_21 : decode cX2_parse 21 = .ok (.iconst 0, 1) := by decide +kernel
theorem dX2_parse_22 : decode cX2_parse 22 = .ok (.ireturn, 1) := by decide +kernel
theorem dX2_parse_23 : decode cX2_parse 23 = .ok (.aload_n 0, 1) := by decide +kernel
theorem dX2_parse_24 : decode cX2_parse 24 = .ok (.invokevirtual 83, 3) := by decide +kernel
theorem dX2_parse_27 : decode cX2_parse 27 = .ok (.ifCond .eq 33, 3) := by decide +kernel
theorem dX2_parse_30 : decode cX2_parse 30 = .ok (.aload_n 0, 1) := by decide +kernel
theorem dX2_parse_31 : decode cX2_parse 31 = .ok (.iconst 0, 1) := by decide +kernel
theorem dX2_parse_32 : decode cX2_parse 32 = .ok (.aload_n 0, 1) := by decide +kernel
theorem dX2_parse_33 : decode cX2_parse 33 = .ok (.getfield 7, 3) := by decide +kernel
theorem dX2_parse_36 : decode cX2_parse 36 = .ok (.aload_n 0, 1) := by decide +kernel
theorem dX2_parse_37 : decode cX2_parse 37 = .ok (.getfield 80, 3) := by decide +kernel
theorem dX2_parse_40 : decode cX2_parse 40 = .ok (.iaload, 1) := by decide +kernel
theorem dX2_parse_41 : decode cX2_parse 41 = .ok (.bipush 48, 2) := by decide +kernel
theorem dX2_parse_43 : decode cX2_parse 43 = .ok (.isub, 1) := by decide +kernel
theorem dX2_parse_44 : decode cX2_parse 44 = .ok (.invokevirtual 56, 3) := by decide +kernel
theorem dX2_parse_47 : decode cX2_parse 47 = .ok (.aload_n 0, 1) := by decide +kernel
theorem dX2_parse_48 : decode cX2_parse 48 = .ok (.dup, 1) := by decide +kernel
theorem dX2_parse_49 : decode cX2_parse 49 = .ok (.getfield 80, 3) := by decide +kernel
theorem dX2_parse_52 : decode cX2_parse 52 = .ok (.iconst 1, 1) := by decide +kernel
theorem dX2_parse_53 : decode cX2_parse 53 = .ok (.iadd, 1) := by decide +kernel
theorem dX2_parse_54 : decode cX2_parse 54 = .ok (.putfield 80, 3) := by decide +kernel
theorem dX2_parse_57 : decode cX2_parse 57 = .ok (.goto (-34), 3) := by decide +kernel
theorem dX2_parse_60 : decode cX2_parse 60 = .ok (.aload_n 0, 1) := by decide +kernel
theorem dX2_parse_61 : decode cX2_parse 61 = .ok (.getfield 19, 3) := by decide +kernel
theorem dX2_parse_64 : decode cX2_parse 64 = .ok (.iconst 0, 1) := by decide +kernel
theorem dX2_parse_65 : decode cX2_parse 65 = .ok (.aload_n 0, 1) := by decide +kernel
theorem dX2_parse_66 : decode cX2_parse 66 = .ok (.getfield 16, 3) := by decide +kernel
theorem dX2_parse_69 : decode cX2_parse 69 = .ok (.iconst 0, 1) := by decide +kernel
theorem dX2_parse_70 : decode cX2_parse 70 = .ok (.iaload, 1) := by decide +kernel
theorem dX2_parse_71 : decode cX2_parse 71 = .ok (.iastore, 1) := by decide +kernel
theorem dX2_parse_72 : decode cX2_parse 72 = .ok (.aload_n 0, 1) := by decide +kernel
theorem dX2_parse_73 : decode cX2_parse 73 = .ok (.bipush 46, 2) := by decide +kernel
theorem dX2_parse_75 : decode cX2_parse 75 = .ok (.invokevirtual 87, 3) := by decide +kernel
theorem dX2_parse_78 : decode cX2_parse 78 = .ok (.ifCond .eq 59, 3) := by decide +kernel
theorem dX2_parse_81 : decode cX2_parse 81 = .ok (.aload_n 0, 1) := by decide +kernel
theorem dX2_parse_82 : decode cX2_parse 82 = .ok (.dup, 1) := by decide +kernel
theorem dX2_parse_83 : decode cX2_parse 83 = .ok (.getfield 80, 3) := by decide +kernel
theorem dX2_parse_86 : decode cX2_parse 86 = .ok (.iconst 1, 1) := by decide +kernel
theorem dX2_parse_87 : decode cX2_parse 87 = .ok (.iadd, 1) := by decide +kernel
theorem dX2_parse_88 : decode cX2_parse 88 = .ok (.putfield 80, 3) := by decide +kernel
theorem dX2_parse_91 : decode cX2_parse 91 = .ok (.aload_n 0, 1) := by decide +kernel
theorem dX2_parse_92 : decode cX2_parse 92 = .ok (.invokevirtual 83, 3) := by decide +kernel
theorem dX2_parse_95 : decode cX2_parse 95 = .ok (.ifCond .ne 5, 3) := by decide +kernel
theorem dX2_parse_98 : decode cX2_parse 98 = .ok (.iconst 0, 1) := by decide +kernel
theorem dX2_parse_99 : decode cX2_parse 99 = .ok (.ireturn, 1) := by decide +kernel
theorem dX2_parse_100 : decode cX2_parse 100 = .ok (.aload_n 0, 1) := by decide +kernel
theorem dX2_parse_101 : decode cX2_parse 101 = .ok (.invokevirtual 83, 3) := by decide +kernel
theorem dX2_parse_104 : decode cX2_parse 104 = .ok (.ifCond .eq 33, 3) := by decide +kernel
theorem dX2_parse_107 : decode cX2_parse 107 = .ok (.aload_n 0, 1) := by decide +kernel
theorem dX2_parse_108 : decode cX2_parse 108 = .ok (.iconst 0, 1) := by decide +kernel
theorem dX2_parse_109 : decode cX2_parse 109 = .ok (.aload_n 0, 1) := by decide +kernel
theorem dX2_parse_110 : decode cX2_parse 110 = .ok (.getfield 7, 3) := by decide +kernel
theorem dX2_parse_113 : decode cX2_parse 113 = .ok (.aload_n 0, 1) := by decide +kernel
theorem dX2_parse_114 : decode cX2_parse 114 = .ok (.getfield 80, 3) := by decide +kernel
theorem dX2_parse_117 : decode cX2_parse 117 = .ok (.iaload, 1) := by decide +kernel
theorem dX2_parse_118 : decode cX2_parse 118 = .ok (.bipush 48, 2) := by decide +kernel
theorem dX2_parse_120 : decode cX2_parse 120 = .ok (.isub, 1) := by decide +kernel
theorem dX2_parse_121 : decode cX2_parse 121 = .ok (.invokevirtual 56, 3) := by decide +kernel
theorem dX2_parse_124 : decode cX2_parse 124 = .ok (.aload_n 0, 1) := by decide +kernel
theorem dX2_parse_125 : decode cX2_parse 125 = .ok (.dup, 1) := by decide +kernel
theorem dX2_parse_126 : decode cX2_parse 126 = .ok (.getfield 80, 3) := by decide +kernel
theorem dX2_parse_129 : decode cX2_parse 129 = .ok (.iconst 1, 1) := by decide +kernel
theorem dX2_parse_130 : decode cX2_parse 130 = .ok (.iadd, 1) := by decide +kernel
theorem dX2_parse_131 : decode cX2_parse 131 = .ok (.putfield 80, 3) := by decide +kernel
theorem dX2_parse_134 : decode cX2_parse 134 = .ok (.goto (-34), 3) := by decide +kernel
theorem dX2_parse_137 : decode cX2_parse 137 = .ok (.aload_n 0, 1) := by decide +kernel
theorem dX2_parse_138 : decode cX2_parse 138 = .ok (.bipush 101, 2) := by decide +kernel
theorem dX2_parse_140 : decode cX2_parse 140 = .ok (.invokevirtual 87, 3) := by decide +kernel
theorem dX2_parse_143 : decode cX2_parse 143 = .ok (.ifCond .eq 118, 3) := by decide +kernel
theorem dX2_parse_146 : decode cX2_parse 146 = .ok (.aload_n 0, 1) := by decide +kernel
theorem dX2_parse_147 : decode cX2_parse 147 = .ok (.dup, 1) := by decide +kernel
theorem dX2_parse_148 : decode cX2_parse 148 = .ok (.getfield 80, 3) := by decide +kernel
theorem dX2_parse_151 : decode cX2_parse 151 = .ok (.iconst 1, 1) := by decide +kernel
theorem dX2_parse_152 : decode cX2_parse 152 = .ok (.iadd, 1) := by decide +kernel
theorem dX2_parse_153 : decode cX2_parse 153 = .ok (.putfield 80, 3) := by decide +kernel
theorem dX2_parse_156 : decode cX2_parse 156 = .ok (.aload_n 0, 1) := by decide +kernel
theorem dX2_parse_157 : decode cX2_parse 157 = .ok (.bipush 45, 2) := by decide +kernel
theorem dX2_parse_159 : decode cX2_parse 159 = .ok (.invokevirtual 87, 3) := by decide +kernel
theorem dX2_parse_162 : decode cX2_parse 162 = .ok (.istore_n 1, 1) := by decide +kernel
theorem dX2_parse_163 : decode cX2_parse 163 = .ok (.iload_n 1, 1) := by decide +kernel
theorem dX2_parse_164 : decode cX2_parse 164 = .ok (.ifCond .eq 13, 3) := by decide +kernel
theorem dX2_parse_167 : decode cX2_parse 167 = .ok (.aload_n 0, 1) := by decide +kernel
theorem dX2_parse_168 : decode cX2_parse 168 = .ok (.dup, 1) := by decide +kernel
theorem dX2_parse_169 : decode cX2_parse 169 = .ok (.getfield 80, 3) := by decide +kernel
theorem dX2_parse_172 : decode cX2_parse 172 = .ok (.iconst 1, 1) := by decide +kernel
theorem dX2_parse_173 : decode cX2_parse 173 = .ok (.iadd, 1) := by decide +kernel
theorem dX2_parse_174 : decode cX2_parse 174 = .ok (.putfield 80, 3) := by decide +kernel
theorem dX2_parse_177 : decode cX2_parse 177 = .ok (.aload_n 0, 1) := by decide +kernel
theorem dX2_parse_178 : decode cX2_parse 178 = .ok (.getfield 80, 3) := by decide +kernel
theorem dX2_parse_181 : decode cX2_parse 181 = .ok (.istore_n 2, 1) := by decide +kernel
theorem dX2_parse_182 : decode cX2_parse 182 = .ok (.iconst 0, 1) := by decide +kernel
theorem dX2_parse_183 : decode cX2_parse 183 = .ok (.istore_n 3, 1) := by decide +kernel
theorem dX2_parse_184 : decode cX2_parse 184 = .ok (.aload_n 0, 1) := by decide +kernel
theorem dX2_parse_185 : decode cX2_parse 185 = .ok (.invokevirtual 83, 3) := by decide +kernel
theorem dX2_parse_188 : decode cX2_parse 188 = .ok (.ifCond .eq 44, 3) := by decide +kernel
theorem dX2_parse_191 : decode cX2_parse 191 = .ok (.aload_n 0, 1) := by decide +kernel
theorem dX2_parse_192 : decode cX2_parse 192 = .ok (.getfield 80, 3) := by decide +kernel
theorem dX2_parse_195 : decode cX2_parse 195 = .ok (.iload_n 2, 1) := by decide +kernel
theorem dX2_parse_196 : decode cX2_parse 196 = .ok (.isub, 1) := by decide +kernel
theorem dX2_parse_197 : decode cX2_parse 197 = .ok (.iconst 4, 1) := by decide +kernel
theorem dX2_parse_198 : decode cX2_parse 198 = .ok (.if_icmp .ge 34, 3) := by decide +kernel
theorem dX2_parse_201 : decode cX2_parse 201 = .ok (.bipush 10, 2) := by decide +kernel
theorem dX2_parse_203 : decode cX2_parse 203 = .ok (.iload_n 3, 1) := by decide +kernel
theorem dX2_parse_204 : decode cX2_parse 204 = .ok (.imul, 1) := by decide +kernel
theorem dX2_parse_205 : decode cX2_parse 205 = .ok (.aload_n 0, 1) := by decide +kernel
theorem dX2_parse_206 : decode cX2_parse 206 = .ok (.getfield 7, 3) := by decide +kernel
theorem dX2_parse_209 : decode cX2_parse 209 = .ok (.aload_n 0, 1) := by decide +kernel
theorem dX2_parse_210 : decode cX2_parse 210 = .ok (.getfield 80, 3) := by decide +kernel
theorem dX2_parse_213 : decode cX2_parse 213 = .ok (.iaload, 1) := by decide +kernel
theorem dX2_parse_214 : decode cX2_parse 214 = .ok (.iadd, 1) := by decide +kernel
theorem dX2_parse_215 : decode cX2_parse 215 = .ok (.bipush 48, 2) := by decide +kernel
theorem dX2_parse_217 : decode cX2_parse 217 = .ok (.isub, 1) := by decide +kernel
theorem dX2_parse_218 : decode cX2_parse 218 = .ok (.istore_n 3, 1) := by decide +kernel
theorem dX2_parse_219 : decode cX2_parse 219 = .ok (.aload_n 0, 1) := by decide +kernel
theorem dX2_parse_220 : decode cX2_parse 220 = .ok (.dup, 1) := by decide +kernel
theorem dX2_parse_221 : decode cX2_parse 221 = .ok (.getfield 80, 3) := by decide +kernel
theorem dX2_parse_224 : decode cX2_parse 224 = .ok (.iconst 1, 1) := by decide +kernel
theorem dX2_parse_225 : decode cX2_parse 225 = .ok (.iadd, 1) := by decide +kernel
theorem dX2_parse_226 : decode cX2_parse 226 = .ok (.putfield 80, 3) := by decide +kernel
theorem dX2_parse_229 : decode cX2_parse 229 = .ok (.goto (-45), 3) := by decide +kernel
theorem dX2_parse_232 : decode cX2_parse 232 = .ok (.aload_n 0, 1) := by decide +kernel
theorem dX2_parse_233 : decode cX2_parse 233 = .ok (.getfield 80, 3) := by decide +kernel
theorem dX2_parse_236 : decode cX2_parse 236 = .ok (.iload_n 2, 1) := by decide +kernel
theorem dX2_parse_237 : decode cX2_parse 237 = .ok (.if_icmp .ne 5, 3) := by decide +kernel
theorem dX2_parse_240 : decode cX2_parse 240 = .ok (.iconst 0, 1) := by decide +kernel
theorem dX2_parse_241 : decode cX2_parse 241 = .ok (.ireturn, 1) := by decide +kernel
theorem dX2_parse_242 : decode cX2_parse 242 = .ok (.aload_n 0, 1) := by decide +kernel
theorem dX2_parse_243 : decode cX2_parse 243 = .ok (.getfield 19, 3) := by decide +kernel
theorem dX2_parse_246 : decode cX2_parse 246 = .ok (.iconst 0, 1) := by decide +kernel
theorem dX2_parse_247 : decode cX2_parse 247 = .ok (.dup2, 1) := by decide +kernel
theorem dX2_parse_248 : decode cX2_parse 248 = .ok (.iaload, 1) := by decide +kernel
theorem dX2_parse_249 : decode cX2_parse 249 = .ok (.iload_n 1, 1) := by decide +kernel
theorem dX2_parse_250 : decode cX2_parse 250 = .ok (.ifCond .eq 8, 3) := by decide +kernel
theorem dX2_parse_253 : decode cX2_parse 253 = .ok (.iload_n 3, 1) := by decide +kernel
theorem dX2_parse_254 : decode cX2_parse 254 = .ok (.ineg, 1) := by decide +kernel
theorem dX2_parse_255 : decode cX2_parse 255 = .ok (.goto 4, 3) := by decide +kernel
theorem dX2_parse_258 : decode cX2_parse 258 = .ok (.iload_n 3, 1) := by decide +kernel
theorem dX2_parse_259 : decode cX2_parse 259 = .ok (.iadd, 1) := by decide +kernel
theorem dX2_parse_260 : decode cX2_parse 260 = .ok (.iastore, 1) := by decide +kernel
theorem dX2_parse_261 : decode cX2_parse 261 = .ok (.aload_n 0, 1) := by decide +kernel
theorem dX2_parse_262 : decode cX2_parse 262 = .ok (.iconst 0, 1) := by decide +kernel
theorem dX2_parse_263 : decode cX2_parse 263 = .ok (.invokevirtual 60, 3) := by decide +kernel
theorem dX2_parse_266 : decode cX2_parse 266 = .ok (.aload_n 0, 1) := by decide +kernel
theorem dX2_parse_267 : decode cX2_parse 267 = .ok (.getfield 80, 3) := by decide +kernel
theorem dX2_parse_270 : decode cX2_parse 270 = .ok (.aload_n 0, 1) := by decide +kernel
theorem dX2_parse_271 : decode cX2_parse 271 = .ok (.getfield 30, 3) := by decide +kernel
theorem dX2_parse_274 : decode cX2_parse 274 = .ok (.if_icmp .ne 7, 3) := by decide +kernel
theorem dX2_parse_277 : decode cX2_parse 277 = .ok (.iconst 1, 1) := by decide +kernel
theorem dX2_parse_278 : decode cX2_parse 278 = .ok (.goto 4, 3) := by decide +kernel
theorem dX2_parse_281 : decode cX2_parse 281 = .ok (.iconst 0, 1) := by decide +kernel
theorem dX2_parse_282 : decode cX2_parse 282 = .ok (.ireturn, 1) := by decide +kernel
theorem dX2_nearest_0 : decode cX2_nearest 0 = .ok (.aload_n 0, 1) := by decide +kernel
theorem dX2_nearest_1 : decode cX2_nearest 1 = .ok (.getfield 16, 3) := by decide +kernel
theorem dX2_nearest_4 : decode cX2_nearest 4 = .ok (.iconst 0, 1) := by decide +kernel
theorem dX2_nearest_5 : decode cX2_nearest 5 = .ok (.iaload, 1) := by decide +kernel
theorem dX2_nearest_6 : decode cX2_nearest 6 = .ok (.ifCond .eq 15, 3) := by decide +kernel
theorem dX2_nearest_9 : decode cX2_nearest 9 = .ok (.aload_n 0, 1) := by decide +kernel
theorem dX2_nearest_10 : decode cX2_nearest 10 = .ok (.getfield 19, 3) := by decide +kernel
theorem dX2_nearest_13 : decode cX2_nearest 13 = .ok (.iconst 0, 1) := by decide +kernel
theorem dX2_nearest_14 : decode cX2_nearest 14 = .ok (.iaload, 1) := by decide +kernel
theorem dX2_nearest_15 : decode cX2_nearest 15 = .ok (.sipush (-400), 3) := by decide +kernel
theorem dX2_nearest_18 : decode cX2_nearest 18 = .ok (.if_icmp .ge 5, 3) := by decide +kernel
theorem dX2_nearest_21 : decode cX2_nearest 21 = .ok (.lconst 0, 1) := by decide +kernel
theorem dX2_nearest_22 : decode cX2_nearest 22 = .ok (.lreturn, 1) := by decide +kernel
theorem dX2_nearest_23 : decode cX2_nearest 23 = .ok (.aload_n 0, 1) := by decide +kernel
theorem dX2_nearest_24 : decode cX2_nearest 24 = .ok (.getfield 19, 3) := by decide +kernel
theorem dX2_nearest_27 : decode cX2_nearest 27 = .ok (.iconst 0, 1) := by decide +kernel
theorem dX2_nearest_28 : decode cX2_nearest 28 = .ok (.iaload, 1) := by decide +kernel
theorem dX2_nearest_29 : decode cX2_nearest 29 = .ok (.sipush 400, 3) := by decide +kernel
theorem dX2_nearest_32 : decode cX2_nearest 32 = .ok (.if_icmp .le 7, 3) := by decide +kernel
theorem dX2_nearest_35 : decode cX2_nearest 35 = .ok (.ldc2_w 91, 3) := by decide +kernel
theorem dX2_nearest_38 : decode cX2_nearest 38 = .ok (.lreturn, 1) := by decide +kernel
theorem dX2_nearest_39 : decode cX2_nearest 39 = .ok (.lconst 0, 1) := by decide +kernel
theorem dX2_nearest_40 : decode cX2_nearest 40 = .ok (.lstore_n 1, 1) := by decide +kernel
theorem dX2_nearest_41 : decode cX2_nearest 41 = .ok (.ldc2_w 93, 3) := by decide +kernel
theorem dX2_nearest_44 : decode cX2_nearest 44 = .ok (.lstore_n 3, 1) := by decide +kernel
theorem dX2_nearest_45 : decode cX2_nearest 45 = .ok (.lload_n 1, 1) := by decide +kernel
theorem dX2_nearest_46 : decode cX2_nearest 46 = .ok (.lload_n 3, 1) := by decide +kernel
theorem dX2_nearest_47 : decode cX2_nearest 47 = .ok (.lcmp, 1) := by decide +kernel
theorem dX2_nearest_48 : decode cX2_nearest 48 = .ok (.ifCond .ge 50, 3) := by decide +kernel
theorem dX2_nearest_51 : decode cX2_nearest 51 = .ok (.lload_n 1, 1) := by decide +kernel
theorem dX2_nearest_52 : decode cX2_nearest 52 = .ok (.lload_n 3, 1) := by decide +kernel
theorem dX2_nearest_53 : decode cX2_nearest 53 = .ok (.lload_n 1, 1) := by decide +kernel
theorem dX2_nearest_54 : decode cX2_nearest 54 = .ok (.lsub, 1) := by decide +kernel
theorem dX2_nearest_55 : decode cX2_nearest 55 = .ok (.lconst 1, 1) := by decide +kernel
theorem dX2_nearest_56 : decode cX2_nearest 56 = .ok (.ladd, 1) := by decide +kernel
theorem dX2_nearest_57 : decode cX2_nearest 57 = .ok (.ldc2_w 95, 3) := by decide +kernel
theorem dX2_nearest_60 : decode cX2_nearest 60 = .ok (.ldiv, 1) := by decide +kernel
theorem dX2_nearest_61 : decode cX2_nearest 61 = .ok (.ladd, 1) := by decide +kernel
theorem dX2_nearest_62 : decode cX2_nearest 62 = .ok (.lstore 5, 2) := by decide +kernel
theorem dX2_nearest_64 : decode cX2_nearest 64 = .ok (.aload_n 0, 1) := by decide +kernel
theorem dX2_nearest_65 : decode cX2_nearest 65 = .ok (.lload 5, 2) := by decide +kernel
theorem dX2_nearest_67 : decode cX2_nearest 67 = .ok (.sipush 1400, 3) := by decide +kernel
theorem dX2_nearest_70 : decode cX2_nearest 70 = .ok (.invokevirtual 97, 3) := by decide +kernel
theorem dX2_nearest_73 : decode cX2_nearest 73 = .ok (.aload_n 0, 1) := by decide +kernel
theorem dX2_nearest_74 : decode cX2_nearest 74 = .ok (.iconst 0, 1) := by decide +kernel
theorem dX2_nearest_75 : decode cX2_nearest 75 = .ok (.sipush 1400, 3) := by decide +kernel
theorem dX2_nearest_78 : decode cX2_nearest 78 = .ok (.invokevirtual 101, 3) := by decide +kernel
theorem dX2_nearest_81 : decode cX2_nearest 81 = .ok (.ifCond .lt 9, 3) := by decide +kernel
theorem dX2_nearest_84 : decode cX2_nearest 84 = .ok (.lload 5, 2) := by decide +kernel
theorem dX2_nearest_86 : decode cX2_nearest 86 = .ok (.lstore_n 1, 1) := by decide +kernel
theorem dX2_nearest_87 : decode cX2_nearest 87 = .ok (.goto 8, 3) := by decide +kernel
theorem dX2_nearest_90 : decode cX2_nearest 90 = .ok (.lload 5, 2) := by decide +kernel
theorem dX2_nearest_92 : decode cX2_nearest 92 = .ok (.lconst 1, 1) := by decide +kernel
theorem dX2_nearest_93 : decode cX2_nearest 93 = .ok (.lsub, 1) := by decide +kernel
theorem dX2_nearest_94 : decode cX2_nearest 94 = .ok (.lstore_n 3, 1) := by decide +kernel
theorem dX2_nearest_95 : decode cX2_nearest 95 = .ok (.goto (-50), 3) := by decide +kernel
theorem dX2_nearest_98 : decode cX2_nearest 98 = .ok (.aload_n 0, 1) := by decide +kernel
theorem dX2_nearest_99 : decode cX2_nearest 99 = .ok (.ldc2_w 95, 3) := by decide +kernel
theorem dX2_nearest_102 : decode cX2_nearest 102 = .ok (.lload_n 1, 1) := by decide +kernel
theorem dX2_nearest_103 : decode cX2_nearest 103 = .ok (.invokestatic 68, 3) := by decide +kernel
theorem dX2_nearest_106 : decode cX2_nearest 106 = .ok (.lmul, 1) := by decide +kernel
theorem dX2_nearest_107 : decode cX2_nearest 107 = .ok (.lconst 1, 1) := by decide +kernel
theorem dX2_nearest_108 : decode cX2_nearest 108 = .ok (.ladd, 1) := by decide +kernel
theorem dX2_nearest_109 : decode cX2_nearest 109 = .ok (.lload_n 1, 1) := by decide +kernel
theorem dX2_nearest_110 : decode cX2_nearest 110 = .ok (.invokestatic 72, 3) := by decide +kernel
theorem dX2_nearest_113 : decode cX2_nearest 113 = .ok (.iconst 1, 1) := by decide +kernel
theorem dX2_nearest_114 : decode cX2_nearest 114 = .ok (.isub, 1) := by decide +kernel
theorem dX2_nearest_115 : decode cX2_nearest 115 = .ok (.sipush 5600, 3) := by decide +kernel
theorem dX2_nearest_118 : decode cX2_nearest 118 = .ok (.invokevirtual 76, 3) := by decide +kernel
theorem dX2_nearest_121 : decode cX2_nearest 121 = .ok (.aload_n 0, 1) := by decide +kernel
theorem dX2_nearest_122 : decode cX2_nearest 122 = .ok (.iconst 0, 1) := by decide +kernel
theorem dX2_nearest_123 : decode cX2_nearest 123 = .ok (.sipush 5600, 3) := by decide +kernel
theorem dX2_nearest_126 : decode cX2_nearest 126 = .ok (.invokevirtual 101, 3) := by decide +kernel
theorem dX2_nearest_129 : decode cX2_nearest 129 = .ok (.istore 5, 2) := by decide +kernel
theorem dX2_nearest_131 : decode cX2_nearest 131 = .ok (.iload 5, 2) := by decide +kernel
theorem dX2_nearest_133 : decode cX2_nearest 133 = .ok (.ifCond .lt 18, 3) := by decide +kernel
theorem dX2_nearest_136 : decode cX2_nearest 136 = .ok (.iload 5, 2) := by decide +kernel
theorem dX2_nearest_138 : decode cX2_nearest 138 = .ok (.ifCond .ne 17, 3) := by decide +kernel
theorem dX2_nearest_141 : decode cX2_nearest 141 = .ok (.lload_n 1, 1) := by decide +kernel
theorem dX2_nearest_142 : decode cX2_nearest 142 = .ok (.ldc2_w 95, 3) := by decide +kernel
theorem dX2_nearest_145 : decode cX2_nearest 145 = .ok (.lrem, 1) := by decide +kernel
theorem dX2_nearest_146 : decode cX2_nearest 146 = .ok (.lconst 0, 1) := by decide +kernel
theorem dX2_nearest_147 : decode cX2_nearest 147 = .ok (.lcmp, 1) := by decide +kernel
theorem dX2_nearest_148 : decode cX2_nearest 148 = .ok (.ifCond .ne 7, 3) := by decide +kernel
theorem dX2_nearest_151 : decode cX2_nearest 151 = .ok (.lload_n 1, 1) := by decide +kernel
theorem dX2_nearest_152 : decode cX2_nearest 152 = .ok (.goto 6, 3) := by decide +kernel
theorem dX2_nearest_155 : decode cX2_nearest 155 = .ok (.lload_n 1, 1) := by decide +kernel
theorem dX2_nearest_156 : decode cX2_nearest 156 = .ok (.lconst 1, 1) := by decide +kernel
theorem dX2_nearest_157 : decode cX2_nearest 157 = .ok (.ladd, 1) := by decide +kernel
theorem dX2_nearest_158 : decode cX2_nearest 158 = .ok (.lreturn, 1) := by decide +kernel
theorem dX2_read_0 : decode cX2_read 0 = .ok (.aload_n 0, 1) := by decide +kernel
theorem dX2_read_1 : decode cX2_read 1 = .ok (.iconst 0, 1) := by decide +kernel
theorem dX2_read_2 : decode cX2_read 2 = .ok (.putfield 80, 3) := by decide +kernel
theorem dX2_read_5 : decode cX2_read 5 = .ok (.aload_n 0, 1) := by decide +kernel
theorem dX2_read_6 : decode cX2_read 6 = .ok (.bipush 45, 2) := by decide +kernel
theorem dX2_read_8 : decode cX2_read 8 = .ok (.invokevirtual 87, 3) := by decide +kernel
theorem dX2_read_11 : decode cX2_read 11 = .ok (.istore_n 1, 1) := by decide +kernel
theorem dX2_read_12 : decode cX2_read 12 = .ok (.iload_n 1, 1) := by decide +kernel
theorem dX2_read_13 : decode cX2_read 13 = .ok (.ifCond .eq 13, 3) := by decide +kernel
theorem dX2_read_16 : decode cX2_read 16 = .ok (.aload_n 0, 1) := by decide +kernel
theorem dX2_read_17 : decode cX2_read 17 = .ok (.dup, 1) := by decide +kernel
theorem dX2_read_18 : decode cX2_read 18 = .ok (.getfield 80, 3) := by decide +kernel
theorem dX2_read_21 : decode cX2_read 21 = .ok (.iconst 1, 1) := by decide +kernel
theorem dX2_read_22 : decode cX2_read 22 = .ok (.iadd, 1) := by decide +kernel
theorem dX2_read_23 : decode cX2_read 23 = .ok (.putfield 80, 3) := by decide +kernel
theorem dX2_read_26 : decode cX2_read 26 = .ok (.aload_n 0, 1) := by decide +kernel
theorem dX2_read_27 : decode cX2_read 27 = .ok (.aload_n 0, 1) := by decide +kernel
theorem dX2_read_28 : decode cX2_read 28 = .ok (.invokevirtual 104, 3) := by decide +kernel
theorem dX2_read_31 : decode cX2_read 31 = .ok (.ifCond .eq 7, 3) := by decide +kernel
theorem dX2_read_34 : decode cX2_read 34 = .ok (.iconst 0, 1) := by decide +kernel
theorem dX2_read_35 : decode cX2_read 35 = .ok (.goto 4, 3) := by decide +kernel
theorem dX2_read_38 : decode cX2_read 38 = .ok (.iconst 1, 1) := by decide +kernel
theorem dX2_read_39 : decode cX2_read 39 = .ok (.putfield 26, 3) := by decide +kernel
theorem dX2_read_42 : decode cX2_read 42 = .ok (.aload_n 0, 1) := by decide +kernel
theorem dX2_read_43 : decode cX2_read 43 = .ok (.getfield 26, 3) := by decide +kernel
theorem dX2_read_46 : decode cX2_read 46 = .ok (.ifCond .eq 5, 3) := by decide +kernel
theorem dX2_read_49 : decode cX2_read 49 = .ok (.lconst 0, 1) := by decide +kernel
theorem dX2_read_50 : decode cX2_read 50 = .ok (.lreturn, 1) := by decide +kernel
theorem dX2_read_51 : decode cX2_read 51 = .ok (.aload_n 0, 1) := by decide +kernel
theorem dX2_read_52 : decode cX2_read 52 = .ok (.invokevirtual 107, 3) := by decide +kernel
theorem dX2_read_55 : decode cX2_read 55 = .ok (.iload_n 1, 1) := by decide +kernel
theorem dX2_read_56 : decode cX2_read 56 = .ok (.ifCond .eq 9, 3) := by decide +kernel
theorem dX2_read_59 : decode cX2_read 59 = .ok (.ldc2_w 111, 3) := by decide +kernel
theorem dX2_read_62 : decode cX2_read 62 = .ok (.goto 4, 3) := by decide +kernel
theorem dX2_read_65 : decode cX2_read 65 = .ok (.lconst 0, 1) := by decide +kernel
theorem dX2_read_66 : decode cX2_read 66 = .ok (.lor, 1) := by decide +kernel
theorem dX2_read_67 : decode cX2_read 67 = .ok (.lreturn, 1) := by decide +kernel
theorem dX2_put_0 : decode cX2_put 0 = .ok (.aload_n 0, 1) := by decide +kernel
theorem dX2_put_1 : decode cX2_put 1 = .ok (.getfield 7, 3) := by decide +kernel
theorem dX2_put_4 : decode cX2_put 4 = .ok (.aload_n 0, 1) := by decide +kernel
theorem dX2_put_5 : decode cX2_put 5 = .ok (.getfield 30, 3) := by decide +kernel
theorem dX2_put_8 : decode cX2_put 8 = .ok (.iload_n 1, 1) := by decide +kernel
theorem dX2_put_9 : decode cX2_put 9 = .ok (.iastore, 1) := by decide +kernel
theorem dX2_put_10 : decode cX2_put 10 = .ok (.aload_n 0, 1) := by decide +kernel
theorem dX2_put_11 : decode cX2_put 11 = .ok (.dup, 1) := by decide +kernel
theorem dX2_put_12 : decode cX2_put 12 = .ok (.getfield 30, 3) := by decide +kernel
theorem dX2_put_15 : decode cX2_put 15 = .ok (.iconst 1, 1) := by decide +kernel
theorem dX2_put_16 : decode cX2_put 16 = .ok (.iadd, 1) := by decide +kernel
theorem dX2_put_17 : decode cX2_put 17 = .ok (.putfield 30, 3) := by decide +kernel
theorem dX2_put_20 : decode cX2_put 20 = .ok (.return_, 1) := by decide +kernel
theorem dX2_begins_0 : decode cX2_begins 0 = .ok (.lload_n 1, 1) := by decide +kernel
theorem dX2_begins_1 : decode cX2_begins 1 = .ok (.ldc2_w 91, 3) := by decide +kernel
theorem dX2_begins_4 : decode cX2_begins 4 = .ok (.land, 1) := by decide +kernel
theorem dX2_begins_5 : decode cX2_begins 5 = .ok (.ldc2_w 91, 3) := by decide +kernel
theorem dX2_begins_8 : decode cX2_begins 8 = .ok (.lcmp, 1) := by decide +kernel
theorem dX2_begins_9 : decode cX2_begins 9 = .ok (.ifCond .ne 5, 3) := by decide +kernel
theorem dX2_begins_12 : decode cX2_begins 12 = .ok (.iconst 0, 1) := by decide +kernel
theorem dX2_begins_13 : decode cX2_begins 13 = .ok (.ireturn, 1) := by decide +kernel
theorem dX2_begins_14 : decode cX2_begins 14 = .ok (.aload_n 0, 1) := by decide +kernel
theorem dX2_begins_15 : decode cX2_begins 15 = .ok (.iconst 0, 1) := by decide +kernel
theorem dX2_begins_16 : decode cX2_begins 16 = .ok (.putfield 30, 3) := by decide +kernel
theorem dX2_begins_19 : decode cX2_begins 19 = .ok (.lload_n 1, 1) := by decide +kernel
theorem dX2_begins_20 : decode cX2_begins 20 = .ok (.lconst 0, 1) := by decide +kernel
theorem dX2_begins_21 : decode cX2_begins 21 = .ok (.lcmp, 1) := by decide +kernel
theorem dX2_begins_22 : decode cX2_begins 22 = .ok (.ifCond .ge 9, 3) := by decide +kernel
theorem dX2_begins_25 : decode cX2_begins 25 = .ok (.aload_n 0, 1) := by decide +kernel
theorem dX2_begins_26 : decode cX2_begins 26 = .ok (.bipush 45, 2) := by decide +kernel
theorem dX2_begins_28 : decode cX2_begins 28 = .ok (.invokevirtual 113, 3) := by decide +kernel
theorem dX2_begins_31 : decode cX2_begins 31 = .ok (.iconst 1, 1) := by decide +kernel
theorem dX2_begins_32 : decode cX2_begins 32 = .ok (.ireturn, 1) := by decide +kernel
theorem dX2_print_0 : decode cX2_print 0 = .ok (.aload_n 0, 1) := by decide +kernel
theorem dX2_print_1 : decode cX2_print 1 = .ok (.iload_n 3, 1) := by decide +kernel
theorem dX2_print_2 : decode cX2_print 2 = .ok (.ifCond .lt 9, 3) := by decide +kernel
theorem dX2_print_5 : decode cX2_print 5 = .ok (.iload_n 3, 1) := by decide +kernel
theorem dX2_print_6 : decode cX2_print 6 = .ok (.bipush 30, 2) := by decide +kernel
theorem dX2_print_8 : decode cX2_print 8 = .ok (.if_icmp .le 7, 3) := by decide +kernel
theorem dX2_print_11 : decode cX2_print 11 = .ok (.iconst 1, 1) := by decide +kernel
theorem dX2_print_12 : decode cX2_print 12 = .ok (.goto 20, 3) := by decide +kernel
theorem dX2_print_15 : decode cX2_print 15 = .ok (.lload_n 1, 1) := by decide +kernel
theorem dX2_print_16 : decode cX2_print 16 = .ok (.ldc2_w 91, 3) := by decide +kernel
theorem dX2_print_19 : decode cX2_print 19 = .ok (.land, 1) := by decide +kernel
theorem dX2_print_20 : decode cX2_print 20 = .ok (.ldc2_w 91, 3) := by decide +kernel
theorem dX2_print_23 : decode cX2_print 23 = .ok (.lcmp, 1) := by decide +kernel
theorem dX2_print_24 : decode cX2_print 24 = .ok (.ifCond .ne 7, 3) := by decide +kernel
theorem dX2_print_27 : decode cX2_print 27 = .ok (.iconst 2, 1) := by decide +kernel
theorem dX2_print_28 : decode cX2_print 28 = .ok (.goto 4, 3) := by decide +kernel
theorem dX2_print_31 : decode cX2_print 31 = .ok (.iconst 0, 1) := by decide +kernel
theorem dX2_print_32 : decode cX2_print 32 = .ok (.putfield 26, 3) := by decide +kernel
theorem dX2_print_35 : decode cX2_print 35 = .ok (.aload_n 0, 1) := by decide +kernel
theorem dX2_print_36 : decode cX2_print 36 = .ok (.getfield 26, 3) := by decide +kernel
theorem dX2_print_39 : decode cX2_print 39 = .ok (.ifCond .ne 11, 3) := by decide +kernel
theorem dX2_print_42 : decode cX2_print 42 = .ok (.aload_n 0, 1) := by decide +kernel
theorem dX2_print_43 : decode cX2_print 43 = .ok (.lload_n 1, 1) := by decide +kernel
theorem dX2_print_44 : decode cX2_print 44 = .ok (.invokevirtual 116, 3) := by decide +kernel
theorem dX2_print_47 : decode cX2_print 47 = .ok (.ifCond .ne 5, 3) := by decide +kernel
theorem dX2_print_50 : decode cX2_print 50 = .ok (.iconst 0, 1) := by decide +kernel
theorem dX2_print_51 : decode cX2_print 51 = .ok (.ireturn, 1) := by decide +kernel
theorem dX2_print_52 : decode cX2_print 52 = .ok (.aload_n 0, 1) := by decide +kernel
theorem dX2_print_53 : decode cX2_print 53 = .ok (.lload_n 1, 1) := by decide +kernel
theorem dX2_print_54 : decode cX2_print 54 = .ok (.ldc2_w 120, 3) := by decide +kernel
theorem dX2_print_57 : decode cX2_print 57 = .ok (.land, 1) := by decide +kernel
theorem dX2_print_58 : decode cX2_print 58 = .ok (.sipush 1400, 3) := by decide +kernel
theorem dX2_print_61 : decode cX2_print 61 = .ok (.invokevirtual 97, 3) := by decide +kernel
theorem dX2_print_64 : decode cX2_print 64 = .ok (.aload_n 0, 1) := by decide +kernel
theorem dX2_print_65 : decode cX2_print 65 = .ok (.aload_n 0, 1) := by decide +kernel
theorem dX2_print_66 : decode cX2_print 66 = .ok (.getfield 19, 3) := by decide +kernel
theorem dX2_print_69 : decode cX2_print 69 = .ok (.sipush 1400, 3) := by decide +kernel
theorem dX2_print_72 : decode cX2_print 72 = .ok (.iaload, 1) := by decide +kernel
theorem dX2_print_73 : decode cX2_print 73 = .ok (.iload_n 3, 1) := by decide +kernel
theorem dX2_print_74 : decode cX2_print 74 = .ok (.iadd, 1) := by decide +kernel
theorem dX2_print_75 : decode cX2_print 75 = .ok (.invokevirtual 122, 3) := by decide +kernel
theorem dX2_print_78 : decode cX2_print 78 = .ok (.iconst 0, 1) := by decide +kernel
theorem dX2_print_79 : decode cX2_print 79 = .ok (.istore 4, 2) := by decide +kernel
theorem dX2_print_81 : decode cX2_print 81 = .ok (.iload 4, 2) := by decide +kernel
theorem dX2_print_83 : decode cX2_print 83 = .ok (.aload_n 0, 1) := by decide +kernel
theorem dX2_print_84 : decode cX2_print 84 = .ok (.getfield 19, 3) := by decide +kernel
theorem dX2_print_87 : decode cX2_print 87 = .ok (.sipush 2800, 3) := by decide +kernel
theorem dX2_print_90 : decode cX2_print 90 = .ok (.iaload, 1) := by decide +kernel
theorem dX2_print_91 : decode cX2_print 91 = .ok (.if_icmp .ge 25, 3) := by decide +kernel
theorem dX2_print_94 : decode cX2_print 94 = .ok (.aload_n 0, 1) := by decide +kernel
theorem dX2_print_95 : decode cX2_print 95 = .ok (.bipush 48, 2) := by decide +kernel
theorem dX2_print_97 : decode cX2_print 97 = .ok (.aload_n 0, 1) := by decide +kernel
theorem dX2_print_98 : decode cX2_print 98 = .ok (.sipush 2800, 3) := by decide +kernel
theorem dX2_print_101 : decode cX2_print 101 = .ok (.iload 4, 2) := by decide +kernel
theorem dX2_print_103 : decode cX2_print 103 = .ok (.invokevirtual 33, 3) := by decide +kernel
theorem dX2_print_106 : decode cX2_print 106 = .ok (.iadd, 1) := by decide +kernel
theorem dX2_print_107 : decode cX2_print 107 = .ok (.invokevirtual 113, 3) := by decide +kernel
theorem dX2_print_110 : decode cX2_print 110 = .ok (.iinc 4 1, 3) := by decide +kernel
theorem dX2_print_113 : decode cX2_print 113 = .ok (.goto (-32), 3) := by decide +kernel
theorem dX2_print_116 : decode cX2_print 116 = .ok (.aload_n 0, 1) := by decide +kernel
theorem dX2_print_117 : decode cX2_print 117 = .ok (.getfield 19, 3) := by decide +kernel
theorem dX2_print_120 : decode cX2_print 120 = .ok (.sipush 2800, 3) := by decide +kernel
theorem dX2_print_123 : decode cX2_print 123 = .ok (.iaload, 1) := by decide +kernel
theorem dX2_print_124 : decode cX2_print 124 = .ok (.ifCond .gt 9, 3) := by decide +kernel
theorem dX2_print_127 : decode cX2_print 127 = .ok (.aload_n 0, 1) := by decide +kernel
theorem dX2_print_128 : decode cX2_print 128 = .ok (.bipush 48, 2) := by decide +kernel
theorem dX2_print_130 : decode cX2_print 130 = .ok (.invokevirtual 113, 3) := by decide +kernel
theorem dX2_print_133 : decode cX2_print 133 = .ok (.iload_n 3, 1) := by decide +kernel
theorem dX2_print_134 : decode cX2_print 134 = .ok (.ifCond .le 9, 3) := by decide +kernel
theorem dX2_print_137 : decode cX2_print 137 = .ok (.aload_n 0, 1) := by decide +kernel
theorem dX2_print_138 : decode cX2_print 138 = .ok (.bipush 46, 2) := by decide +kernel
theorem dX2_print_140 : decode cX2_print 140 = .ok (.invokevirtual 113, 3) := by decide +kernel
theorem dX2_print_143 : decode cX2_print 143 = .ok (.iconst 0, 1) := by decide +kernel
theorem dX2_print_144 : decode cX2_print 144 = .ok (.istore 4, 2) := by decide +kernel
theorem dX2_print_146 : decode cX2_print 146 = .ok (.iload 4, 2) := by decide +kernel
theorem dX2_print_148 : decode cX2_print 148 = .ok (.iload_n 3, 1) := by decide +kernel
theorem dX2_print_149 : decode cX2_print 149 = .ok (.if_icmp .ge 34, 3) := by decide +kernel
theorem dX2_print_152 : decode cX2_print 152 = .ok (.aload_n 0, 1) := by decide +kernel
theorem dX2_print_153 : decode cX2_print 153 = .ok (.bipush 48, 2) := by decide +kernel
theorem dX2_print_155 : decode cX2_print 155 = .ok (.aload_n 0, 1) := by decide +kernel
theorem dX2_print_156 : decode cX2_print 156 = .ok (.sipush 2800, 3) := by decide +kernel
theorem dX2_print_159 : decode cX2_print 159 = .ok (.aload_n 0, 1) := by decide +kernel
theorem dX2_print_160 : decode cX2_print 160 = .ok (.getfield 19, 3) := by decide +kernel
theorem dX2_print_163 : decode cX2_print 163 = .ok (.sipush 2800, 3) := by decide +kernel
theorem dX2_print_166 : decode cX2_print 166 = .ok (.iaload, 1) := by decide +kernel
theorem dX2_print_167 : decode cX2_print 167 = .ok (.iload 4, 2) := by decide +kernel
theorem dX2_print_169 : decode cX2_print 169 = .ok (.iadd, 1) := by decide +kernel
theorem dX2_print_170 : decode cX2_print 170 = .ok (.invokevirtual 33, 3) := by decide +kernel
theorem dX2_print_173 : decode cX2_print 173 = .ok (.iadd, 1) := by decide +kernel
theorem dX2_print_174 : decode cX2_print 174 = .ok (.invokevirtual 113, 3) := by decide +kernel
theorem dX2_print_177 : decode cX2_print 177 = .ok (.iinc 4 1, 3) := by decide +kernel
theorem dX2_print_180 : decode cX2_print 180 = .ok (.goto (-34), 3) := by decide +kernel
theorem dX2_print_183 : decode cX2_print 183 = .ok (.aload_n 0, 1) := by decide +kernel
theorem dX2_print_184 : decode cX2_print 184 = .ok (.getfield 30, 3) := by decide +kernel
theorem dX2_print_187 : decode cX2_print 187 = .ok (.ireturn, 1) := by decide +kernel
theorem dX2_shortest_0 : decode cX2_shortest 0 = .ok (.aload_n 0, 1) := by decide +kernel
theorem dX2_shortest_1 : decode cX2_shortest 1 = .ok (.aload_n 0, 1) := by decide +kernel
theorem dX2_shortest_2 : decode cX2_shortest 2 = .ok (.lload_n 1, 1) := by decide +kernel
theorem dX2_shortest_3 : decode cX2_shortest 3 = .ok (.invokevirtual 116, 3) := by decide +kernel
theorem dX2_shortest_6 : decode cX2_shortest 6 = .ok (.ifCond .eq 7, 3) := by decide +kernel
theorem dX2_shortest_9 : decode cX2_shortest 9 = .ok (.iconst 0, 1) := by decide +kernel
theorem dX2_shortest_10 : decode cX2_shortest 10 = .ok (.goto 4, 3) := by decide +kernel
theorem dX2_shortest_13 : decode cX2_shortest 13 = .ok (.iconst 1, 1) := by decide +kernel
theorem dX2_shortest_14 : decode cX2_shortest 14 = .ok (.putfield 26, 3) := by decide +kernel
theorem dX2_shortest_17 : decode cX2_shortest 17 = .ok (.aload_n 0, 1) := by decide +kernel
theorem dX2_shortest_18 : decode cX2_shortest 18 = .ok (.getfield 26, 3) := by decide +kernel
theorem dX2_shortest_21 : decode cX2_shortest 21 = .ok (.ifCond .eq 5, 3) := by decide +kernel
theorem dX2_shortest_24 : decode cX2_shortest 24 = .ok (.iconst 0, 1) := by decide +kernel
theorem dX2_shortest_25 : decode cX2_shortest 25 = .ok (.ireturn, 1) := by decide +kernel
theorem dX2_shortest_26 : decode cX2_shortest 26 = .ok (.lload_n 1, 1) := by decide +kernel
theorem dX2_shortest_27 : decode cX2_shortest 27 = .ok (.ldc2_w 120, 3) := by decide +kernel
theorem dX2_shortest_30 : decode cX2_shortest 30 = .ok (.land, 1) := by decide +kernel
theorem dX2_shortest_31 : decode cX2_shortest 31 = .ok (.lstore_n 3, 1) := by decide +kernel
theorem dX2_shortest_32 : decode cX2_shortest 32 = .ok (.lload_n 3, 1) := by decide +kernel
theorem dX2_shortest_33 : decode cX2_shortest 33 = .ok (.lconst 0, 1) := by decide +kernel
theorem dX2_shortest_34 : decode cX2_shortest 34 = .ok (.lcmp, 1) := by decide +kernel
theorem dX2_shortest_35 : decode cX2_shortest 35 = .ok (.ifCond .ne 26, 3) := by decide +kernel
theorem dX2_shortest_38 : decode cX2_shortest 38 = .ok (.aload_n 0, 1) := by decide +kernel
theorem dX2_shortest_39 : decode cX2_shortest 39 = .ok (.bipush 48, 2) := by decide +kernel
theorem dX2_shortest_41 : decode cX2_shortest 41 = .ok (.invokevirtual 113, 3) := by decide +kernel
theorem dX2_shortest_44 : decode cX2_shortest 44 = .ok (.aload_n 0, 1) := by decide +kernel
theorem dX2_shortest_45 : decode cX2_shortest 45 = .ok (.bipush 101, 2) := by decide +kernel
theorem dX2_shortest_47 : decode cX2_shortest 47 = .ok (.invokevirtual 113, 3) := by decide +kernel
theorem dX2_shortest_50 : decode cX2_shortest 50 = .ok (.aload_n 0, 1) := by decide +kernel
theorem dX2_shortest_51 : decode cX2_shortest 51 = .ok (.bipush 48, 2) := by decide +kernel
theorem dX2_shortest_53 : decode cX2_shortest 53 = .ok (.invokevirtual 113, 3) := by decide +kernel
theorem dX2_shortest_56 : decode cX2_shortest 56 = .ok (.aload_n 0, 1) := by decide +kernel
theorem dX2_shortest_57 : decode cX2_shortest 57 = .ok (.getfield 30, 3) := by decide +kernel
theorem dX2_shortest_60 : decode cX2_shortest 60 = .ok (.ireturn, 1) := by decide +kernel
theorem dX2_shortest_61 : decode cX2_shortest 61 = .ok (.aload_n 0, 1) := by decide +kernel
theorem dX2_shortest_62 : decode cX2_shortest 62 = .ok (.lload_n 3, 1) := by decide +kernel
theorem dX2_shortest_63 : decode cX2_shortest 63 = .ok (.sipush 1400, 3) := by decide +kernel
theorem dX2_shortest_66 : decode cX2_shortest 66 = .ok (.invokevirtual 97, 3) := by decide +kernel
theorem dX2_shortest_69 : decode cX2_shortest 69 = .ok (.lload_n 3, 1) := by decide +kernel
theorem dX2_shortest_70 : decode cX2_shortest 70 = .ok (.ldc2_w 64, 3) := by decide +kernel
theorem dX2_shortest_73 : decode cX2_shortest 73 = .ok (.land, 1) := by decide +kernel
theorem dX2_shortest_74 : decode cX2_shortest 74 = .ok (.lconst 0, 1) := by decide +kernel
theorem dX2_shortest_75 : decode cX2_shortest 75 = .ok (.lcmp, 1) := by decide +kernel
theorem dX2_shortest_76 : decode cX2_shortest 76 = .ok (.ifCond .ne 16, 3) := by decide +kernel
theorem dX2_shortest_79 : decode cX2_shortest 79 = .ok (.lload_n 3, 1) := by decide +kernel
theorem dX2_shortest_80 : decode cX2_shortest 80 = .ok (.bipush 52, 2) := by decide +kernel
theorem dX2_shortest_82 : decode cX2_shortest 82 = .ok (.lushr, 1) := by decide +kernel
theorem dX2_shortest_83 : decode cX2_shortest 83 = .ok (.lconst 1, 1) := by decide +kernel
theorem dX2_shortest_84 : decode cX2_shortest 84 = .ok (.lcmp, 1) := by decide +kernel
theorem dX2_shortest_85 : decode cX2_shortest 85 = .ok (.ifCond .le 7, 3) := by decide +kernel
theorem dX2_shortest_88 : decode cX2_shortest 88 = .ok (.iconst 1, 1) := by decide +kernel
theorem dX2_shortest_89 : decode cX2_shortest 89 = .ok (.goto 4, 3) := by decide +kernel
theorem dX2_shortest_92 : decode cX2_shortest 92 = .ok (.iconst 0, 1) := by decide +kernel
theorem dX2_shortest_93 : decode cX2_shortest 93 = .ok (.istore 5, 2) := by decide +kernel
theorem dX2_shortest_95 : decode cX2_shortest 95 = .ok (.aload_n 0, 1) := by decide +kernel
theorem dX2_shortest_96 : decode cX2_shortest 96 = .ok (.iload 5, 2) := by decide +kernel
theorem dX2_shortest_98 : decode cX2_shortest 98 = .ok (.ifCond .eq 16, 3) := by decide +kernel
theorem dX2_shortest_101 : decode cX2_shortest 101 = .ok (.ldc2_w 125, 3) := by decide +kernel
theorem dX2_shortest_104 : decode cX2_shortest 104 = .ok (.lload_n 3, 1) := by decide +kernel
theorem dX2_shortest_105 : decode cX2_shortest 105 = .ok (.invokestatic 68, 3) := by decide +kernel
theorem dX2_shortest_108 : decode cX2_shortest 108 = .ok (.lmul, 1) := by decide +kernel
theorem dX2_shortest_109 : decode cX2_shortest 109 = .ok (.lconst 1, 1) := by decide +kernel
theorem dX2_shortest_110 : decode cX2_shortest 110 = .ok (.lsub, 1) := by decide +kernel
theorem dX2_shortest_111 : decode cX2_shortest 111 = .ok (.goto 13, 3) := by decide +kernel
theorem dX2_shortest_114 : decode cX2_shortest 114 = .ok (.ldc2_w 95, 3) := by decide +kernel
theorem dX2_shortest_117 : decode cX2_shortest 117 = .ok (.lload_n 3, 1) := by decide +kernel
theorem dX2_shortest_118 : decode cX2_shortest 118 = .ok (.invokestatic 68, 3) := by decide +kernel
theorem dX2_shortest_121 : decode cX2_shortest 121 = .ok (.lmul, 1) := by decide +kernel
theorem dX2_shortest_122 : decode cX2_shortest 122 = .ok (.lconst 1, 1) := by decide +kernel
theorem dX2_shortest_123 : decode cX2_shortest 123 = .ok (.lsub, 1) := by decide +kernel
theorem dX2_shortest_124 : decode cX2_shortest 124 = .ok (.lload_n 3, 1) := by decide +kernel
theorem dX2_shortest_125 : decode cX2_shortest 125 = .ok (.invokestatic 72, 3) := by decide +kernel
theorem dX2_shortest_128 : decode cX2_shortest 128 = .ok (.iload 5, 2) := by decide +kernel
theorem dX2_shortest_130 : decode cX2_shortest 130 = .ok (.ifCond .eq 7, 3) := by decide +kernel
theorem dX2_shortest_133 : decode cX2_shortest 133 = .ok (.iconst 2, 1) := by decide +kernel
theorem dX2_shortest_134 : decode cX2_shortest 134 = .ok (.goto 4, 3) := by decide +kernel
theorem dX2_shortest_137 : decode cX2_shortest 137 = .ok (.iconst 1, 1) := by decide +kernel
theorem dX2_shortest_138 : decode cX2_shortest 138 = .ok (.isub, 1) := by decide +kernel
theorem dX2_shortest_139 : decode cX2_shortest 139 = .ok (.sipush 4200, 3) := by decide +kernel
theorem dX2_shortest_142 : decode cX2_shortest 142 = .ok (.invokevirtual 76, 3) := by decide +kernel
theorem dX2_shortest_145 : decode cX2_shortest 145 = .ok (.aload_n 0, 1) := by decide +kernel
theorem dX2_shortest_146 : decode cX2_shortest 146 = .ok (.ldc2_w 95, 3) := by decide +kernel
theorem dX2_shortest_149 : decode cX2_shortest 149 = .ok (.lload_n 3, 1) := by decide +kernel
theorem dX2_shortest_150 : decode cX2_shortest 150 = .ok (.invokestatic 68, 3) := by decide +kernel
theorem dX2_shortest_153 : decode cX2_shortest 153 = .ok (.lmul, 1) := by decide +kernel
theorem dX2_shortest_154 : decode cX2_shortest 154 = .ok (.lconst 1, 1) := by decide +kernel
theorem dX2_shortest_155 : decode cX2_shortest 155 = .ok (.ladd, 1) := by decide +kernel
theorem dX2_shortest_156 : decode cX2_shortest 156 = .ok (.lload_n 3, 1) := by decide +kernel
theorem dX2_shortest_157 : decode cX2_shortest 157 = .ok (.invokestatic 72, 3) := by decide +kernel
theorem dX2_shortest_160 : decode cX2_shortest 160 = .ok (.iconst 1, 1) := by decide +kernel
theorem dX2_shortest_161 : decode cX2_shortest 161 = .ok (.isub, 1) := by decide +kernel
theorem dX2_shortest_162 : decode cX2_shortest 162 = .ok (.sipush 5600, 3) := by decide +kernel
theorem dX2_shortest_165 : decode cX2_shortest 165 = .ok (.invokevirtual 76, 3) := by decide +kernel
theorem dX2_shortest_168 : decode cX2_shortest 168 = .ok (.iconst 1, 1) := by decide +kernel
theorem dX2_shortest_169 : decode cX2_shortest 169 = .ok (.istore 6, 2) := by decide +kernel
theorem dX2_shortest_171 : decode cX2_shortest 171 = .ok (.aload_n 0, 1) := by decide +kernel
theorem dX2_shortest_172 : decode cX2_shortest 172 = .ok (.iload 6, 2) := by decide +kernel
theorem dX2_shortest_174 : decode cX2_shortest 174 = .ok (.lload_n 3, 1) := by decide +kernel
theorem dX2_shortest_175 : decode cX2_shortest 175 = .ok (.ldc2_w 95, 3) := by decide +kernel
theorem dX2_shortest_178 : decode cX2_shortest 178 = .ok (.lrem, 1) := by decide +kernel
theorem dX2_shortest_179 : decode cX2_shortest 179 = .ok (.lconst 0, 1) := by decide +kernel
theorem dX2_shortest_180 : decode cX2_shortest 180 = .ok (.lcmp, 1) := by decide +kernel
theorem dX2_shortest_181 : decode cX2_shortest 181 = .ok (.ifCond .ne 7, 3) := by decide +kernel
theorem dX2_shortest_184 : decode cX2_shortest 184 = .ok (.iconst 1, 1) := by decide +kernel
theorem dX2_shortest_185 : decode cX2_shortest 185 = .ok (.goto 4, 3) := by decide +kernel
theorem dX2_shortest_188 : decode cX2_shortest 188 = .ok (.iconst 0, 1) := by decide +kernel
theorem dX2_shortest_189 : decode cX2_shortest 189 = .ok (.invokevirtual 127, 3) := by decide +kernel
theorem dX2_shortest_192 : decode cX2_shortest 192 = .ok (.ifCond .ne 9, 3) := by decide +kernel
theorem dX2_shortest_195 : decode cX2_shortest 195 = .ok (.iinc 6 1, 3) := by decide +kernel
theorem dX2_shortest_198 : decode cX2_shortest 198 = .ok (.goto (-27), 3) := by decide +kernel
theorem dX2_shortest_201 : decode cX2_shortest 201 = .ok (.aload_n 0, 1) := by decide +kernel
theorem dX2_shortest_202 : decode cX2_shortest 202 = .ok (.bipush 48, 2) := by decide +kernel
theorem dX2_shortest_204 : decode cX2_shortest 204 = .ok (.aload_n 0, 1) := by decide +kernel
theorem dX2_shortest_205 : decode cX2_shortest 205 = .ok (.sipush 2800, 3) := by decide +kernel
theorem dX2_shortest_208 : decode cX2_shortest 208 = .ok (.iconst 0, 1) := by decide +kernel
theorem dX2_shortest_209 : decode cX2_shortest 209 = .ok (.invokevirtual 33, 3) := by decide +kernel
theorem dX2_shortest_212 : decode cX2_shortest 212 = .ok (.iadd, 1) := by decide +kernel
theorem dX2_shortest_213 : decode cX2_shortest 213 = .ok (.invokevirtual 113, 3) := by decide +kernel
theorem dX2_shortest_216 : decode cX2_shortest 216 = .ok (.iload 6, 2) := by decide +kernel
theorem dX2_shortest_218 : decode cX2_shortest 218 = .ok (.iconst 1, 1) := by decide +kernel
theorem dX2_shortest_219 : decode cX2_shortest 219 = .ok (.if_icmp .le 9, 3) := by decide +kernel
theorem dX2_shortest_222 : decode cX2_shortest 222 = .ok (.aload_n 0, 1) := by decide +kernel
theorem dX2_shortest_223 : decode cX2_shortest 223 = .ok (.bipush 46, 2) := by decide +kernel
theorem dX2_shortest_225 : decode cX2_shortest 225 = .ok (.invokevirtual 113, 3) := by decide +kernel
theorem dX2_shortest_228 : decode cX2_shortest 228 = .ok (.iconst 1, 1) := by decide +kernel
theorem dX2_shortest_229 : decode cX2_shortest 229 = .ok (.istore 7, 2) := by decide +kernel
theorem dX2_shortest_231 : decode cX2_shortest 231 = .ok (.iload 7, 2) := by decide +kernel
theorem dX2_shortest_233 : decode cX2_shortest 233 = .ok (.iload 6, 2) := by decide +kernel
theorem dX2_shortest_235 : decode cX2_shortest 235 = .ok (.if_icmp .ge 25, 3) := by decide +kernel
theorem dX2_shortest_238 : decode cX2_shortest 238 = .ok (.aload_n 0, 1) := by decide +kernel
theorem dX2_shortest_239 : decode cX2_shortest 239 = .ok (.bipush 48, 2) := by decide +kernel
theorem dX2_shortest_241 : decode cX2_shortest 241 = .ok (.aload_n 0, 1) := by decide +kernel
theorem dX2_shortest_242 : decode cX2_shortest 242 = .ok (.sipush 2800, 3) := by decide +kernel
theorem dX2_shortest_245 : decode cX2_shortest 245 = .ok (.iload 7, 2) := by decide +kernel
theorem dX2_shortest_247 : decode cX2_shortest 247 = .ok (.invokevirtual 33, 3) := by decide +kernel
theorem dX2_shortest_250 : decode cX2_shortest 250 = .ok (.iadd, 1) := by decide +kernel
theorem dX2_shortest_251 : decode cX2_shortest 251 = .ok (.invokevirtual 113, 3) := by decide +kernel
theorem dX2_shortest_254 : decode cX2_shortest 254 = .ok (.iinc 7 1, 3) := by decide +kernel
theorem dX2_shortest_257 : decode cX2_shortest 257 = .ok (.goto (-26), 3) := by decide +kernel
theorem dX2_shortest_260 : decode cX2_shortest 260 = .ok (.aload_n 0, 1) := by decide +kernel
theorem dX2_shortest_261 : decode cX2_shortest 261 = .ok (.bipush 101, 2) := by decide +kernel
theorem dX2_shortest_263 : decode cX2_shortest 263 = .ok (.invokevirtual 113, 3) := by decide +kernel
theorem dX2_shortest_266 : decode cX2_shortest 266 = .ok (.aload_n 0, 1) := by decide +kernel
theorem dX2_shortest_267 : decode cX2_shortest 267 = .ok (.getfield 19, 3) := by decide +kernel
theorem dX2_shortest_270 : decode cX2_shortest 270 = .ok (.sipush 2800, 3) := by decide +kernel
theorem dX2_shortest_273 : decode cX2_shortest 273 = .ok (.iaload, 1) := by decide +kernel
theorem dX2_shortest_274 : decode cX2_shortest 274 = .ok (.iconst 1, 1) := by decide +kernel
theorem dX2_shortest_275 : decode cX2_shortest 275 = .ok (.isub, 1) := by decide +kernel
theorem dX2_shortest_276 : decode cX2_shortest 276 = .ok (.istore 7, 2) := by decide +kernel
theorem dX2_shortest_278 : decode cX2_shortest 278 = .ok (.iload 7, 2) := by decide +kernel
theorem dX2_shortest_280 : decode cX2_shortest 280 = .ok (.ifCond .ge 9, 3) := by decide +kernel
theorem dX2_shortest_283 : decode cX2_shortest 283 = .ok (.aload_n 0, 1) := by decide +kernel
theorem dX2_shortest_284 : decode cX2_shortest 284 = .ok (.bipush 45, 2) := by decide +kernel
theorem dX2_shortest_286 : decode cX2_shortest 286 = .ok (.invokevirtual 113, 3) := by decide +kernel
theorem dX2_shortest_289 : decode cX2_shortest 289 = .ok (.iload 7, 2) := by decide +kernel
theorem dX2_shortest_291 : decode cX2_shortest 291 = .ok (.ifCond .ge 9, 3) := by decide +kernel
theorem dX2_shortest_294 : decode cX2_shortest 294 = .ok (.iload 7, 2) := by decide +kernel
theorem dX2_shortest_296 : decode cX2_shortest 296 = .ok (.ineg, 1) := by decide +kernel
theorem dX2_shortest_297 : decode cX2_shortest 297 = .ok (.goto 5, 3) := by decide +kernel
theorem dX2_shortest_300 : decode cX2_shortest 300 = .ok (.iload 7, 2) := by decide +kernel
theorem dX2_shortest_302 : decode cX2_shortest 302 = .ok (.istore 8, 2) := by decide +kernel
theorem dX2_shortest_304 : decode cX2_shortest 304 = .ok (.bipush 100, 2) := by decide +kernel
theorem dX2_shortest_306 : decode cX2_shortest 306 = .ok (.istore 9, 2) := by decide +kernel
theorem dX2_shortest_308 : decode cX2_shortest 308 = .ok (.iload 9, 2) := by decide +kernel
theorem dX2_shortest_310 : decode cX2_shortest 310 = .ok (.ifCond .le 41, 3) := by decide +kernel
theorem dX2_shortest_313 : decode cX2_shortest 313 = .ok (.iload 8, 2) := by decide +kernel
theorem dX2_shortest_315 : decode cX2_shortest 315 = .ok (.iload 9, 2) := by decide +kernel
theorem dX2_shortest_317 : decode cX2_shortest 317 = .ok (.if_icmp .ge 9, 3) := by decide +kernel
theorem dX2_shortest_320 : decode cX2_shortest 320 = .ok (.iload 9, 2) := by decide +kernel
theorem dX2_shortest_322 : decode cX2_shortest 322 = .ok (.iconst 1, 1) := by decide +kernel
theorem dX2_shortest_323 : decode cX2_shortest 323 = .ok (.if_icmp .ne 18, 3) := by decide +kernel
theorem dX2_shortest_326 : decode cX2_shortest 326 = .ok (.aload_n 0, 1) := by decide +kernel
theorem dX2_shortest_327 : decode cX2_shortest 327 = .ok (.bipush 48, 2) := by decide +kernel
theorem dX2_shortest_329 : decode cX2_shortest 329 = .ok (.iload 8, 2) := by decide +kernel
theorem dX2_shortest_331 : decode cX2_shortest 331 = .ok (.iload 9, 2) := by decide +kernel
theorem dX2_shortest_333 : decode cX2_shortest 333 = .ok (.idiv, 1) := by decide +kernel
theorem dX2_shortest_334 : decode cX2_shortest 334 = .ok (.bipush 10, 2) := by decide +kernel
theorem dX2_shortest_336 : decode cX2_shortest 336 = .ok (.irem, 1) := by decide +kernel
theorem dX2_shortest_337 : decode cX2_shortest 337 = .ok (.iadd, 1) := by decide +kernel
theorem dX2_shortest_338 : decode cX2_shortest 338 = .ok (.invokevirtual 113, 3) := by decide +kernel
theorem dX2_shortest_341 : decode cX2_shortest 341 = .ok (.iload 9, 2) := by decide +kernel
theorem dX2_shortest_343 : decode cX2_shortest 343 = .ok (.bipush 10, 2) := by decide +kernel
theorem dX2_shortest_345 : decode cX2_shortest 345 = .ok (.idiv, 1) := by decide +kernel
theorem dX2_shortest_346 : decode cX2_shortest 346 = .ok (.istore 9, 2) := by decide +kernel
theorem dX2_shortest_348 : decode cX2_shortest 348 = .ok (.goto (-40), 3) := by decide +kernel
theorem dX2_shortest_351 : decode cX2_shortest 351 = .ok (.aload_n 0, 1) := by decide +kernel
theorem dX2_shortest_352 : decode cX2_shortest 352 = .ok (.getfield 30, 3) := by decide +kernel
theorem dX2_shortest_355 : decode cX2_shortest 355 = .ok (.ireturn, 1) := by decide +kernel
theorem dX2_readsAsIt_0 : decode cX2_readsAsIt 0 = .ok (.aload_n 0, 1) := by decide +kernel
theorem dX2_readsAsIt_1 : decode cX2_readsAsIt 1 = .ok (.iload_n 1, 1) := by decide +kernel
theorem dX2_readsAsIt_2 : decode cX2_readsAsIt 2 = .ok (.invokevirtual 122, 3) := by decide +kernel
theorem dX2_readsAsIt_5 : decode cX2_readsAsIt 5 = .ok (.aload_n 0, 1) := by decide +kernel
theorem dX2_readsAsIt_6 : decode cX2_readsAsIt 6 = .ok (.sipush 2800, 3) := by decide +kernel
theorem dX2_readsAsIt_9 : decode cX2_readsAsIt 9 = .ok (.sipush 4200, 3) := by decide +kernel
theorem dX2_readsAsIt_12 : decode cX2_readsAsIt 12 = .ok (.invokevirtual 101, 3) := by decide +kernel
theorem dX2_readsAsIt_15 : decode cX2_readsAsIt 15 = .ok (.istore_n 3, 1) := by decide +kernel
theorem dX2_readsAsIt_16 : decode cX2_readsAsIt 16 = .ok (.aload_n 0, 1) := by decide +kernel
theorem dX2_readsAsIt_17 : decode cX2_readsAsIt 17 = .ok (.sipush 2800, 3) := by decide +kernel
theorem dX2_readsAsIt_20 : decode cX2_readsAsIt 20 = .ok (.sipush 5600, 3) := by decide +kernel
theorem dX2_readsAsIt_23 : decode cX2_readsAsIt 23 = .ok (.invokevirtual 101, 3) := by decide +kernel
theorem dX2_readsAsIt_26 : decode cX2_readsAsIt 26 = .ok (.istore 4, 2) := by decide +kernel
theorem dX2_readsAsIt_28 : decode cX2_readsAsIt 28 = .ok (.iload_n 3, 1) := by decide +kernel
theorem dX2_readsAsIt_29 : decode cX2_readsAsIt 29 = .ok (.ifCond .gt 11, 3) := by decide +kernel
theorem dX2_readsAsIt_32 : decode cX2_readsAsIt 32 = .ok (.iload_n 3, 1) := by decide +kernel
theorem dX2_readsAsIt_33 : decode cX2_readsAsIt 33 = .ok (.ifCond .ne 25, 3) := by decide +kernel
theorem dX2_readsAsIt_36 : decode cX2_readsAsIt 36 = .ok (.iload_n 2, 1) := by decide +kernel
theorem dX2_readsAsIt_37 : decode cX2_readsAsIt 37 = .ok (.ifCond .eq 21, 3) := by decide +kernel
theorem dX2_readsAsIt_40 : decode cX2_readsAsIt 40 = .ok (.iload 4, 2) := by decide +kernel
theorem dX2_readsAsIt_42 : decode cX2_readsAsIt 42 = .ok (.ifCond .lt 12, 3) := by decide +kernel
theorem dX2_readsAsIt_45 : decode cX2_readsAsIt 45 = .ok (.iload 4, 2) := by decide +kernel
theorem dX2_readsAsIt_47 : decode cX2_readsAsIt 47 = .ok (.ifCond .ne 11, 3) := by decide +kernel
theorem dX2_readsAsIt_50 : decode cX2_readsAsIt 50 = .ok (.iload_n 2, 1) := by decide +kernel
theorem dX2_readsAsIt_51 : decode cX2_readsAsIt 51 = .ok (.ifCond .eq 7, 3) := by decide +kernel
theorem dX2_readsAsIt_54 : decode cX2_readsAsIt 54 = .ok (.iconst 1, 1) := by decide +kernel
theorem dX2_readsAsIt_55 : decode cX2_readsAsIt 55 = .ok (.goto 4, 3) := by decide +kernel
theorem dX2_readsAsIt_58 : decode cX2_readsAsIt 58 = .ok (.iconst 0, 1) := by decide +kernel
theorem dX2_readsAsIt_59 : decode cX2_readsAsIt 59 = .ok (.ireturn, 1) := by decide +kernel
theorem dX2_letter_0 : decode cX2_letter 0 = .ok (.aload_n 0, 1) := by decide +kernel
theorem dX2_letter_1 : decode cX2_letter 1 = .ok (.iload_n 1, 1) := by decide +kernel
theorem dX2_letter_2 : decode cX2_letter 2 = .ok (.ifCond .lt 11, 3) := by decide +kernel
theorem dX2_letter_5 : decode cX2_letter 5 = .ok (.iload_n 1, 1) := by decide +kernel
theorem dX2_letter_6 : decode cX2_letter 6 = .ok (.aload_n 0, 1) := by decide +kernel
theorem dX2_letter_7 : decode cX2_letter 7 = .ok (.getfield 30, 3) := by decide +kernel
theorem dX2_letter_10 : decode cX2_letter 10 = .ok (.if_icmp .lt 7, 3) := by decide +kernel
theorem dX2_letter_13 : decode cX2_letter 13 = .ok (.iconst 1, 1) := by decide +kernel
theorem dX2_letter_14 : decode cX2_letter 14 = .ok (.goto 4, 3) := by decide +kernel
theorem dX2_letter_17 : decode cX2_letter 17 = .ok (.iconst 0, 1) := by decide +kernel
theorem dX2_letter_18 : decode cX2_letter 18 = .ok (.putfield 26, 3) := by decide +kernel
theorem dX2_letter_21 : decode cX2_letter 21 = .ok (.aload_n 0, 1) := by decide +kernel
theorem dX2_letter_22 : decode cX2_letter 22 = .ok (.getfield 26, 3) := by decide +kernel
theorem dX2_letter_25 : decode cX2_letter 25 = .ok (.ifCond .eq 7, 3) := by decide +kernel
theorem dX2_letter_28 : decode cX2_letter 28 = .ok (.iconst 0, 1) := by decide +kernel
theorem dX2_letter_29 : decode cX2_letter 29 = .ok (.goto 9, 3) := by decide +kernel
theorem dX2_letter_32 : decode cX2_letter 32 = .ok (.aload_n 0, 1) := by decide +kernel
theorem dX2_letter_33 : decode cX2_letter 33 = .ok (.getfield 7, 3) := by decide +kernel
theorem dX2_letter_36 : decode cX2_letter 36 = .ok (.iload_n 1, 1) := by decide +kernel
theorem dX2_letter_37 : decode cX2_letter 37 = .ok (.iaload, 1) := by decide +kernel
theorem dX2_letter_38 : decode cX2_letter 38 = .ok (.ireturn, 1) := by decide +kernel
theorem dJ6_numberOfLeadingZeros_0f7a4_0 : decode cJ6_numberOfLeadingZeros_0f7a4 0 = .ok (.iload_n 0, 1) := by decide +kernel
theorem dJ6_numberOfLeadingZeros_0f7a4_1 : decode cJ6_numberOfLeadingZeros_0f7a4 1 = .ok (.ifCond .gt 14, 3) := by decide +kernel
theorem dJ6_numberOfLeadingZeros_0f7a4_4 : decode cJ6_numberOfLeadingZeros_0f7a4 4 = .ok (.iload_n 0, 1) := by decide +kernel
theorem dJ6_numberOfLeadingZeros_0f7a4_5 : decode cJ6_numberOfLeadingZeros_0f7a4 5 = .ok (.ifCond .ne 8, 3) := by decide +kernel
theorem dJ6_numberOfLeadingZeros_0f7a4_8 : decode cJ6_numberOfLeadingZeros_0f7a4 8 = .ok (.bipush 32, 2) := by decide +kernel
theorem dJ6_numberOfLeadingZeros_0f7a4_10 : decode cJ6_numberOfLeadingZeros_0f7a4 10 = .ok (.goto 4, 3) := by decide +kernel
theorem dJ6_numberOfLeadingZeros_0f7a4_13 : decode cJ6_numberOfLeadingZeros_0f7a4 13 = .ok (.iconst 0, 1) := by decide +kernel
theorem dJ6_numberOfLeadingZeros_0f7a4_14 : decode cJ6_numberOfLeadingZeros_0f7a4 14 = .ok (.ireturn, 1) := by decide +kernel
theorem dJ6_numberOfLeadingZeros_0f7a4_15 : decode cJ6_numberOfLeadingZeros_0f7a4 15 = .ok (.bipush 31, 2) := by decide +kernel
theorem dJ6_numberOfLeadingZeros_0f7a4_17 : decode cJ6_numberOfLeadingZeros_0f7a4 17 = .ok (.istore_n 1, 1) := by decide +kernel
theorem dJ6_numberOfLeadingZeros_0f7a4_18 : decode cJ6_numberOfLeadingZeros_0f7a4 18 = .ok (.iload_n 0, 1) := by decide +kernel
theorem dJ6_numberOfLeadingZeros_0f7a4_19 : decode cJ6_numberOfLeadingZeros_0f7a4 19 = .ok (.ldc_w 264, 3) := by decide +kernel
end
section
theorem dJ6_numberOfLeadingZeros_0f7a4_22 : decode cJ6_numberOfLeadingZeros_0f7a4 22 = .ok (.if_icmp .lt 11, 3) := by decide +kernel
theorem dJ6_numberOfLeadingZeros_0f7a4_25 : decode cJ6_numberOfLeadingZeros_0f7a4 25 = .ok (.iinc 1 (-16), 3) := by decide +kernel
theorem dJ6_numberOfLeadingZeros_0f7a4_28 : decode cJ6_numberOfLeadingZeros_0f7a4 28 = .ok (.iload_n 0, 1) := by decide +kernel
theorem dJ6_numberOfLeadingZeros_0f7a4_29 : decode cJ6_numberOfLeadingZeros_0f7a4 29 = .ok (.bipush 16, 2) := by decide +kernel
theorem dJ6_numberOfLeadingZeros_0f7a4_31 : decode cJ6_numberOfLeadingZeros_0f7a4 31 = .ok (.iushr, 1) := by decide +kernel
theorem dJ6_numberOfLeadingZeros_0f7a4_32 : decode cJ6_numberOfLeadingZeros_0f7a4 32 = .ok (.istore_n 0, 1) := by decide +kernel
theorem dJ6_numberOfLeadingZeros_0f7a4_33 : decode cJ6_numberOfLeadingZeros_0f7a4 33 = .ok (.iload_n 0, 1) := by decide +kernel
theorem dJ6_numberOfLeadingZeros_0f7a4_34 : decode cJ6_numberOfLeadingZeros_0f7a4 34 = .ok (.sipush 256, 3) := by decide +kernel
theorem dJ6_numberOfLeadingZeros_0f7a4_37 : decode cJ6_numberOfLeadingZeros_0f7a4 37 = .ok (.if_icmp .lt 11, 3) := by decide +kernel
theorem dJ6_numberOfLeadingZeros_0f7a4_40 : decode cJ6_numberOfLeadingZeros_0f7a4 40 = .ok (.iinc 1 (-8), 3) := by decide +kernel
theorem dJ6_numberOfLeadingZeros_0f7a4_43 : decode cJ6_numberOfLeadingZeros_0f7a4 43 = .ok (.iload_n 0, 1) := by decide +kernel
theorem dJ6_numberOfLeadingZeros_0f7a4_44 : decode cJ6_numberOfLeadingZeros_0f7a4 44 = .ok (.bipush 8, 2) := by decide +kernel
theorem dJ6_numberOfLeadingZeros_0f7a4_46 : decode cJ6_numberOfLeadingZeros_0f7a4 46 = .ok (.iushr, 1) := by decide +kernel
theorem dJ6_numberOfLeadingZeros_0f7a4_47 : decode cJ6_numberOfLeadingZeros_0f7a4 47 = .ok (.istore_n 0, 1) := by decide +kernel
theorem dJ6_numberOfLeadingZeros_0f7a4_48 : decode cJ6_numberOfLeadingZeros_0f7a4 48 = .ok (.iload_n 0, 1) := by decide +kernel
theorem dJ6_numberOfLeadingZeros_0f7a4_49 : decode cJ6_numberOfLeadingZeros_0f7a4 49 = .ok (.bipush 16, 2) := by decide +kernel
theorem dJ6_numberOfLeadingZeros_0f7a4_51 : decode cJ6_numberOfLeadingZeros_0f7a4 51 = .ok (.if_icmp .lt 10, 3) := by decide +kernel
theorem dJ6_numberOfLeadingZeros_0f7a4_54 : decode cJ6_numberOfLeadingZeros_0f7a4 54 = .ok (.iinc 1 (-4), 3) := by decide +kernel
theorem dJ6_numberOfLeadingZeros_0f7a4_57 : decode cJ6_numberOfLeadingZeros_0f7a4 57 = .ok (.iload_n 0, 1) := by decide +kernel
theorem dJ6_numberOfLeadingZeros_0f7a4_58 : decode cJ6_numberOfLeadingZeros_0f7a4 58 = .ok (.iconst 4, 1) := by decide +kernel
theorem dJ6_numberOfLeadingZeros_0f7a4_59 : decode cJ6_numberOfLeadingZeros_0f7a4 59 = .ok (.iushr, 1) := by decide +kernel
theorem dJ6_numberOfLeadingZeros_0f7a4_60 : decode cJ6_numberOfLeadingZeros_0f7a4 60 = .ok (.istore_n 0, 1) := by decide +kernel
theorem dJ6_numberOfLeadingZeros_0f7a4_61 : decode cJ6_numberOfLeadingZeros_0f7a4 61 = .ok (.iload_n 0, 1) := by decide +kernel
theorem dJ6_numberOfLeadingZeros_0f7a4_62 : decode cJ6_numberOfLeadingZeros_0f7a4 62 = .ok (.iconst 4, 1) := by decide +kernel
theorem dJ6_numberOfLeadingZeros_0f7a4_63 : decode cJ6_numberOfLeadingZeros_0f7a4 63 = .ok (.if_icmp .lt 10, 3) := by decide +kernel
theorem dJ6_numberOfLeadingZeros_0f7a4_66 : decode cJ6_numberOfLeadingZeros_0f7a4 66 = .ok (.iinc 1 (-2), 3) := by decide +kernel
theorem dJ6_numberOfLeadingZeros_0f7a4_69 : decode cJ6_numberOfLeadingZeros_0f7a4 69 = .ok (.iload_n 0, 1) := by decide +kernel
theorem dJ6_numberOfLeadingZeros_0f7a4_70 : decode cJ6_numberOfLeadingZeros_0f7a4 70 = .ok (.iconst 2, 1) := by decide +kernel
theorem dJ6_numberOfLeadingZeros_0f7a4_71 : decode cJ6_numberOfLeadingZeros_0f7a4 71 = .ok (.iushr, 1) := by decide +kernel
theorem dJ6_numberOfLeadingZeros_0f7a4_72 : decode cJ6_numberOfLeadingZeros_0f7a4 72 = .ok (.istore_n 0, 1) := by decide +kernel
theorem dJ6_numberOfLeadingZeros_0f7a4_73 : decode cJ6_numberOfLeadingZeros_0f7a4 73 = .ok (.iload_n 1, 1) := by decide +kernel
theorem dJ6_numberOfLeadingZeros_0f7a4_74 : decode cJ6_numberOfLeadingZeros_0f7a4 74 = .ok (.iload_n 0, 1) := by decide +kernel
theorem dJ6_numberOfLeadingZeros_0f7a4_75 : decode cJ6_numberOfLeadingZeros_0f7a4 75 = .ok (.iconst 1, 1) := by decide +kernel
theorem dJ6_numberOfLeadingZeros_0f7a4_76 : decode cJ6_numberOfLeadingZeros_0f7a4 76 = .ok (.iushr, 1) := by decide +kernel
theorem dJ6_numberOfLeadingZeros_0f7a4_77 : decode cJ6_numberOfLeadingZeros_0f7a4 77 = .ok (.isub, 1) := by decide +kernel
theorem dJ6_numberOfLeadingZeros_0f7a4_78 : decode cJ6_numberOfLeadingZeros_0f7a4 78 = .ok (.ireturn, 1) := by decide +kernel
theorem dJ13_compare_74951_0 : decode cJ13_compare_74951 0 = .ok (.lload_n 0, 1) := by decide +kernel
theorem dJ13_compare_74951_1 : decode cJ13_compare_74951 1 = .ok (.lload_n 2, 1) := by decide +kernel
theorem dJ13_compare_74951_2 : decode cJ13_compare_74951 2 = .ok (.lcmp, 1) := by decide +kernel
theorem dJ13_compare_74951_3 : decode cJ13_compare_74951 3 = .ok (.ifCond .ge 7, 3) := by decide +kernel
theorem dJ13_compare_74951_6 : decode cJ13_compare_74951 6 = .ok (.iconst (-1), 1) := by decide +kernel
theorem dJ13_compare_74951_7 : decode cJ13_compare_74951 7 = .ok (.goto 14, 3) := by decide +kernel
theorem dJ13_compare_74951_10 : decode cJ13_compare_74951 10 = .ok (.lload_n 0, 1) := by decide +kernel
theorem dJ13_compare_74951_11 : decode cJ13_compare_74951 11 = .ok (.lload_n 2, 1) := by decide +kernel
theorem dJ13_compare_74951_12 : decode cJ13_compare_74951 12 = .ok (.lcmp, 1) := by decide +kernel
theorem dJ13_compare_74951_13 : decode cJ13_compare_74951 13 = .ok (.ifCond .ne 7, 3) := by decide +kernel
theorem dJ13_compare_74951_16 : decode cJ13_compare_74951 16 = .ok (.iconst 0, 1) := by decide +kernel
theorem dJ13_compare_74951_17 : decode cJ13_compare_74951 17 = .ok (.goto 4, 3) := by decide +kernel
theorem dJ13_compare_74951_20 : decode cJ13_compare_74951 20 = .ok (.iconst 1, 1) := by decide +kernel
theorem dJ13_compare_74951_21 : decode cJ13_compare_74951 21 = .ok (.ireturn, 1) := by decide +kernel
theorem dJ13_numberOfLeadingZeros_95d88_0 : decode cJ13_numberOfLeadingZeros_95d88 0 = .ok (.lload_n 0, 1) := by decide +kernel
theorem dJ13_numberOfLeadingZeros_95d88_1 : decode cJ13_numberOfLeadingZeros_95d88 1 = .ok (.bipush 32, 2) := by decide +kernel
theorem dJ13_numberOfLeadingZeros_95d88_3 : decode cJ13_numberOfLeadingZeros_95d88 3 = .ok (.lushr, 1) := by decide +kernel
theorem dJ13_numberOfLeadingZeros_95d88_4 : decode cJ13_numberOfLeadingZeros_95d88 4 = .ok (.l2i, 1) := by decide +kernel
theorem dJ13_numberOfLeadingZeros_95d88_5 : decode cJ13_numberOfLeadingZeros_95d88 5 = .ok (.istore_n 2, 1) := by decide +kernel
theorem dJ13_numberOfLeadingZeros_95d88_6 : decode cJ13_numberOfLeadingZeros_95d88 6 = .ok (.iload_n 2, 1) := by decide +kernel
theorem dJ13_numberOfLeadingZeros_95d88_7 : decode cJ13_numberOfLeadingZeros_95d88 7 = .ok (.ifCond .ne 14, 3) := by decide +kernel
theorem dJ13_numberOfLeadingZeros_95d88_10 : decode cJ13_numberOfLeadingZeros_95d88 10 = .ok (.bipush 32, 2) := by decide +kernel
theorem dJ13_numberOfLeadingZeros_95d88_12 : decode cJ13_numberOfLeadingZeros_95d88 12 = .ok (.lload_n 0, 1) := by decide +kernel
theorem dJ13_numberOfLeadingZeros_95d88_13 : decode cJ13_numberOfLeadingZeros_95d88 13 = .ok (.l2i, 1) := by decide +kernel
theorem dJ13_numberOfLeadingZeros_95d88_14 : decode cJ13_numberOfLeadingZeros_95d88 14 = .ok (.invokestatic 308, 3) := by decide +kernel
theorem dJ13_numberOfLeadingZeros_95d88_17 : decode cJ13_numberOfLeadingZeros_95d88 17 = .ok (.iadd, 1) := by decide +kernel
theorem dJ13_numberOfLeadingZeros_95d88_18 : decode cJ13_numberOfLeadingZeros_95d88 18 = .ok (.goto 7, 3) := by decide +kernel
theorem dJ13_numberOfLeadingZeros_95d88_21 : decode cJ13_numberOfLeadingZeros_95d88 21 = .ok (.iload_n 2, 1) := by decide +kernel
theorem dJ13_numberOfLeadingZeros_95d88_22 : decode cJ13_numberOfLeadingZeros_95d88 22 = .ok (.invokestatic 308, 3) := by decide +kernel
theorem dJ13_numberOfLeadingZeros_95d88_25 : decode cJ13_numberOfLeadingZeros_95d88 25 = .ok (.ireturn, 1) := by decide +kernel
theorem dJ9_floorDiv_7cf53_0 : decode cJ9_floorDiv_7cf53 0 = .ok (.iload_n 0, 1) := by decide +kernel
theorem dJ9_floorDiv_7cf53_1 : decode cJ9_floorDiv_7cf53 1 = .ok (.iload_n 1, 1) := by decide +kernel
theorem dJ9_floorDiv_7cf53_2 : decode cJ9_floorDiv_7cf53 2 = .ok (.idiv, 1) := by decide +kernel
theorem dJ9_floorDiv_7cf53_3 : decode cJ9_floorDiv_7cf53 3 = .ok (.istore_n 2, 1) := by decide +kernel
theorem dJ9_floorDiv_7cf53_4 : decode cJ9_floorDiv_7cf53 4 = .ok (.iload_n 0, 1) := by decide +kernel
theorem dJ9_floorDiv_7cf53_5 : decode cJ9_floorDiv_7cf53 5 = .ok (.iload_n 1, 1) := by decide +kernel
theorem dJ9_floorDiv_7cf53_6 : decode cJ9_floorDiv_7cf53 6 = .ok (.ixor, 1) := by decide +kernel
theorem dJ9_floorDiv_7cf53_7 : decode cJ9_floorDiv_7cf53 7 = .ok (.ifCond .ge 14, 3) := by decide +kernel
theorem dJ9_floorDiv_7cf53_10 : decode cJ9_floorDiv_7cf53 10 = .ok (.iload_n 2, 1) := by decide +kernel
theorem dJ9_floorDiv_7cf53_11 : decode cJ9_floorDiv_7cf53 11 = .ok (.iload_n 1, 1) := by decide +kernel
theorem dJ9_floorDiv_7cf53_12 : decode cJ9_floorDiv_7cf53 12 = .ok (.imul, 1) := by decide +kernel
theorem dJ9_floorDiv_7cf53_13 : decode cJ9_floorDiv_7cf53 13 = .ok (.iload_n 0, 1) := by decide +kernel
theorem dJ9_floorDiv_7cf53_14 : decode cJ9_floorDiv_7cf53 14 = .ok (.if_icmp .eq 7, 3) := by decide +kernel
theorem dJ9_floorDiv_7cf53_17 : decode cJ9_floorDiv_7cf53 17 = .ok (.iload_n 2, 1) := by decide +kernel
theorem dJ9_floorDiv_7cf53_18 : decode cJ9_floorDiv_7cf53 18 = .ok (.iconst 1, 1) := by decide +kernel
theorem dJ9_floorDiv_7cf53_19 : decode cJ9_floorDiv_7cf53 19 = .ok (.isub, 1) := by decide +kernel
theorem dJ9_floorDiv_7cf53_20 : decode cJ9_floorDiv_7cf53 20 = .ok (.ireturn, 1) := by decide +kernel
theorem dJ9_floorDiv_7cf53_21 : decode cJ9_floorDiv_7cf53 21 = .ok (.iload_n 2, 1) := by decide +kernel
theorem dJ9_floorDiv_7cf53_22 : decode cJ9_floorDiv_7cf53 22 = .ok (.ireturn, 1) := by decide +kernel
theorem dJ9_floorMod_7cf53_0 : decode cJ9_floorMod_7cf53 0 = .ok (.iload_n 0, 1) := by decide +kernel
theorem dJ9_floorMod_7cf53_1 : decode cJ9_floorMod_7cf53 1 = .ok (.iload_n 1, 1) := by decide +kernel
theorem dJ9_floorMod_7cf53_2 : decode cJ9_floorMod_7cf53 2 = .ok (.irem, 1) := by decide +kernel
theorem dJ9_floorMod_7cf53_3 : decode cJ9_floorMod_7cf53 3 = .ok (.istore_n 2, 1) := by decide +kernel
theorem dJ9_floorMod_7cf53_4 : decode cJ9_floorMod_7cf53 4 = .ok (.iload_n 0, 1) := by decide +kernel
theorem dJ9_floorMod_7cf53_5 : decode cJ9_floorMod_7cf53 5 = .ok (.iload_n 1, 1) := by decide +kernel
theorem dJ9_floorMod_7cf53_6 : decode cJ9_floorMod_7cf53 6 = .ok (.ixor, 1) := by decide +kernel
theorem dJ9_floorMod_7cf53_7 : decode cJ9_floorMod_7cf53 7 = .ok (.ifCond .ge 11, 3) := by decide +kernel
theorem dJ9_floorMod_7cf53_10 : decode cJ9_floorMod_7cf53 10 = .ok (.iload_n 2, 1) := by decide +kernel
theorem dJ9_floorMod_7cf53_11 : decode cJ9_floorMod_7cf53 11 = .ok (.ifCond .eq 7, 3) := by decide +kernel
theorem dJ9_floorMod_7cf53_14 : decode cJ9_floorMod_7cf53 14 = .ok (.iload_n 2, 1) := by decide +kernel
theorem dJ9_floorMod_7cf53_15 : decode cJ9_floorMod_7cf53 15 = .ok (.iload_n 1, 1) := by decide +kernel
theorem dJ9_floorMod_7cf53_16 : decode cJ9_floorMod_7cf53 16 = .ok (.iadd, 1) := by decide +kernel
theorem dJ9_floorMod_7cf53_17 : decode cJ9_floorMod_7cf53 17 = .ok (.ireturn, 1) := by decide +kernel
theorem dJ9_floorMod_7cf53_18 : decode cJ9_floorMod_7cf53 18 = .ok (.iload_n 2, 1) := by decide +kernel
theorem dJ9_floorMod_7cf53_19 : decode cJ9_floorMod_7cf53 19 = .ok (.ireturn, 1) := by decide +kernel
theorem dJ9_abs_0f7a4_0 : decode cJ9_abs_0f7a4 0 = .ok (.iload_n 0, 1) := by decide +kernel
theorem dJ9_abs_0f7a4_1 : decode cJ9_abs_0f7a4 1 = .ok (.ifCond .ge 8, 3) := by decide +kernel
theorem dJ9_abs_0f7a4_4 : decode cJ9_abs_0f7a4 4 = .ok (.iload_n 0, 1) := by decide +kernel
theorem dJ9_abs_0f7a4_5 : decode cJ9_abs_0f7a4 5 = .ok (.ineg, 1) := by decide +kernel
theorem dJ9_abs_0f7a4_6 : decode cJ9_abs_0f7a4 6 = .ok (.goto 4, 3) := by decide +kernel
theorem dJ9_abs_0f7a4_9 : decode cJ9_abs_0f7a4 9 = .ok (.iload_n 0, 1) := by decide +kernel
theorem dJ9_abs_0f7a4_10 : decode cJ9_abs_0f7a4 10 = .ok (.ireturn, 1) := by decide +kernel
theorem dJ9_max_7cf53_0 : decode cJ9_max_7cf53 0 = .ok (.iload_n 0, 1) := by decide +kernel
theorem dJ9_max_7cf53_1 : decode cJ9_max_7cf53 1 = .ok (.iload_n 1, 1) := by decide +kernel
theorem dJ9_max_7cf53_2 : decode cJ9_max_7cf53 2 = .ok (.if_icmp .lt 7, 3) := by decide +kernel
theorem dJ9_max_7cf53_5 : decode cJ9_max_7cf53 5 = .ok (.iload_n 0, 1) := by decide +kernel
theorem dJ9_max_7cf53_6 : decode cJ9_max_7cf53 6 = .ok (.goto 4, 3) := by decide +kernel
theorem dJ9_max_7cf53_9 : decode cJ9_max_7cf53 9 = .ok (.iload_n 1, 1) := by decide +kernel
theorem dJ9_max_7cf53_10 : decode cJ9_max_7cf53 10 = .ok (.ireturn, 1) := by decide +kernel
theorem dJ9_min_7cf53_0 : decode cJ9_min_7cf53 0 = .ok (.iload_n 0, 1) := by decide +kernel
theorem dJ9_min_7cf53_1 : decode cJ9_min_7cf53 1 = .ok (.iload_n 1, 1) := by decide +kernel
theorem dJ9_min_7cf53_2 : decode cJ9_min_7cf53 2 = .ok (.if_icmp .gt 7, 3) := by decide +kernel
theorem dJ9_min_7cf53_5 : decode cJ9_min_7cf53 5 = .ok (.iload_n 0, 1) := by decide +kernel
theorem dJ9_min_7cf53_6 : decode cJ9_min_7cf53 6 = .ok (.goto 4, 3) := by decide +kernel
theorem dJ9_min_7cf53_9 : decode cJ9_min_7cf53 9 = .ok (.iload_n 1, 1) := by decide +kernel
theorem dJ9_min_7cf53_10 : decode cJ9_min_7cf53 10 = .ok (.ireturn, 1) := by decide +kernel
theorem dL_add_0 : decode cL_add 0 = .ok (.aload_n 2, 1) := by decide +kernel
theorem dL_add_1 : decode cL_add 1 = .ok (.iconst 0, 1) := by decide +kernel
theorem dL_add_2 : decode cL_add 2 = .ok (.aload_n 0, 1) := by decide +kernel
theorem dL_add_3 : decode cL_add 3 = .ok (.iload_n 1, 1) := by decide +kernel
theorem dL_add_4 : decode cL_add 4 = .ok (.invokevirtual 7, 3) := by decide +kernel
theorem dL_add_7 : decode cL_add 7 = .ok (.i2l, 1) := by decide +kernel
theorem dL_add_8 : decode cL_add 8 = .ok (.lastore, 1) := by decide +kernel
theorem dL_add_9 : decode cL_add 9 = .ok (.goto 9, 3) := by decide +kernel
theorem dL_add_12 : decode cL_add 12 = .ok (.astore_n 3, 1) := by decide +kernel
theorem dL_add_13 : decode cL_add 13 = .ok (.iconst 1, 1) := by decide +kernel
theorem dL_add_14 : decode cL_add 14 = .ok (.ireturn, 1) := by decide +kernel
theorem dL_add_15 : decode cL_add 15 = .ok (.astore_n 3, 1) := by decide +kernel
theorem dL_add_16 : decode cL_add 16 = .ok (.iconst 2, 1) := by decide +kernel
theorem dL_add_17 : decode cL_add 17 = .ok (.ireturn, 1) := by decide +kernel
theorem dL_add_18 : decode cL_add 18 = .ok (.iconst 0, 1) := by decide +kernel
theorem dL_add_19 : decode cL_add 19 = .ok (.ireturn, 1) := by decide +kernel
theorem dL_read_0 : decode cL_read 0 = .ok (.aload_n 1, 1) := by decide +kernel
theorem dL_read_1 : decode cL_read 1 = .ok (.iconst 0, 1) := by decide +kernel
theorem dL_read_2 : decode cL_read 2 = .ok (.aload_n 0, 1) := by decide +kernel
theorem dL_read_3 : decode cL_read 3 = .ok (.invokevirtual 17, 3) := by decide +kernel
theorem dL_read_6 : decode cL_read 6 = .ok (.lastore, 1) := by decide +kernel
theorem dL_read_7 : decode cL_read 7 = .ok (.goto 6, 3) := by decide +kernel
theorem dL_read_10 : decode cL_read 10 = .ok (.astore_n 2, 1) := by decide +kernel
theorem dL_read_11 : decode cL_read 11 = .ok (.iconst 1, 1) := by decide +kernel
theorem dL_read_12 : decode cL_read 12 = .ok (.ireturn, 1) := by decide +kernel
theorem dL_read_13 : decode cL_read 13 = .ok (.iconst 0, 1) := by decide +kernel
theorem dL_read_14 : decode cL_read 14 = .ok (.ireturn, 1) := by decide +kernel
theorem dL_print_0 : decode cL_print 0 = .ok (.aload 4, 2) := by decide +kernel
theorem dL_print_2 : decode cL_print 2 = .ok (.iconst 0, 1) := by decide +kernel
theorem dL_print_3 : decode cL_print 3 = .ok (.aload_n 0, 1) := by decide +kernel
theorem dL_print_4 : decode cL_print 4 = .ok (.lload_n 1, 1) := by decide +kernel
theorem dL_print_5 : decode cL_print 5 = .ok (.iload_n 3, 1) := by decide +kernel
theorem dL_print_6 : decode cL_print 6 = .ok (.invokevirtual 21, 3) := by decide +kernel
theorem dL_print_9 : decode cL_print 9 = .ok (.i2l, 1) := by decide +kernel
theorem dL_print_10 : decode cL_print 10 = .ok (.lastore, 1) := by decide +kernel
theorem dL_print_11 : decode cL_print 11 = .ok (.goto 11, 3) := by decide +kernel
theorem dL_print_14 : decode cL_print 14 = .ok (.astore 5, 2) := by decide +kernel
theorem dL_print_16 : decode cL_print 16 = .ok (.iconst 1, 1) := by decide +kernel
theorem dL_print_17 : decode cL_print 17 = .ok (.ireturn, 1) := by decide +kernel
theorem dL_print_18 : decode cL_print 18 = .ok (.astore 5, 2) := by decide +kernel
theorem dL_print_20 : decode cL_print 20 = .ok (.iconst 2, 1) := by decide +kernel
theorem dL_print_21 : decode cL_print 21 = .ok (.ireturn, 1) := by decide +kernel
theorem dL_print_22 : decode cL_print 22 = .ok (.iconst 0, 1) := by decide +kernel
theorem dL_print_23 : decode cL_print 23 = .ok (.ireturn, 1) := by decide +kernel
theorem dL_shortest_0 : decode cL_shortest 0 = .ok (.aload_n 3, 1) := by decide +kernel
theorem dL_shortest_1 : decode cL_shortest 1 = .ok (.iconst 0, 1) := by decide +kernel
theorem dL_shortest_2 : decode cL_shortest 2 = .ok (.aload_n 0, 1) := by decide +kernel
theorem dL_shortest_3 : decode cL_shortest 3 = .ok (.lload_n 1, 1) := by decide +kernel
theorem dL_shortest_4 : decode cL_shortest 4 = .ok (.invokevirtual 25, 3) := by decide +kernel
theorem dL_shortest_7 : decode cL_shortest 7 = .ok (.i2l, 1) := by decide +kernel
theorem dL_shortest_8 : decode cL_shortest 8 = .ok (.lastore, 1) := by decide +kernel
theorem dL_shortest_9 : decode cL_shortest 9 = .ok (.goto 7, 3) := by decide +kernel
theorem dL_shortest_12 : decode cL_shortest 12 = .ok (.astore 4, 2) := by decide +kernel
theorem dL_shortest_14 : decode cL_shortest 14 = .ok (.iconst 1, 1) := by decide +kernel
theorem dL_shortest_15 : decode cL_shortest 15 = .ok (.ireturn, 1) := by decide +kernel
theorem dL_shortest_16 : decode cL_shortest 16 = .ok (.iconst 0, 1) := by decide +kernel
theorem dL_shortest_17 : decode cL_shortest 17 = .ok (.ireturn, 1) := by decide +kernel
theorem dL_letter_0 : decode cL_letter 0 = .ok (.aload_n 2, 1) := by decide +kernel
theorem dL_letter_1 : decode cL_letter 1 = .ok (.iconst 0, 1) := by decide +kernel
theorem dL_letter_2 : decode cL_letter 2 = .ok (.aload_n 0, 1) := by decide +kernel
theorem dL_letter_3 : decode cL_letter 3 = .ok (.iload_n 1, 1) := by decide +kernel
theorem dL_letter_4 : decode cL_letter 4 = .ok (.invokevirtual 29, 3) := by decide +kernel
theorem dL_letter_7 : decode cL_letter 7 = .ok (.i2l, 1) := by decide +kernel
theorem dL_letter_8 : decode cL_letter 8 = .ok (.lastore, 1) := by decide +kernel
theorem dL_letter_9 : decode cL_letter 9 = .ok (.goto 6, 3) := by decide +kernel
theorem dL_letter_12 : decode cL_letter 12 = .ok (.astore_n 3, 1) := by decide +kernel
theorem dL_letter_13 : decode cL_letter 13 = .ok (.iconst 1, 1) := by decide +kernel
theorem dL_letter_14 : decode cL_letter 14 = .ok (.ireturn, 1) := by decide +kernel
theorem dL_letter_15 : decode cL_letter 15 = .ok (.iconst 0, 1) := by decide +kernel
theorem dL_letter_16 : decode cL_letter 16 = .ok (.ireturn, 1) := by decide +kernel
theorem dL_law_0 : decode cL_law 0 = .ok (.new 8, 3) := by decide +kernel
theorem dL_law_3 : decode cL_law 3 = .ok (.dup, 1) := by decide +kernel
theorem dL_law_4 : decode cL_law 4 = .ok (.invokespecial 34, 3) := by decide +kernel
theorem dL_law_7 : decode cL_law 7 = .ok (.astore_n 1, 1) := by decide +kernel
theorem dL_law_8 : decode cL_law 8 = .ok (.new 35, 3) := by decide +kernel
theorem dL_law_11 : decode cL_law 11 = .ok (.dup, 1) := by decide +kernel
theorem dL_law_12 : decode cL_law 12 = .ok (.invokespecial 37, 3) := by decide +kernel
theorem dL_law_15 : decode cL_law 15 = .ok (.astore_n 2, 1) := by decide +kernel
theorem dL_law_16 : decode cL_law 16 = .ok (.iconst 1, 1) := by decide +kernel
theorem dL_law_17 : decode cL_law 17 = .ok (.newarray .long, 2) := by decide +kernel
theorem dL_law_19 : decode cL_law 19 = .ok (.astore_n 3, 1) := by decide +kernel
theorem dL_law_20 : decode cL_law 20 = .ok (.iconst 0, 1) := by decide +kernel
theorem dL_law_21 : decode cL_law 21 = .ok (.istore 4, 2) := by decide +kernel
theorem dL_law_23 : decode cL_law 23 = .ok (.iload 4, 2) := by decide +kernel
theorem dL_law_25 : decode cL_law 25 = .ok (.aload_n 0, 1) := by decide +kernel
theorem dL_law_26 : decode cL_law 26 = .ok (.arraylength, 1) := by decide +kernel
theorem dL_law_27 : decode cL_law 27 = .ok (.iconst 4, 1) := by decide +kernel
theorem dL_law_28 : decode cL_law 28 = .ok (.isub, 1) := by decide +kernel
theorem dL_law_29 : decode cL_law 29 = .ok (.if_icmp .gt 407, 3) := by decide +kernel
theorem dL_law_32 : decode cL_law 32 = .ok (.aload_n 0, 1) := by decide +kernel
theorem dL_law_33 : decode cL_law 33 = .ok (.iload 4, 2) := by decide +kernel
theorem dL_law_35 : decode cL_law 35 = .ok (.iaload, 1) := by decide +kernel
theorem dL_law_36 : decode cL_law 36 = .ok (.bipush 7, 2) := by decide +kernel
theorem dL_law_38 : decode cL_law 38 = .ok (.iand, 1) := by decide +kernel
theorem dL_law_39 : decode cL_law 39 = .ok (.tableswitch 391 0 5 #[37, 48, 104, 147, 247, 335], 37) := by decide +kernel
theorem dL_law_76 : decode cL_law 76 = .ok (.aload_n 1, 1) := by decide +kernel
theorem dL_law_77 : decode cL_law 77 = .ok (.invokevirtual 38, 3) := by decide +kernel
theorem dL_law_80 : decode cL_law 80 = .ok (.aload_n 2, 1) := by decide +kernel
theorem dL_law_81 : decode cL_law 81 = .ok (.invokevirtual 41, 3) := by decide +kernel
theorem dL_law_84 : decode cL_law 84 = .ok (.goto 346, 3) := by decide +kernel
theorem dL_law_87 : decode cL_law 87 = .ok (.aload_n 1, 1) := by decide +kernel
theorem dL_law_88 : decode cL_law 88 = .ok (.aload_n 0, 1) := by decide +kernel
theorem dL_law_89 : decode cL_law 89 = .ok (.iload 4, 2) := by decide +kernel
theorem dL_law_91 : decode cL_law 91 = .ok (.iconst 1, 1) := by decide +kernel
theorem dL_law_92 : decode cL_law 92 = .ok (.iadd, 1) := by decide +kernel
theorem dL_law_93 : decode cL_law 93 = .ok (.iaload, 1) := by decide +kernel
theorem dL_law_94 : decode cL_law 94 = .ok (.aload_n 3, 1) := by decide +kernel
theorem dL_law_95 : decode cL_law 95 = .ok (.invokestatic 42, 3) := by decide +kernel
theorem dL_law_98 : decode cL_law 98 = .ok (.istore 5, 2) := by decide +kernel
theorem dL_law_100 : decode cL_law 100 = .ok (.aload_n 2, 1) := by decide +kernel
theorem dL_law_101 : decode cL_law 101 = .ok (.aload_n 0, 1) := by decide +kernel
theorem dL_law_102 : decode cL_law 102 = .ok (.iload 4, 2) := by decide +kernel
theorem dL_law_104 : decode cL_law 104 = .ok (.iconst 1, 1) := by decide +kernel
theorem dL_law_105 : decode cL_law 105 = .ok (.iadd, 1) := by decide +kernel
theorem dL_law_106 : decode cL_law 106 = .ok (.iaload, 1) := by decide +kernel
theorem dL_law_107 : decode cL_law 107 = .ok (.invokevirtual 47, 3) := by decide +kernel
theorem dL_law_110 : decode cL_law 110 = .ok (.istore 6, 2) := by decide +kernel
theorem dL_law_112 : decode cL_law 112 = .ok (.aload_n 2, 1) := by decide +kernel
theorem dL_law_113 : decode cL_law 113 = .ok (.invokevirtual 48, 3) := by decide +kernel
theorem dL_law_116 : decode cL_law 116 = .ok (.iload 5, 2) := by decide +kernel
theorem dL_law_118 : decode cL_law 118 = .ok (.if_icmp .eq 5, 3) := by decide +kernel
theorem dL_law_121 : decode cL_law 121 = .ok (.iconst 0, 1) := by decide +kernel
theorem dL_law_122 : decode cL_law 122 = .ok (.ireturn, 1) := by decide +kernel
theorem dL_law_123 : decode cL_law 123 = .ok (.iload 5, 2) := by decide +kernel
theorem dL_law_125 : decode cL_law 125 = .ok (.ifCond .ne 15, 3) := by decide +kernel
theorem dL_law_128 : decode cL_law 128 = .ok (.aload_n 3, 1) := by decide +kernel
theorem dL_law_129 : decode cL_law 129 = .ok (.iconst 0, 1) := by decide +kernel
theorem dL_law_130 : decode cL_law 130 = .ok (.laload, 1) := by decide +kernel
theorem dL_law_131 : decode cL_law 131 = .ok (.iload 6, 2) := by decide +kernel
theorem dL_law_133 : decode cL_law 133 = .ok (.i2l, 1) := by decide +kernel
theorem dL_law_134 : decode cL_law 134 = .ok (.lcmp, 1) := by decide +kernel
theorem dL_law_135 : decode cL_law 135 = .ok (.ifCond .eq 5, 3) := by decide +kernel
theorem dL_law_138 : decode cL_law 138 = .ok (.iconst 0, 1) := by decide +kernel
theorem dL_law_139 : decode cL_law 139 = .ok (.ireturn, 1) := by decide +kernel
theorem dL_law_140 : decode cL_law 140 = .ok (.goto 290, 3) := by decide +kernel
theorem dL_law_143 : decode cL_law 143 = .ok (.aload_n 1, 1) := by decide +kernel
theorem dL_law_144 : decode cL_law 144 = .ok (.aload_n 3, 1) := by decide +kernel
theorem dL_law_145 : decode cL_law 145 = .ok (.invokestatic 52, 3) := by decide +kernel
theorem dL_law_148 : decode cL_law 148 = .ok (.istore 5, 2) := by decide +kernel
theorem dL_law_150 : decode cL_law 150 = .ok (.aload_n 2, 1) := by decide +kernel
theorem dL_law_151 : decode cL_law 151 = .ok (.invokevirtual 55, 3) := by decide +kernel
theorem dL_law_154 : decode cL_law 154 = .ok (.lstore 6, 2) := by decide +kernel
theorem dL_law_156 : decode cL_law 156 = .ok (.aload_n 2, 1) := by decide +kernel
theorem dL_law_157 : decode cL_law 157 = .ok (.invokevirtual 48, 3) := by decide +kernel
theorem dL_law_160 : decode cL_law 160 = .ok (.iload 5, 2) := by decide +kernel
theorem dL_law_162 : decode cL_law 162 = .ok (.if_icmp .eq 5, 3) := by decide +kernel
theorem dL_law_165 : decode cL_law 165 = .ok (.iconst 0, 1) := by decide +kernel
theorem dL_law_166 : decode cL_law 166 = .ok (.ireturn, 1) := by decide +kernel
theorem dL_law_167 : decode cL_law 167 = .ok (.iload 5, 2) := by decide +kernel
theorem dL_law_169 : decode cL_law 169 = .ok (.ifCond .ne 14, 3) := by decide +kernel
theorem dL_law_172 : decode cL_law 172 = .ok (.aload_n 3, 1) := by decide +kernel
theorem dL_law_173 : decode cL_law 173 = .ok (.iconst 0, 1) := by decide +kernel
theorem dL_law_174 : decode cL_law 174 = .ok (.laload, 1) := by decide +kernel
theorem dL_law_175 : decode cL_law 175 = .ok (.lload 6, 2) := by decide +kernel
theorem dL_law_177 : decode cL_law 177 = .ok (.lcmp, 1) := by decide +kernel
theorem dL_law_178 : decode cL_law 178 = .ok (.ifCond .eq 5, 3) := by decide +kernel
theorem dL_law_181 : decode cL_law 181 = .ok (.iconst 0, 1) := by decide +kernel
theorem dL_law_182 : decode cL_law 182 = .ok (.ireturn, 1) := by decide +kernel
theorem dL_law_183 : decode cL_law 183 = .ok (.goto 247, 3) := by decide +kernel
theorem dL_law_186 : decode cL_law 186 = .ok (.aload_n 1, 1) := by decide +kernel
theorem dL_law_187 : decode cL_law 187 = .ok (.aload_n 0, 1) := by decide +kernel
theorem dL_law_188 : decode cL_law 188 = .ok (.iload 4, 2) := by decide +kernel
theorem dL_law_190 : decode cL_law 190 = .ok (.iconst 1, 1) := by decide +kernel
theorem dL_law_191 : decode cL_law 191 = .ok (.iadd, 1) := by decide +kernel
theorem dL_law_192 : decode cL_law 192 = .ok (.iaload, 1) := by decide +kernel
theorem dL_law_193 : decode cL_law 193 = .ok (.i2l, 1) := by decide +kernel
theorem dL_law_194 : decode cL_law 194 = .ok (.bipush 32, 2) := by decide +kernel
theorem dL_law_196 : decode cL_law 196 = .ok (.lshl, 1) := by decide +kernel
theorem dL_law_197 : decode cL_law 197 = .ok (.aload_n 0, 1) := by decide +kernel
theorem dL_law_198 : decode cL_law 198 = .ok (.iload 4, 2) := by decide +kernel
theorem dL_law_200 : decode cL_law 200 = .ok (.iconst 2, 1) := by decide +kernel
theorem dL_law_201 : decode cL_law 201 = .ok (.iadd, 1) := by decide +kernel
theorem dL_law_202 : decode cL_law 202 = .ok (.iaload, 1) := by decide +kernel
theorem dL_law_203 : decode cL_law 203 = .ok (.i2l, 1) := by decide +kernel
theorem dL_law_204 : decode cL_law 204 = .ok (.ldc2_w 56, 3) := by decide +kernel
theorem dL_law_207 : decode cL_law 207 = .ok (.land, 1) := by decide +kernel
theorem dL_law_208 : decode cL_law 208 = .ok (.lor, 1) := by decide +kernel
theorem dL_law_209 : decode cL_law 209 = .ok (.aload_n 0, 1) := by decide +kernel
theorem dL_law_210 : decode cL_law 210 = .ok (.iload 4, 2) := by decide +kernel
theorem dL_law_212 : decode cL_law 212 = .ok (.iconst 3, 1) := by decide +kernel
theorem dL_law_213 : decode cL_law 213 = .ok (.iadd, 1) := by decide +kernel
theorem dL_law_214 : decode cL_law 214 = .ok (.iaload, 1) := by decide +kernel
theorem dL_law_215 : decode cL_law 215 = .ok (.aload_n 3, 1) := by decide +kernel
theorem dL_law_216 : decode cL_law 216 = .ok (.invokestatic 58, 3) := by decide +kernel
theorem dL_law_219 : decode cL_law 219 = .ok (.istore 5, 2) := by decide +kernel
theorem dL_law_221 : decode cL_law 221 = .ok (.aload_n 2, 1) := by decide +kernel
theorem dL_law_222 : decode cL_law 222 = .ok (.aload_n 0, 1) := by decide +kernel
theorem dL_law_223 : decode cL_law 223 = .ok (.iload 4, 2) := by decide +kernel
theorem dL_law_225 : decode cL_law 225 = .ok (.iconst 1, 1) := by decide +kernel
theorem dL_law_226 : decode cL_law 226 = .ok (.iadd, 1) := by decide +kernel
theorem dL_law_227 : decode cL_law 227 = .ok (.iaload, 1) := by decide +kernel
theorem dL_law_228 : decode cL_law 228 = .ok (.i2l, 1) := by decide +kernel
theorem dL_law_229 : decode cL_law 229 = .ok (.bipush 32, 2) := by decide +kernel
theorem dL_law_231 : decode cL_law 231 = .ok (.lshl, 1) := by decide +kernel
theorem dL_law_232 : decode cL_law 232 = .ok (.aload_n 0, 1) := by decide +kernel
theorem dL_law_233 : decode cL_law 233 = .ok (.iload 4, 2) := by decide +kernel
theorem dL_law_235 : decode cL_law 235 = .ok (.iconst 2, 1) := by decide +kernel
theorem dL_law_236 : decode cL_law 236 = .ok (.iadd, 1) := by decide +kernel
theorem dL_law_237 : decode cL_law 237 = .ok (.iaload, 1) := by decide +kernel
theorem dL_law_238 : decode cL_law 238 = .ok (.i2l, 1) := by decide +kernel
theorem dL_law_239 : decode cL_law 239 = .ok (.ldc2_w 56, 3) := by decide +kernel
theorem dL_law_242 : decode cL_law 242 = .ok (.land, 1) := by decide +kernel
theorem dL_law_243 : decode cL_law 243 = .ok (.lor, 1) := by decide +kernel
theorem dL_law_244 : decode cL_law 244 = .ok (.aload_n 0, 1) := by decide +kernel
theorem dL_law_245 : decode cL_law 245 = .ok (.iload 4, 2) := by decide +kernel
theorem dL_law_247 : decode cL_law 247 = .ok (.iconst 3, 1) := by decide +kernel
theorem dL_law_248 : decode cL_law 248 = .ok (.iadd, 1) := by decide +kernel
theorem dL_law_249 : decode cL_law 249 = .ok (.iaload, 1) := by decide +kernel
theorem dL_law_250 : decode cL_law 250 = .ok (.invokevirtual 61, 3) := by decide +kernel
theorem dL_law_253 : decode cL_law 253 = .ok (.istore 6, 2) := by decide +kernel
theorem dL_law_255 : decode cL_law 255 = .ok (.aload_n 2, 1) := by decide +kernel
theorem dL_law_256 : decode cL_law 256 = .ok (.invokevirtual 48, 3) := by decide +kernel
theorem dL_law_259 : decode cL_law 259 = .ok (.iload 5, 2) := by decide +kernel
theorem dL_law_261 : decode cL_law 261 = .ok (.if_icmp .eq 5, 3) := by decide +kernel
theorem dL_law_264 : decode cL_law 264 = .ok (.iconst 0, 1) := by decide +kernel
theorem dL_law_265 : decode cL_law 265 = .ok (.ireturn, 1) := by decide +kernel
theorem dL_law_266 : decode cL_law 266 = .ok (.iload 5, 2) := by decide +kernel
theorem dL_law_268 : decode cL_law 268 = .ok (.ifCond .ne 15, 3) := by decide +kernel
theorem dL_law_271 : decode cL_law 271 = .ok (.aload_n 3, 1) := by decide +kernel
theorem dL_law_272 : decode cL_law 272 = .ok (.iconst 0, 1) := by decide +kernel
theorem dL_law_273 : decode cL_law 273 = .ok (.laload, 1) := by decide +kernel
theorem dL_law_274 : decode cL_law 274 = .ok (.iload 6, 2) := by decide +kernel
theorem dL_law_276 : decode cL_law 276 = .ok (.i2l, 1) := by decide +kernel
theorem dL_law_277 : decode cL_law 277 = .ok (.lcmp, 1) := by decide +kernel
theorem dL_law_278 : decode cL_law 278 = .ok (.ifCond .eq 5, 3) := by decide +kernel
theorem dL_law_281 : decode cL_law 281 = .ok (.iconst 0, 1) := by decide +kernel
theorem dL_law_282 : decode cL_law 282 = .ok (.ireturn, 1) := by decide +kernel
theorem dL_law_283 : decode cL_law 283 = .ok (.goto 147, 3) := by decide +kernel
theorem dL_law_286 : decode cL_law 286 = .ok (.aload_n 1, 1) := by decide +kernel
theorem dL_law_287 : decode cL_law 287 = .ok (.aload_n 0, 1) := by decide +kernel
theorem dL_law_288 : decode cL_law 288 = .ok (.iload 4, 2) := by decide +kernel
theorem dL_law_290 : decode cL_law 290 = .ok (.iconst 1, 1) := by decide +kernel
theorem dL_law_291 : decode cL_law 291 = .ok (.iadd, 1) := by decide +kernel
theorem dL_law_292 : decode cL_law 292 = .ok (.iaload, 1) := by decide +kernel
theorem dL_law_293 : decode cL_law 293 = .ok (.i2l, 1) := by decide +kernel
theorem dL_law_294 : decode cL_law 294 = .ok (.bipush 32, 2) := by decide +kernel
theorem dL_law_296 : decode cL_law 296 = .ok (.lshl, 1) := by decide +kernel
theorem dL_law_297 : decode cL_law 297 = .ok (.aload_n 0, 1) := by decide +kernel
theorem dL_law_298 : decode cL_law 298 = .ok (.iload 4, 2) := by decide +kernel
theorem dL_law_300 : decode cL_law 300 = .ok (.iconst 2, 1) := by decide +kernel
theorem dL_law_301 : decode cL_law 301 = .ok (.iadd, 1) := by decide +kernel
theorem dL_law_302 : decode cL_law 302 = .ok (.iaload, 1) := by decide +kernel
theorem dL_law_303 : decode cL_law 303 = .ok (.i2l, 1) := by decide +kernel
theorem dL_law_304 : decode cL_law 304 = .ok (.ldc2_w 56, 3) := by decide +kernel
theorem dL_law_307 : decode cL_law 307 = .ok (.land, 1) := by decide +kernel
theorem dL_law_308 : decode cL_law 308 = .ok (.lor, 1) := by decide +kernel
theorem dL_law_309 : decode cL_law 309 = .ok (.aload_n 3, 1) := by decide +kernel
theorem dL_law_310 : decode cL_law 310 = .ok (.invokestatic 62, 3) := by decide +kernel
theorem dL_law_313 : decode cL_law 313 = .ok (.istore 5, 2) := by decide +kernel
theorem dL_law_315 : decode cL_law 315 = .ok (.aload_n 2, 1) := by decide +kernel
theorem dL_law_316 : decode cL_law 316 = .ok (.aload_n 0, 1) := by decide +kernel
theorem dL_law_317 : decode cL_law 317 = .ok (.iload 4, 2) := by decide +kernel
theorem dL_law_319 : decode cL_law 319 = .ok (.iconst 1, 1) := by decide +kernel
theorem dL_law_320 : decode cL_law 320 = .ok (.iadd, 1) := by decide +kernel
theorem dL_law_321 : decode cL_law 321 = .ok (.iaload, 1) := by decide +kernel
theorem dL_law_322 : decode cL_law 322 = .ok (.i2l, 1) := by decide +kernel
theorem dL_law_323 : decode cL_law 323 = .ok (.bipush 32, 2) := by decide +kernel
theorem dL_law_325 : decode cL_law 325 = .ok (.lshl, 1) := by decide +kernel
theorem dL_law_326 : decode cL_law 326 = .ok (.aload_n 0, 1) := by decide +kernel
theorem dL_law_327 : decode cL_law 327 = .ok (.iload 4, 2) := by decide +kernel
theorem dL_law_329 : decode cL_law 329 = .ok (.iconst 2, 1) := by decide +kernel
theorem dL_law_330 : decode cL_law 330 = .ok (.iadd, 1) := by decide +kernel
theorem dL_law_331 : decode cL_law 331 = .ok (.iaload, 1) := by decide +kernel
theorem dL_law_332 : decode cL_law 332 = .ok (.i2l, 1) := by decide +kernel
theorem dL_law_333 : decode cL_law 333 = .ok (.ldc2_w 56, 3) := by decide +kernel
theorem dL_law_336 : decode cL_law 336 = .ok (.land, 1) := by decide +kernel
theorem dL_law_337 : decode cL_law 337 = .ok (.lor, 1) := by decide +kernel
theorem dL_law_338 : decode cL_law 338 = .ok (.invokevirtual 65, 3) := by decide +kernel
theorem dL_law_341 : decode cL_law 341 = .ok (.istore 6, 2) := by decide +kernel
theorem dL_law_343 : decode cL_law 343 = .ok (.aload_n 2, 1) := by decide +kernel
theorem dL_law_344 : decode cL_law 344 = .ok (.invokevirtual 48, 3) := by decide +kernel
theorem dL_law_347 : decode cL_law 347 = .ok (.iload 5, 2) := by decide +kernel
theorem dL_law_349 : decode cL_law 349 = .ok (.if_icmp .eq 5, 3) := by decide +kernel
theorem dL_law_352 : decode cL_law 352 = .ok (.iconst 0, 1) := by decide +kernel
theorem dL_law_353 : decode cL_law 353 = .ok (.ireturn, 1) := by decide +kernel
theorem dL_law_354 : decode cL_law 354 = .ok (.iload 5, 2) := by decide +kernel
theorem dL_law_356 : decode cL_law 356 = .ok (.ifCond .ne 15, 3) := by decide +kernel
theorem dL_law_359 : decode cL_law 359 = .ok (.aload_n 3, 1) := by decide +kernel
theorem dL_law_360 : decode cL_law 360 = .ok (.iconst 0, 1) := by decide +kernel
theorem dL_law_361 : decode cL_law 361 = .ok (.laload, 1) := by decide +kernel
theorem dL_law_362 : decode cL_law 362 = .ok (.iload 6, 2) := by decide +kernel
theorem dL_law_364 : decode cL_law 364 = .ok (.i2l, 1) := by decide +kernel
theorem dL_law_365 : decode cL_law 365 = .ok (.lcmp, 1) := by decide +kernel
theorem dL_law_366 : decode cL_law 366 = .ok (.ifCond .eq 5, 3) := by decide +kernel
theorem dL_law_369 : decode cL_law 369 = .ok (.iconst 0, 1) := by decide +kernel
theorem dL_law_370 : decode cL_law 370 = .ok (.ireturn, 1) := by decide +kernel
theorem dL_law_371 : decode cL_law 371 = .ok (.goto 59, 3) := by decide +kernel
theorem dL_law_374 : decode cL_law 374 = .ok (.aload_n 1, 1) := by decide +kernel
theorem dL_law_375 : decode cL_law 375 = .ok (.aload_n 0, 1) := by decide +kernel
theorem dL_law_376 : decode cL_law 376 = .ok (.iload 4, 2) := by decide +kernel
theorem dL_law_378 : decode cL_law 378 = .ok (.iconst 1, 1) := by decide +kernel
theorem dL_law_379 : decode cL_law 379 = .ok (.iadd, 1) := by decide +kernel
theorem dL_law_380 : decode cL_law 380 = .ok (.iaload, 1) := by decide +kernel
theorem dL_law_381 : decode cL_law 381 = .ok (.aload_n 3, 1) := by decide +kernel
theorem dL_law_382 : decode cL_law 382 = .ok (.invokestatic 66, 3) := by decide +kernel
theorem dL_law_385 : decode cL_law 385 = .ok (.istore 5, 2) := by decide +kernel
theorem dL_law_387 : decode cL_law 387 = .ok (.aload_n 2, 1) := by decide +kernel
theorem dL_law_388 : decode cL_law 388 = .ok (.aload_n 0, 1) := by decide +kernel
theorem dL_law_389 : decode cL_law 389 = .ok (.iload 4, 2) := by decide +kernel
theorem dL_law_391 : decode cL_law 391 = .ok (.iconst 1, 1) := by decide +kernel
theorem dL_law_392 : decode cL_law 392 = .ok (.iadd, 1) := by decide +kernel
theorem dL_law_393 : decode cL_law 393 = .ok (.iaload, 1) := by decide +kernel
theorem dL_law_394 : decode cL_law 394 = .ok (.invokevirtual 68, 3) := by decide +kernel
theorem dL_law_397 : decode cL_law 397 = .ok (.istore 6, 2) := by decide +kernel
theorem dL_law_399 : decode cL_law 399 = .ok (.aload_n 2, 1) := by decide +kernel
theorem dL_law_400 : decode cL_law 400 = .ok (.invokevirtual 48, 3) := by decide +kernel
theorem dL_law_403 : decode cL_law 403 = .ok (.iload 5, 2) := by decide +kernel
theorem dL_law_405 : decode cL_law 405 = .ok (.if_icmp .eq 5, 3) := by decide +kernel
theorem dL_law_408 : decode cL_law 408 = .ok (.iconst 0, 1) := by decide +kernel
theorem dL_law_409 : decode cL_law 409 = .ok (.ireturn, 1) := by decide +kernel
theorem dL_law_410 : decode cL_law 410 = .ok (.iload 5, 2) := by decide +kernel
theorem dL_law_412 : decode cL_law 412 = .ok (.ifCond .ne 15, 3) := by decide +kernel
theorem dL_law_415 : decode cL_law 415 = .ok (.aload_n 3, 1) := by decide +kernel
theorem dL_law_416 : decode cL_law 416 = .ok (.iconst 0, 1) := by decide +kernel
theorem dL_law_417 : decode cL_law 417 = .ok (.laload, 1) := by decide +kernel
theorem dL_law_418 : decode cL_law 418 = .ok (.iload 6, 2) := by decide +kernel
theorem dL_law_420 : decode cL_law 420 = .ok (.i2l, 1) := by decide +kernel
theorem dL_law_421 : decode cL_law 421 = .ok (.lcmp, 1) := by decide +kernel
theorem dL_law_422 : decode cL_law 422 = .ok (.ifCond .eq 5, 3) := by decide +kernel
theorem dL_law_425 : decode cL_law 425 = .ok (.iconst 0, 1) := by decide +kernel
theorem dL_law_426 : decode cL_law 426 = .ok (.ireturn, 1) := by decide +kernel
theorem dL_law_427 : decode cL_law 427 = .ok (.goto 3, 3) := by decide +kernel
theorem dL_law_430 : decode cL_law 430 = .ok (.iinc 4 4, 3) := by decide +kernel
theorem dL_law_433 : decode cL_law 433 = .ok (.goto (-410), 3) := by decide +kernel
theorem dL_law_436 : decode cL_law 436 = .ok (.iconst 1, 1) := by decide +kernel
theorem dL_law_437 : decode cL_law 437 = .ok (.ireturn, 1) := by decide +kernel
end
section
/-! base: small rows for the walks; the words of every method are all of wsL_law -/
def FU : Nat := 8192
theorem gd {P : Prop} [Decidable P] {α : Type} {X : Option α} {o : α} (h : (if P then none else X) = some o) : ¬ P ∧ X = some o := by
  by_cases hp : P
  · rw [if_pos hp] at h; cases h
  · rw [if_neg hp] at h; exact ⟨hp, h⟩
theorem bd {α β : Type} {x : Option α} {k : α → Option β} {o : β} (h : x.bind k = some o) : ∃ u, x = some u ∧ k u = some o := by
  cases x with
  | none => cases h
  | some u => exact ⟨u, rfl, h⟩
theorem goodAll : GoodIn wsL_law wsL_law := goodIn_sub (fun _ h => h) (by decide +kernel)
theorem gV {own : String} {idx : Nat} {C : String} {y : MethodName} {b : ByteArray} {n : Nat} {r : Option FieldType} (h1 : Cond.methodLink own idx y ∈ wsL_law) (h2 : Cond.instanceMethod y ∈ wsL_law) (h3 : Cond.selects C y y ∈ wsL_law) (h4 : Cond.initialized C ∈ wsL_law) (h5 : Cond.code y b n r ∈ wsL_law) : GoodIn wsL_law (wsV own idx C y (Cond.code y b n r :: wsL_law)) := by
  intro w hw
  unfold wsV at hw
  rcases List.mem_append.mp hw with h | h
  · simp only [List.mem_cons, List.not_mem_nil, or_false] at h
    rcases h with rfl | rfl | rfl | rfl
    · exact goodAll _ h1
    · exact goodAll _ h2
    · exact goodAll _ h3
    · exact goodAll _ h4
  · rcases List.mem_cons.mp h with rfl | h
    · exact goodAll _ h5
    · exact goodAll _ h
theorem gS {own : String} {idx : Nat} {y : MethodName} {b : ByteArray} {n : Nat} {r : Option FieldType} (h1 : Cond.methodLink own idx y ∈ wsL_law) (h2 : Cond.static y ∈ wsL_law) (h4 : Cond.initialized y.cls ∈ wsL_law) (h5 : Cond.code y b n r ∈ wsL_law) : GoodIn wsL_law (va_wsS own idx y (Cond.code y b n r :: wsL_law)) := by
  intro w hw
  unfold va_wsS at hw
  rcases List.mem_append.mp hw with h | h
  · simp only [List.mem_cons, List.not_mem_nil, or_false] at h
    rcases h with rfl | rfl | rfl
    · exact goodAll _ h1
    · exact goodAll _ h2
    · exact goodAll _ h4
  · rcases List.mem_cons.mp h with rfl | h
    · exact goodAll _ h5
    · exact goodAll _ h
theorem gI {y : MethodName} {b : ByteArray} {n : Nat} {r : Option FieldType} (h5 : Cond.code y b n r ∈ wsL_law) : GoodIn wsL_law (Cond.code y b n r :: wsL_law) := by
  intro w hw
  rcases List.mem_cons.mp hw with rfl | h
  · exact goodAll _ h5
  · exact goodAll _ h
/-- the class's table of tens -/
def TENS_f (j : Nat) : Int64 := if j = 0 then 1 else if j = 1 then 10 else if j = 2 then 100 else if j = 3 then 1000 else if j = 4 then 10000 else if j = 5 then 100000 else if j = 6 then 1000000 else if j = 7 then 10000000 else 100000000
def TENS_v (j : Nat) : Value := .long (TENS_f j)
theorem rt1 {α : Type} {a o : α} (h : some a = some o) : o = a := (Option.some.inj h).symm
theorem rt2 {A0 A1 : Type} {a0 o0 : A0} {a1 o1 : A1} (h : some (a0, a1) = some (o0, o1)) : o0 = a0 ∧ o1 = a1 := by
  have h := Option.some.inj h
  simp only [Prod.mk.injEq] at h
  obtain ⟨h0, h1⟩ := h
  exact ⟨h0.symm, h1.symm⟩
theorem rt3 {A0 A1 A2 : Type} {a0 o0 : A0} {a1 o1 : A1} {a2 o2 : A2} (h : some (a0, a1, a2) = some (o0, o1, o2)) : o0 = a0 ∧ o1 = a1 ∧ o2 = a2 := by
  have h := Option.some.inj h
  simp only [Prod.mk.injEq] at h
  obtain ⟨h0, h1, h2⟩ := h
  exact ⟨h0.symm, h1.symm, h2.symm⟩
theorem rt4 {A0 A1 A2 A3 : Type} {a0 o0 : A0} {a1 o1 : A1} {a2 o2 : A2} {a3 o3 : A3} (h : some (a0, a1, a2, a3) = some (o0, o1, o2, o3)) : o0 = a0 ∧ o1 = a1 ∧ o2 = a2 ∧ o3 = a3 := by
  have h := Option.some.inj h
  simp only [Prod.mk.injEq] at h
  obtain ⟨h0, h1, h2, h3⟩ := h
  exact ⟨h0.symm, h1.symm, h2.symm, h3.symm⟩
theorem rt5 {A0 A1 A2 A3 A4 : Type} {a0 o0 : A0} {a1 o1 : A1} {a2 o2 : A2} {a3 o3 : A3} {a4 o4 : A4} (h : some (a0, a1, a2, a3, a4) = some (o0, o1, o2, o3, o4)) : o0 = a0 ∧ o1 = a1 ∧ o2 = a2 ∧ o3 = a3 ∧ o4 = a4 := by
  have h := Option.some.inj h
  simp only [Prod.mk.injEq] at h
  obtain ⟨h0, h1, h2, h3, h4⟩ := h
  exact ⟨h0.symm, h1.symm, h2.symm, h3.symm, h4.symm⟩
theorem rt6 {A0 A1 A2 A3 A4 A5 : Type} {a0 o0 : A0} {a1 o1 : A1} {a2 o2 : A2} {a3 o3 : A3} {a4 o4 : A4} {a5 o5 : A5} (h : some (a0, a1, a2, a3, a4, a5) = some (o0, o1, o2, o3, o4, o5)) : o0 = a0 ∧ o1 = a1 ∧ o2 = a2 ∧ o3 = a3 ∧ o4 = a4 ∧ o5 = a5 := by
  have h := Option.some.inj h
  simp only [Prod.mk.injEq] at h
  obtain ⟨h0, h1, h2, h3, h4, h5⟩ := h
  exact ⟨h0.symm, h1.symm, h2.symm, h3.symm, h4.symm, h5.symm⟩
theorem rt7 {A0 A1 A2 A3 A4 A5 A6 : Type} {a0 o0 : A0} {a1 o1 : A1} {a2 o2 : A2} {a3 o3 : A3} {a4 o4 : A4} {a5 o5 : A5} {a6 o6 : A6} (h : some (a0, a1, a2, a3, a4, a5, a6) = some (o0, o1, o2, o3, o4, o5, o6)) : o0 = a0 ∧ o1 = a1 ∧ o2 = a2 ∧ o3 = a3 ∧ o4 = a4 ∧ o5 = a5 ∧ o6 = a6 := by
  have h := Option.some.inj h
  simp only [Prod.mk.injEq] at h
  obtain ⟨h0, h1, h2, h3, h4, h5, h6⟩ := h
  exact ⟨h0.symm, h1.symm, h2.symm, h3.symm, h4.symm, h5.symm, h6.symm⟩
theorem rt8 {A0 A1 A2 A3 A4 A5 A6 A7 : Type} {a0 o0 : A0} {a1 o1 : A1} {a2 o2 : A2} {a3 o3 : A3} {a4 o4 : A4} {a5 o5 : A5} {a6 o6 : A6} {a7 o7 : A7} (h : some (a0, a1, a2, a3, a4, a5, a6, a7) = some (o0, o1, o2, o3, o4, o5, o6, o7)) : o0 = a0 ∧ o1 = a1 ∧ o2 = a2 ∧ o3 = a3 ∧ o4 = a4 ∧ o5 = a5 ∧ o6 = a6 ∧ o7 = a7 := by
  have h := Option.some.inj h
  simp only [Prod.mk.injEq] at h
  obtain ⟨h0, h1, h2, h3, h4, h5, h6, h7⟩ := h
  exact ⟨h0.symm, h1.symm, h2.symm, h3.symm, h4.symm, h5.symm, h6.symm, h7.symm⟩
theorem rt9 {A0 A1 A2 A3 A4 A5 A6 A7 A8 : Type} {a0 o0 : A0} {a1 o1 : A1} {a2 o2 : A2} {a3 o3 : A3} {a4 o4 : A4} {a5 o5 : A5} {a6 o6 : A6} {a7 o7 : A7} {a8 o8 : A8} (h : some (a0, a1, a2, a3, a4, a5, a6, a7, a8) = some (o0, o1, o2, o3, o4, o5, o6, o7, o8)) : o0 = a0 ∧ o1 = a1 ∧ o2 = a2 ∧ o3 = a3 ∧ o4 = a4 ∧ o5 = a5 ∧ o6 = a6 ∧ o7 = a7 ∧ o8 = a8 := by
  have h := Option.some.inj h
  simp only [Prod.mk.injEq] at h
  obtain ⟨h0, h1, h2, h3, h4, h5, h6, h7, h8⟩ := h
  exact ⟨h0.symm, h1.symm, h2.symm, h3.symm, h4.symm, h5.symm, h6.symm, h7.symm, h8.symm⟩
theorem rt10 {A0 A1 A2 A3 A4 A5 A6 A7 A8 A9 : Type} {a0 o0 : A0} {a1 o1 : A1} {a2 o2 : A2} {a3 o3 : A3} {a4 o4 : A4} {a5 o5 : A5} {a6 o6 : A6} {a7 o7 : A7} {a8 o8 : A8} {a9 o9 : A9} (h : some (a0, a1, a2, a3, a4, a5, a6, a7, a8, a9) = some (o0, o1, o2, o3, o4, o5, o6, o7, o8, o9)) : o0 = a0 ∧ o1 = a1 ∧ o2 = a2 ∧ o3 = a3 ∧ o4 = a4 ∧ o5 = a5 ∧ o6 = a6 ∧ o7 = a7 ∧ o8 = a8 ∧ o9 = a9 := by
  have h := Option.some.inj h
  simp only [Prod.mk.injEq] at h
  obtain ⟨h0, h1, h2, h3, h4, h5, h6, h7, h8, h9⟩ := h
  exact ⟨h0.symm, h1.symm, h2.symm, h3.symm, h4.symm, h5.symm, h6.symm, h7.symm, h8.symm, h9.symm⟩
theorem rt11 {A0 A1 A2 A3 A4 A5 A6 A7 A8 A9 A10 : Type} {a0 o0 : A0} {a1 o1 : A1} {a2 o2 : A2} {a3 o3 : A3} {a4 o4 : A4} {a5 o5 : A5} {a6 o6 : A6} {a7 o7 : A7} {a8 o8 : A8} {a9 o9 : A9} {a10 o10 : A10} (h : some (a0, a1, a2, a3, a4, a5, a6, a7, a8, a9, a10) = some (o0, o1, o2, o3, o4, o5, o6, o7, o8, o9, o10)) : o0 = a0 ∧ o1 = a1 ∧ o2 = a2 ∧ o3 = a3 ∧ o4 = a4 ∧ o5 = a5 ∧ o6 = a6 ∧ o7 = a7 ∧ o8 = a8 ∧ o9 = a9 ∧ o10 = a10 := by
  have h := Option.some.inj h
  simp only [Prod.mk.injEq] at h
  obtain ⟨h0, h1, h2, h3, h4, h5, h6, h7, h8, h9, h10⟩ := h
  exact ⟨h0.symm, h1.symm, h2.symm, h3.symm, h4.symm, h5.symm, h6.symm, h7.symm, h8.symm, h9.symm, h10.symm⟩
theorem rt12 {A0 A1 A2 A3 A4 A5 A6 A7 A8 A9 A10 A11 : Type} {a0 o0 : A0} {a1 o1 : A1} {a2 o2 : A2} {a3 o3 : A3} {a4 o4 : A4} {a5 o5 : A5} {a6 o6 : A6} {a7 o7 : A7} {a8 o8 : A8} {a9 o9 : A9} {a10 o10 : A10} {a11 o11 : A11} (h : some (a0, a1, a2, a3, a4, a5, a6, a7, a8, a9, a10, a11) = some (o0, o1, o2, o3, o4, o5, o6, o7, o8, o9, o10, o11)) : o0 = a0 ∧ o1 = a1 ∧ o2 = a2 ∧ o3 = a3 ∧ o4 = a4 ∧ o5 = a5 ∧ o6 = a6 ∧ o7 = a7 ∧ o8 = a8 ∧ o9 = a9 ∧ o10 = a10 ∧ o11 = a11 := by
  have h := Option.some.inj h
  simp only [Prod.mk.injEq] at h
  obtain ⟨h0, h1, h2, h3, h4, h5, h6, h7, h8, h9, h10, h11⟩ := h
  exact ⟨h0.symm, h1.symm, h2.symm, h3.symm, h4.symm, h5.symm, h6.symm, h7.symm, h8.symm, h9.symm, h10.symm, h11.symm⟩
theorem rt13 {A0 A1 A2 A3 A4 A5 A6 A7 A8 A9 A10 A11 A12 : Type} {a0 o0 : A0} {a1 o1 : A1} {a2 o2 : A2} {a3 o3 : A3} {a4 o4 : A4} {a5 o5 : A5} {a6 o6 : A6} {a7 o7 : A7} {a8 o8 : A8} {a9 o9 : A9} {a10 o10 : A10} {a11 o11 : A11} {a12 o12 : A12} (h : some (a0, a1, a2, a3, a4, a5, a6, a7, a8, a9, a10, a11, a12) = some (o0, o1, o2, o3, o4, o5, o6, o7, o8, o9, o10, o11, o12)) : o0 = a0 ∧ o1 = a1 ∧ o2 = a2 ∧ o3 = a3 ∧ o4 = a4 ∧ o5 = a5 ∧ o6 = a6 ∧ o7 = a7 ∧ o8 = a8 ∧ o9 = a9 ∧ o10 = a10 ∧ o11 = a11 ∧ o12 = a12 := by
  have h := Option.some.inj h
  simp only [Prod.mk.injEq] at h
  obtain ⟨h0, h1, h2, h3, h4, h5, h6, h7, h8, h9, h10, h11, h12⟩ := h
  exact ⟨h0.symm, h1.symm, h2.symm, h3.symm, h4.symm, h5.symm, h6.symm, h7.symm, h8.symm, h9.symm, h10.symm, h11.symm, h12.symm⟩
theorem rt14 {A0 A1 A2 A3 A4 A5 A6 A7 A8 A9 A10 A11 A12 A13 : Type} {a0 o0 : A0} {a1 o1 : A1} {a2 o2 : A2} {a3 o3 : A3} {a4 o4 : A4} {a5 o5 : A5} {a6 o6 : A6} {a7 o7 : A7} {a8 o8 : A8} {a9 o9 : A9} {a10 o10 : A10} {a11 o11 : A11} {a12 o12 : A12} {a13 o13 : A13} (h : some (a0, a1, a2, a3, a4, a5, a6, a7, a8, a9, a10, a11, a12, a13) = some (o0, o1, o2, o3, o4, o5, o6, o7, o8, o9, o10, o11, o12, o13)) : o0 = a0 ∧ o1 = a1 ∧ o2 = a2 ∧ o3 = a3 ∧ o4 = a4 ∧ o5 = a5 ∧ o6 = a6 ∧ o7 = a7 ∧ o8 = a8 ∧ o9 = a9 ∧ o10 = a10 ∧ o11 = a11 ∧ o12 = a12 ∧ o13 = a13 := by
  have h := Option.some.inj h
  simp only [Prod.mk.injEq] at h
  obtain ⟨h0, h1, h2, h3, h4, h5, h6, h7, h8, h9, h10, h11, h12, h13⟩ := h
  exact ⟨h0.symm, h1.symm, h2.symm, h3.symm, h4.symm, h5.symm, h6.symm, h7.symm, h8.symm, h9.symm, h10.symm, h11.symm, h12.symm, h13.symm⟩
theorem rt15 {A0 A1 A2 A3 A4 A5 A6 A7 A8 A9 A10 A11 A12 A13 A14 : Type} {a0 o0 : A0} {a1 o1 : A1} {a2 o2 : A2} {a3 o3 : A3} {a4 o4 : A4} {a5 o5 : A5} {a6 o6 : A6} {a7 o7 : A7} {a8 o8 : A8} {a9 o9 : A9} {a10 o10 : A10} {a11 o11 : A11} {a12 o12 : A12} {a13 o13 : A13} {a14 o14 : A14} (h : some (a0, a1, a2, a3, a4, a5, a6, a7, a8, a9, a10, a11, a12, a13, a14) = some (o0, o1, o2, o3, o4, o5, o6, o7, o8, o9, o10, o11, o12, o13, o14)) : o0 = a0 ∧ o1 = a1 ∧ o2 = a2 ∧ o3 = a3 ∧ o4 = a4 ∧ o5 = a5 ∧ o6 = a6 ∧ o7 = a7 ∧ o8 = a8 ∧ o9 = a9 ∧ o10 = a10 ∧ o11 = a11 ∧ o12 = a12 ∧ o13 = a13 ∧ o14 = a14 := by
  have h := Option.some.inj h
  simp only [Prod.mk.injEq] at h
  obtain ⟨h0, h1, h2, h3, h4, h5, h6, h7, h8, h9, h10, h11, h12, h13, h14⟩ := h
  exact ⟨h0.symm, h1.symm, h2.symm, h3.symm, h4.symm, h5.symm, h6.symm, h7.symm, h8.symm, h9.symm, h10.symm, h11.symm, h12.symm, h13.symm, h14.symm⟩
theorem rt16 {A0 A1 A2 A3 A4 A5 A6 A7 A8 A9 A10 A11 A12 A13 A14 A15 : Type} {a0 o0 : A0} {a1 o1 : A1} {a2 o2 : A2} {a3 o3 : A3} {a4 o4 : A4} {a5 o5 : A5} {a6 o6 : A6} {a7 o7 : A7} {a8 o8 : A8} {a9 o9 : A9} {a10 o10 : A10} {a11 o11 : A11} {a12 o12 : A12} {a13 o13 : A13} {a14 o14 : A14} {a15 o15 : A15} (h : some (a0, a1, a2, a3, a4, a5, a6, a7, a8, a9, a10, a11, a12, a13, a14, a15) = some (o0, o1, o2, o3, o4, o5, o6, o7, o8, o9, o10, o11, o12, o13, o14, o15)) : o0 = a0 ∧ o1 = a1 ∧ o2 = a2 ∧ o3 = a3 ∧ o4 = a4 ∧ o5 = a5 ∧ o6 = a6 ∧ o7 = a7 ∧ o8 = a8 ∧ o9 = a9 ∧ o10 = a10 ∧ o11 = a11 ∧ o12 = a12 ∧ o13 = a13 ∧ o14 = a14 ∧ o15 = a15 := by
  have h := Option.some.inj h
  simp only [Prod.mk.injEq] at h
  obtain ⟨h0, h1, h2, h3, h4, h5, h6, h7, h8, h9, h10, h11, h12, h13, h14, h15⟩ := h
  exact ⟨h0.symm, h1.symm, h2.symm, h3.symm, h4.symm, h5.symm, h6.symm, h7.symm, h8.symm, h9.symm, h10.symm, h11.symm, h12.symm, h13.symm, h14.symm, h15.symm⟩
end
section
theorem ww_2 : Cond.initialized RX1 ∈ wsL_law := List.mem_append_left _ (List.mem_append_left _ (List.mem_append_left _ (List.mem_of_getElem? (i := 2) rfl)))
theorem ww_5 : Cond.initialized RX2 ∈ wsL_law := List.mem_append_left _ (List.mem_append_left _ (List.mem_append_left _ (List.mem_of_getElem? (i := 5) rfl)))
theorem ww_6 : Cond.arrayClass .long ∈ wsL_law := List.mem_append_left _ (List.mem_append_left _ (List.mem_append_left _ (List.mem_of_getElem? (i := 6) rfl)))
theorem ww_11 : Cond.methodLink RX1 1 objectInit ∈ wsL_law := List.mem_append_left _ (List.mem_append_left _ (List.mem_append_left _ (List.mem_of_getElem? (i := 11) rfl)))
theorem ww_12 : Cond.instanceMethod objectInit ∈ wsL_law := List.mem_append_left _ (List.mem_append_left _ (List.mem_append_left _ (List.mem_of_getElem? (i := 12) rfl)))
theorem ww_13 : Cond.code objectInit ⟨#[0xb1]⟩ 1 none ∈ wsL_law := List.mem_append_left _ (List.mem_append_left _ (List.mem_append_left _ (List.mem_of_getElem? (i := 13) rfl)))
theorem ww_14 : Cond.arrayClass .int ∈ wsL_law := List.mem_append_left _ (List.mem_append_left _ (List.mem_append_left _ (List.mem_of_getElem? (i := 14) rfl)))
theorem ww_15 : Cond.fieldLink RX1 9 "DoubleText" "text" "[I" ∈ wsL_law := List.mem_append_left _ (List.mem_append_left _ (List.mem_append_left _ (List.mem_of_getElem? (i := 15) rfl)))
theorem ww_16 : Cond.classLink RX1 13 RX0 ∈ wsL_law := List.mem_append_left _ (List.mem_append_left _ (List.mem_append_left _ (List.mem_of_getElem? (i := 16) rfl)))
theorem ww_17 : Cond.instantiable RX0 3 ∈ wsL_law := List.mem_append_left _ (List.mem_append_left _ (List.mem_append_left _ (List.mem_of_getElem? (i := 17) rfl)))
theorem ww_18 : Cond.initialized RX0 ∈ wsL_law := List.mem_append_left _ (List.mem_append_left _ (List.mem_append_left _ (List.mem_of_getElem? (i := 18) rfl)))
theorem ww_19 : Cond.fieldLink RX1 16 "DoubleText" "number" "LDoubleText$Decimal;" ∈ wsL_law := List.mem_append_left _ (List.mem_append_left _ (List.mem_append_left _ (List.mem_of_getElem? (i := 19) rfl)))
theorem ww_20 : Cond.fieldLink RX1 20 "DoubleText" "rounded" "LDoubleText$Decimal;" ∈ wsL_law := List.mem_append_left _ (List.mem_append_left _ (List.mem_append_left _ (List.mem_of_getElem? (i := 20) rfl)))
theorem ww_21 : Cond.fieldLink RX1 23 "DoubleText" "lowEdge" "LDoubleText$Decimal;" ∈ wsL_law := List.mem_append_left _ (List.mem_append_left _ (List.mem_append_left _ (List.mem_of_getElem? (i := 21) rfl)))
theorem ww_22 : Cond.fieldLink RX1 26 "DoubleText" "highEdge" "LDoubleText$Decimal;" ∈ wsL_law := List.mem_append_left _ (List.mem_append_left _ (List.mem_append_left _ (List.mem_of_getElem? (i := 22) rfl)))
theorem ww_23 : Cond.methodLink RX1 15 yX0_init ∈ wsL_law := List.mem_append_left _ (List.mem_append_left _ (List.mem_append_left _ (List.mem_of_getElem? (i := 23) rfl)))
theorem ww_24 : Cond.instanceMethod yX0_init ∈ wsL_law := List.mem_append_left _ (List.mem_append_left _ (List.mem_append_left _ (List.mem_of_getElem? (i := 24) rfl)))
theorem ww_25 : Cond.code yX0_init cX0_init 1 none ∈ wsL_law := List.mem_append_left _ (List.mem_append_left _ (List.mem_append_left _ (List.mem_of_getElem? (i := 25) rfl)))
theorem ww_26 : Cond.methodLink RX0 1 objectInit ∈ wsL_law := List.mem_append_left _ (List.mem_append_left _ (List.mem_append_left _ (List.mem_of_getElem? (i := 26) rfl)))
theorem ww_27 : Cond.fieldLink RX0 9 "DoubleText$Decimal" "limbs" "[J" ∈ wsL_law := List.mem_append_left _ (List.mem_append_left _ (List.mem_append_left _ (List.mem_of_getElem? (i := 27) rfl)))
theorem ww_28 : Cond.fieldLink RX0 13 "DoubleText$Decimal" "first" "I" ∈ wsL_law := List.mem_append_left _ (List.mem_append_left _ (List.mem_append_left _ (List.mem_of_getElem? (i := 28) rfl)))
theorem ww_29 : Cond.fieldLink RX0 17 "DoubleText$Decimal" "last" "I" ∈ wsL_law := List.mem_append_left _ (List.mem_append_left _ (List.mem_append_left _ (List.mem_of_getElem? (i := 29) rfl)))
theorem ww_33 : Cond.methodLink RX2 1 objectInit ∈ wsL_law := List.mem_append_left _ (List.mem_append_left _ (List.mem_append_left _ (List.mem_of_getElem? (i := 33) rfl)))
theorem ww_34 : Cond.fieldLink RX2 7 "DoubleTextModel" "text" "[I" ∈ wsL_law := List.mem_append_left _ (List.mem_append_left _ (List.mem_append_left _ (List.mem_of_getElem? (i := 34) rfl)))
theorem ww_35 : Cond.fieldLink RX2 13 "DoubleTextModel" "d" "[I" ∈ wsL_law := List.mem_append_left _ (List.mem_append_left _ (List.mem_append_left _ (List.mem_of_getElem? (i := 35) rfl)))
theorem ww_36 : Cond.fieldLink RX2 16 "DoubleTextModel" "n" "[I" ∈ wsL_law := List.mem_append_left _ (List.mem_append_left _ (List.mem_append_left _ (List.mem_of_getElem? (i := 36) rfl)))
theorem ww_37 : Cond.fieldLink RX2 19 "DoubleTextModel" "power" "[I" ∈ wsL_law := List.mem_append_left _ (List.mem_append_left _ (List.mem_append_left _ (List.mem_of_getElem? (i := 37) rfl)))
theorem ww_38 : Cond.fieldLink RX2 22 "DoubleTextModel" "limbs" "[J" ∈ wsL_law := List.mem_append_left _ (List.mem_append_left _ (List.mem_append_left _ (List.mem_of_getElem? (i := 38) rfl)))
theorem ww_43 : Cond.fieldLink RX1 29 "DoubleText" "length" "I" ∈ wsL_law := List.mem_append_left _ (List.mem_append_left _ (List.mem_append_left _ (List.mem_of_getElem? (i := 43) rfl)))
theorem ww_48 : Cond.fieldLink RX2 26 "DoubleTextModel" "thrown" "I" ∈ wsL_law := List.mem_append_left _ (List.mem_append_left _ (List.mem_append_left _ (List.mem_of_getElem? (i := 48) rfl)))
theorem ww_49 : Cond.fieldLink RX2 30 "DoubleTextModel" "size" "I" ∈ wsL_law := List.mem_append_left _ (List.mem_append_left _ (List.mem_append_left _ (List.mem_of_getElem? (i := 49) rfl)))
theorem ww_60 : Cond.classLink RX1 33 "java/lang/IllegalArgumentException" ∈ wsL_law := List.mem_append_left _ (List.mem_append_left _ (List.mem_append_left _ (List.mem_of_getElem? (i := 60) rfl)))
theorem ww_61 : Cond.initialized "java/lang/IllegalArgumentException" ∈ wsL_law := List.mem_append_left _ (List.mem_append_left _ (List.mem_append_left _ (List.mem_of_getElem? (i := 61) rfl)))
theorem ww_62 : Cond.classLink RX1 36 "java/lang/IllegalStateException" ∈ wsL_law := List.mem_append_left _ (List.mem_append_left _ (List.mem_append_left _ (List.mem_of_getElem? (i := 62) rfl)))
theorem ww_63 : Cond.initialized "java/lang/IllegalStateException" ∈ wsL_law := List.mem_append_left _ (List.mem_append_left _ (List.mem_append_left _ (List.mem_of_getElem? (i := 63) rfl)))
theorem ww_64 : Cond.methodLink RX1 39 yX1_put ∈ wsL_law := List.mem_append_left _ (List.mem_append_left _ (List.mem_append_left _ (List.mem_of_getElem? (i := 64) rfl)))
theorem ww_65 : Cond.instanceMethod yX1_put ∈ wsL_law := List.mem_append_left _ (List.mem_append_left _ (List.mem_append_left _ (List.mem_of_getElem? (i := 65) rfl)))
theorem ww_66 : Cond.selects RX1 yX1_put yX1_put ∈ wsL_law := List.mem_append_left _ (List.mem_append_left _ (List.mem_append_left _ (List.mem_of_getElem? (i := 66) rfl)))
theorem ww_67 : Cond.code yX1_put cX1_put 2 none ∈ wsL_law := List.mem_append_left _ (List.mem_append_left _ (List.mem_append_left _ (List.mem_of_getElem? (i := 67) rfl)))
theorem ww_83 : Cond.constantLong RX1 55 (-9223372036854775808) ∈ wsL_law := List.mem_append_left _ (List.mem_append_left _ (List.mem_append_left _ (List.mem_of_getElem? (i := 83) rfl)))
theorem ww_84 : Cond.methodLink RX1 43 yX1_scanNumeral ∈ wsL_law := List.mem_append_left _ (List.mem_append_left _ (List.mem_append_left _ (List.mem_of_getElem? (i := 84) rfl)))
theorem ww_85 : Cond.instanceMethod yX1_scanNumeral ∈ wsL_law := List.mem_append_left _ (List.mem_append_left _ (List.mem_append_left _ (List.mem_of_getElem? (i := 85) rfl)))
theorem ww_86 : Cond.selects RX1 yX1_scanNumeral yX1_scanNumeral ∈ wsL_law := List.mem_append_left _ (List.mem_append_left _ (List.mem_append_left _ (List.mem_of_getElem? (i := 86) rfl)))
theorem ww_87 : Cond.code yX1_scanNumeral cX1_scanNumeral 2 (some .boolean) ∈ wsL_law := List.mem_append_left _ (List.mem_append_left _ (List.mem_append_left _ (List.mem_of_getElem? (i := 87) rfl)))
theorem ww_88 : Cond.fieldLink RX1 110 "DoubleText" "digitsStart" "I" ∈ wsL_law := List.mem_append_left _ (List.mem_append_left _ (List.mem_append_left _ (List.mem_of_getElem? (i := 88) rfl)))
theorem ww_89 : Cond.fieldLink RX1 117 "DoubleText" "digitsEnd" "I" ∈ wsL_law := List.mem_append_left _ (List.mem_append_left _ (List.mem_append_left _ (List.mem_of_getElem? (i := 89) rfl)))
theorem ww_90 : Cond.fieldLink RX1 120 "DoubleText" "unitsAt" "I" ∈ wsL_law := List.mem_append_left _ (List.mem_append_left _ (List.mem_append_left _ (List.mem_of_getElem? (i := 90) rfl)))
theorem ww_91 : Cond.fieldLink RX1 123 "DoubleText" "tenPower" "I" ∈ wsL_law := List.mem_append_left _ (List.mem_append_left _ (List.mem_append_left _ (List.mem_of_getElem? (i := 91) rfl)))
theorem ww_92 : Cond.methodLink RX1 51 yX1_isAt ∈ wsL_law := List.mem_append_left _ (List.mem_append_left _ (List.mem_append_left _ (List.mem_of_getElem? (i := 92) rfl)))
theorem ww_93 : Cond.instanceMethod yX1_isAt ∈ wsL_law := List.mem_append_left _ (List.mem_append_left _ (List.mem_append_left _ (List.mem_of_getElem? (i := 93) rfl)))
theorem ww_94 : Cond.selects RX1 yX1_isAt yX1_isAt ∈ wsL_law := List.mem_append_left _ (List.mem_append_left _ (List.mem_append_left _ (List.mem_of_getElem? (i := 94) rfl)))
theorem ww_95 : Cond.code yX1_isAt cX1_isAt 3 (some .boolean) ∈ wsL_law := List.mem_append_left _ (List.mem_append_left _ (List.mem_append_left _ (List.mem_of_getElem? (i := 95) rfl)))
theorem ww_96 : Cond.methodLink RX1 113 yX1_endOfDigits ∈ wsL_law := List.mem_append_left _ (List.mem_append_left _ (List.mem_append_left _ (List.mem_of_getElem? (i := 96) rfl)))
theorem ww_97 : Cond.instanceMethod yX1_endOfDigits ∈ wsL_law := List.mem_append_left _ (List.mem_append_left _ (List.mem_append_left _ (List.mem_of_getElem? (i := 97) rfl)))
theorem ww_98 : Cond.selects RX1 yX1_endOfDigits yX1_endOfDigits ∈ wsL_law := List.mem_append_left _ (List.mem_append_left _ (List.mem_append_left _ (List.mem_of_getElem? (i := 98) rfl)))
theorem ww_99 : Cond.code yX1_endOfDigits cX1_endOfDigits 3 (some .int) ∈ wsL_law := List.mem_append_left _ (List.mem_append_left _ (List.mem_append_left _ (List.mem_of_getElem? (i := 99) rfl)))
theorem ww_100 : Cond.methodLink RX1 126 yX1_scanPower ∈ wsL_law := List.mem_append_left _ (List.mem_append_left _ (List.mem_append_left _ (List.mem_of_getElem? (i := 100) rfl)))
theorem ww_101 : Cond.instanceMethod yX1_scanPower ∈ wsL_law := List.mem_append_left _ (List.mem_append_left _ (List.mem_append_left _ (List.mem_of_getElem? (i := 101) rfl)))
theorem ww_102 : Cond.selects RX1 yX1_scanPower yX1_scanPower ∈ wsL_law := List.mem_append_left _ (List.mem_append_left _ (List.mem_append_left _ (List.mem_of_getElem? (i := 102) rfl)))
theorem ww_103 : Cond.code yX1_scanPower cX1_scanPower 6 (some .boolean) ∈ wsL_law := List.mem_append_left _ (List.mem_append_left _ (List.mem_append_left _ (List.mem_of_getElem? (i := 103) rfl)))
theorem ww_104 : Cond.methodLink RX1 47 yX1_nearestToNumeral ∈ wsL_law := List.mem_append_left _ (List.mem_append_left _ (List.mem_append_left _ (List.mem_of_getElem? (i := 104) rfl)))
theorem ww_105 : Cond.instanceMethod yX1_nearestToNumeral ∈ wsL_law := List.mem_append_left _ (List.mem_append_left _ (List.mem_append_left _ (List.mem_of_getElem? (i := 105) rfl)))
theorem ww_106 : Cond.selects RX1 yX1_nearestToNumeral yX1_nearestToNumeral ∈ wsL_law := List.mem_append_left _ (List.mem_append_left _ (List.mem_append_left _ (List.mem_of_getElem? (i := 106) rfl)))
theorem ww_107 : Cond.code yX1_nearestToNumeral cX1_nearestToNumeral 3 (some .long) ∈ wsL_law := List.mem_append_left _ (List.mem_append_left _ (List.mem_append_left _ (List.mem_of_getElem? (i := 107) rfl)))
theorem ww_108 : Cond.constantLong RX1 104 (9218868437227405312) ∈ wsL_law := List.mem_append_left _ (List.mem_append_left _ (List.mem_append_left _ (List.mem_of_getElem? (i := 108) rfl)))
theorem ww_109 : Cond.methodLink RX1 130 yX1_leadingDigit ∈ wsL_law := List.mem_append_left _ (List.mem_append_left _ (List.mem_append_left _ (List.mem_of_getElem? (i := 109) rfl)))
theorem ww_110 : Cond.instanceMethod yX1_leadingDigit ∈ wsL_law := List.mem_append_left _ (List.mem_append_left _ (List.mem_append_left _ (List.mem_of_getElem? (i := 110) rfl)))
theorem ww_111 : Cond.selects RX1 yX1_leadingDigit yX1_leadingDigit ∈ wsL_law := List.mem_append_left _ (List.mem_append_left _ (List.mem_append_left _ (List.mem_of_getElem? (i := 111) rfl)))
theorem ww_112 : Cond.code yX1_leadingDigit cX1_leadingDigit 2 (some .int) ∈ wsL_law := List.mem_append_left _ (List.mem_append_left _ (List.mem_append_left _ (List.mem_of_getElem? (i := 112) rfl)))
theorem ww_113 : Cond.methodLink RX1 133 yX1_placeOf ∈ wsL_law := List.mem_append_left _ (List.mem_append_left _ (List.mem_append_left _ (List.mem_of_getElem? (i := 113) rfl)))
theorem ww_114 : Cond.instanceMethod yX1_placeOf ∈ wsL_law := List.mem_append_left _ (List.mem_append_left _ (List.mem_append_left _ (List.mem_of_getElem? (i := 114) rfl)))
theorem ww_115 : Cond.selects RX1 yX1_placeOf yX1_placeOf ∈ wsL_law := List.mem_append_left _ (List.mem_append_left _ (List.mem_append_left _ (List.mem_of_getElem? (i := 115) rfl)))
theorem ww_116 : Cond.code yX1_placeOf cX1_placeOf 3 (some .int) ∈ wsL_law := List.mem_append_left _ (List.mem_append_left _ (List.mem_append_left _ (List.mem_of_getElem? (i := 116) rfl)))
theorem ww_117 : Cond.methodLink RX1 136 yX0_wipe ∈ wsL_law := List.mem_append_left _ (List.mem_append_left _ (List.mem_append_left _ (List.mem_of_getElem? (i := 117) rfl)))
theorem ww_118 : Cond.instanceMethod yX0_wipe ∈ wsL_law := List.mem_append_left _ (List.mem_append_left _ (List.mem_append_left _ (List.mem_of_getElem? (i := 118) rfl)))
theorem ww_119 : Cond.selects RX0 yX0_wipe yX0_wipe ∈ wsL_law := List.mem_append_left _ (List.mem_append_left _ (List.mem_append_left _ (List.mem_of_getElem? (i := 119) rfl)))
theorem ww_120 : Cond.code yX0_wipe cX0_wipe 2 none ∈ wsL_law := List.mem_append_left _ (List.mem_append_left _ (List.mem_append_left _ (List.mem_of_getElem? (i := 120) rfl)))
theorem ww_121 : Cond.methodLink RX1 139 yX0_setDigit ∈ wsL_law := List.mem_append_left _ (List.mem_append_left _ (List.mem_append_left _ (List.mem_of_getElem? (i := 121) rfl)))
theorem ww_122 : Cond.instanceMethod yX0_setDigit ∈ wsL_law := List.mem_append_left _ (List.mem_append_left _ (List.mem_append_left _ (List.mem_of_getElem? (i := 122) rfl)))
theorem ww_123 : Cond.selects RX0 yX0_setDigit yX0_setDigit ∈ wsL_law := List.mem_append_left _ (List.mem_append_left _ (List.mem_append_left _ (List.mem_of_getElem? (i := 123) rfl)))
theorem ww_124 : Cond.code yX0_setDigit cX0_setDigit 4 none ∈ wsL_law := List.mem_append_left _ (List.mem_append_left _ (List.mem_append_left _ (List.mem_of_getElem? (i := 124) rfl)))
theorem ww_125 : Cond.methodLink RX0 28 Lib.Math.min.name ∈ wsL_law := List.mem_append_left _ (List.mem_append_left _ (List.mem_append_left _ (List.mem_of_getElem? (i := 125) rfl)))
theorem ww_126 : Cond.static Lib.Math.min.name ∈ wsL_law := List.mem_append_left _ (List.mem_append_left _ (List.mem_append_left _ (List.mem_of_getElem? (i := 126) rfl)))
theorem ww_127 : Cond.initialized "java/lang/Math" ∈ wsL_law := List.mem_append_left _ (List.mem_append_left _ (List.mem_append_left _ (List.mem_of_getElem? (i := 127) rfl)))
theorem ww_128 : Cond.code Lib.Math.min.name Lib.Math.min.code 2 (some .int) ∈ wsL_law := List.mem_append_left _ (List.mem_append_left _ (List.mem_append_left _ (List.mem_of_getElem? (i := 128) rfl)))
theorem ww_129 : Cond.methodLink RX0 34 Lib.Math.max.name ∈ wsL_law := List.mem_append_left _ (List.mem_append_left _ (List.mem_append_left _ (List.mem_of_getElem? (i := 129) rfl)))
theorem ww_130 : Cond.static Lib.Math.max.name ∈ wsL_law := List.mem_append_left _ (List.mem_append_left _ (List.mem_append_left _ (List.mem_of_getElem? (i := 130) rfl)))
theorem ww_131 : Cond.code Lib.Math.max.name Lib.Math.max.code 2 (some .int) ∈ wsL_law := List.mem_append_left _ (List.mem_append_left _ (List.mem_append_left _ (List.mem_of_getElem? (i := 131) rfl)))
theorem ww_132 : Cond.methodLink RX0 20 yX0_limbOf ∈ wsL_law := List.mem_append_left _ (List.mem_append_left _ (List.mem_append_left _ (List.mem_of_getElem? (i := 132) rfl)))
theorem ww_133 : Cond.static yX0_limbOf ∈ wsL_law := List.mem_append_left _ (List.mem_append_left _ (List.mem_append_left _ (List.mem_of_getElem? (i := 133) rfl)))
theorem ww_134 : Cond.code yX0_limbOf cX0_limbOf 1 (some .int) ∈ wsL_law := List.mem_append_left _ (List.mem_append_left _ (List.mem_append_left _ (List.mem_of_getElem? (i := 134) rfl)))
theorem ww_135 : Cond.methodLink RX0 83 yJ9_floorDiv_7cf53 ∈ wsL_law := List.mem_append_left _ (List.mem_append_left _ (List.mem_append_left _ (List.mem_of_getElem? (i := 135) rfl)))
theorem ww_136 : Cond.static yJ9_floorDiv_7cf53 ∈ wsL_law := List.mem_append_left _ (List.mem_append_left _ (List.mem_append_left _ (List.mem_of_getElem? (i := 136) rfl)))
theorem ww_138 : Cond.code yJ9_floorDiv_7cf53 cJ9_floorDiv_7cf53 3 (some .int) ∈ wsL_law := List.mem_append_left _ (List.mem_append_left _ (List.mem_append_left _ (List.mem_of_getElem? (i := 138) rfl)))
theorem ww_139 : Cond.methodLink RX0 24 yX0_unitOf ∈ wsL_law := List.mem_append_left _ (List.mem_append_left _ (List.mem_append_left _ (List.mem_of_getElem? (i := 139) rfl)))
theorem ww_140 : Cond.static yX0_unitOf ∈ wsL_law := List.mem_append_left _ (List.mem_append_left _ (List.mem_append_left _ (List.mem_of_getElem? (i := 140) rfl)))
theorem ww_141 : Cond.code yX0_unitOf cX0_unitOf 1 (some .long) ∈ wsL_law := List.mem_append_left _ (List.mem_append_left _ (List.mem_append_left _ (List.mem_of_getElem? (i := 141) rfl)))
theorem ww_142 : Cond.fieldLink RX0 42 "DoubleText$Decimal" "TENS" "[J" ∈ wsL_law := List.mem_append_left _ (List.mem_append_left _ (List.mem_append_left _ (List.mem_of_getElem? (i := 142) rfl)))
theorem ww_143 : Cond.methodLink RX0 86 yJ9_floorMod_7cf53 ∈ wsL_law := List.mem_append_left _ (List.mem_append_left _ (List.mem_append_left _ (List.mem_of_getElem? (i := 143) rfl)))
theorem ww_144 : Cond.static yJ9_floorMod_7cf53 ∈ wsL_law := List.mem_append_left _ (List.mem_append_left _ (List.mem_append_left _ (List.mem_of_getElem? (i := 144) rfl)))
theorem ww_145 : Cond.code yJ9_floorMod_7cf53 cJ9_floorMod_7cf53 3 (some .int) ∈ wsL_law := List.mem_append_left _ (List.mem_append_left _ (List.mem_append_left _ (List.mem_of_getElem? (i := 145) rfl)))
theorem ww_146 : Cond.methodLink RX1 142 yX1_nearestToNumber ∈ wsL_law := List.mem_append_left _ (List.mem_append_left _ (List.mem_append_left _ (List.mem_of_getElem? (i := 146) rfl)))
theorem ww_147 : Cond.instanceMethod yX1_nearestToNumber ∈ wsL_law := List.mem_append_left _ (List.mem_append_left _ (List.mem_append_left _ (List.mem_of_getElem? (i := 147) rfl)))
theorem ww_148 : Cond.selects RX1 yX1_nearestToNumber yX1_nearestToNumber ∈ wsL_law := List.mem_append_left _ (List.mem_append_left _ (List.mem_append_left _ (List.mem_of_getElem? (i := 148) rfl)))
theorem ww_149 : Cond.code yX1_nearestToNumber cX1_nearestToNumber 4 (some .long) ∈ wsL_law := List.mem_append_left _ (List.mem_append_left _ (List.mem_append_left _ (List.mem_of_getElem? (i := 149) rfl)))
theorem ww_150 : Cond.methodLink RX1 145 yX0_isWide ∈ wsL_law := List.mem_append_left _ (List.mem_append_left _ (List.mem_append_left _ (List.mem_of_getElem? (i := 150) rfl)))
theorem ww_151 : Cond.instanceMethod yX0_isWide ∈ wsL_law := List.mem_append_left _ (List.mem_append_left _ (List.mem_append_left _ (List.mem_of_getElem? (i := 151) rfl)))
theorem ww_152 : Cond.selects RX0 yX0_isWide yX0_isWide ∈ wsL_law := List.mem_append_left _ (List.mem_append_left _ (List.mem_append_left _ (List.mem_of_getElem? (i := 152) rfl)))
theorem ww_153 : Cond.code yX0_isWide cX0_isWide 1 (some .boolean) ∈ wsL_law := List.mem_append_left _ (List.mem_append_left _ (List.mem_append_left _ (List.mem_of_getElem? (i := 153) rfl)))
theorem ww_154 : Cond.methodLink RX1 148 yX0_scale ∈ wsL_law := List.mem_append_left _ (List.mem_append_left _ (List.mem_append_left _ (List.mem_of_getElem? (i := 154) rfl)))
theorem ww_155 : Cond.instanceMethod yX0_scale ∈ wsL_law := List.mem_append_left _ (List.mem_append_left _ (List.mem_append_left _ (List.mem_of_getElem? (i := 155) rfl)))
theorem ww_156 : Cond.selects RX0 yX0_scale yX0_scale ∈ wsL_law := List.mem_append_left _ (List.mem_append_left _ (List.mem_append_left _ (List.mem_of_getElem? (i := 156) rfl)))
theorem ww_157 : Cond.code yX0_scale cX0_scale 3 none ∈ wsL_law := List.mem_append_left _ (List.mem_append_left _ (List.mem_append_left _ (List.mem_of_getElem? (i := 157) rfl)))
theorem ww_158 : Cond.methodLink RX0 57 yX0_scaleUp ∈ wsL_law := List.mem_append_left _ (List.mem_append_left _ (List.mem_append_left _ (List.mem_of_getElem? (i := 158) rfl)))
theorem ww_159 : Cond.instanceMethod yX0_scaleUp ∈ wsL_law := List.mem_append_left _ (List.mem_append_left _ (List.mem_append_left _ (List.mem_of_getElem? (i := 159) rfl)))
theorem ww_160 : Cond.selects RX0 yX0_scaleUp yX0_scaleUp ∈ wsL_law := List.mem_append_left _ (List.mem_append_left _ (List.mem_append_left _ (List.mem_of_getElem? (i := 160) rfl)))
theorem ww_161 : Cond.code yX0_scaleUp cX0_scaleUp 7 none ∈ wsL_law := List.mem_append_left _ (List.mem_append_left _ (List.mem_append_left _ (List.mem_of_getElem? (i := 161) rfl)))
theorem ww_162 : Cond.constantLong RX0 45 (1000000000) ∈ wsL_law := List.mem_append_left _ (List.mem_append_left _ (List.mem_append_left _ (List.mem_of_getElem? (i := 162) rfl)))
theorem ww_163 : Cond.methodLink RX0 50 yX0_trim ∈ wsL_law := List.mem_append_left _ (List.mem_append_left _ (List.mem_append_left _ (List.mem_of_getElem? (i := 163) rfl)))
theorem ww_164 : Cond.instanceMethod yX0_trim ∈ wsL_law := List.mem_append_left _ (List.mem_append_left _ (List.mem_append_left _ (List.mem_of_getElem? (i := 164) rfl)))
theorem ww_165 : Cond.selects RX0 yX0_trim yX0_trim ∈ wsL_law := List.mem_append_left _ (List.mem_append_left _ (List.mem_append_left _ (List.mem_of_getElem? (i := 165) rfl)))
theorem ww_166 : Cond.code yX0_trim cX0_trim 1 none ∈ wsL_law := List.mem_append_left _ (List.mem_append_left _ (List.mem_append_left _ (List.mem_of_getElem? (i := 166) rfl)))
theorem ww_167 : Cond.methodLink RX0 60 yX0_scaleDown ∈ wsL_law := List.mem_append_left _ (List.mem_append_left _ (List.mem_append_left _ (List.mem_of_getElem? (i := 167) rfl)))
theorem ww_168 : Cond.instanceMethod yX0_scaleDown ∈ wsL_law := List.mem_append_left _ (List.mem_append_left _ (List.mem_append_left _ (List.mem_of_getElem? (i := 168) rfl)))
theorem ww_169 : Cond.selects RX0 yX0_scaleDown yX0_scaleDown ∈ wsL_law := List.mem_append_left _ (List.mem_append_left _ (List.mem_append_left _ (List.mem_of_getElem? (i := 169) rfl)))
theorem ww_170 : Cond.code yX0_scaleDown cX0_scaleDown 9 none ∈ wsL_law := List.mem_append_left _ (List.mem_append_left _ (List.mem_append_left _ (List.mem_of_getElem? (i := 170) rfl)))
theorem ww_171 : Cond.methodLink RX1 151 yX1_bitsToScale ∈ wsL_law := List.mem_append_left _ (List.mem_append_left _ (List.mem_append_left _ (List.mem_of_getElem? (i := 171) rfl)))
theorem ww_172 : Cond.instanceMethod yX1_bitsToScale ∈ wsL_law := List.mem_append_left _ (List.mem_append_left _ (List.mem_append_left _ (List.mem_of_getElem? (i := 172) rfl)))
theorem ww_173 : Cond.selects RX1 yX1_bitsToScale yX1_bitsToScale ∈ wsL_law := List.mem_append_left _ (List.mem_append_left _ (List.mem_append_left _ (List.mem_of_getElem? (i := 173) rfl)))
theorem ww_174 : Cond.code yX1_bitsToScale cX1_bitsToScale 4 (some .int) ∈ wsL_law := List.mem_append_left _ (List.mem_append_left _ (List.mem_append_left _ (List.mem_of_getElem? (i := 174) rfl)))
theorem ww_175 : Cond.methodLink RX1 166 Lib.Math.min.name ∈ wsL_law := List.mem_append_left _ (List.mem_append_left _ (List.mem_append_left _ (List.mem_of_getElem? (i := 175) rfl)))
theorem ww_176 : Cond.methodLink RX1 154 yX0_whole ∈ wsL_law := List.mem_append_left _ (List.mem_append_left _ (List.mem_append_left _ (List.mem_of_getElem? (i := 176) rfl)))
theorem ww_177 : Cond.instanceMethod yX0_whole ∈ wsL_law := List.mem_append_left _ (List.mem_append_left _ (List.mem_append_left _ (List.mem_of_getElem? (i := 177) rfl)))
theorem ww_178 : Cond.selects RX0 yX0_whole yX0_whole ∈ wsL_law := List.mem_append_left _ (List.mem_append_left _ (List.mem_append_left _ (List.mem_of_getElem? (i := 178) rfl)))
theorem ww_179 : Cond.code yX0_whole cX0_whole 1 (some .long) ∈ wsL_law := List.mem_append_left _ (List.mem_append_left _ (List.mem_append_left _ (List.mem_of_getElem? (i := 179) rfl)))
theorem ww_180 : Cond.methodLink RX1 161 yJ13_numberOfLeadingZeros_95d88 ∈ wsL_law := List.mem_append_left _ (List.mem_append_left _ (List.mem_append_left _ (List.mem_of_getElem? (i := 180) rfl)))
theorem ww_181 : Cond.static yJ13_numberOfLeadingZeros_95d88 ∈ wsL_law := List.mem_append_left _ (List.mem_append_left _ (List.mem_append_left _ (List.mem_of_getElem? (i := 181) rfl)))
theorem ww_182 : Cond.initialized RJ13 ∈ wsL_law := List.mem_append_left _ (List.mem_append_left _ (List.mem_append_left _ (List.mem_of_getElem? (i := 182) rfl)))
theorem ww_183 : Cond.code yJ13_numberOfLeadingZeros_95d88 cJ13_numberOfLeadingZeros_95d88 3 (some .int) ∈ wsL_law := List.mem_append_left _ (List.mem_append_left _ (List.mem_append_left _ (List.mem_of_getElem? (i := 183) rfl)))
theorem ww_184 : Cond.methodLink RJ13 308 yJ6_numberOfLeadingZeros_0f7a4 ∈ wsL_law := List.mem_append_left _ (List.mem_append_left _ (List.mem_append_left _ (List.mem_of_getElem? (i := 184) rfl)))
theorem ww_185 : Cond.static yJ6_numberOfLeadingZeros_0f7a4 ∈ wsL_law := List.mem_append_left _ (List.mem_append_left _ (List.mem_append_left _ (List.mem_of_getElem? (i := 185) rfl)))
theorem ww_186 : Cond.initialized RJ6 ∈ wsL_law := List.mem_append_left _ (List.mem_append_left _ (List.mem_append_left _ (List.mem_of_getElem? (i := 186) rfl)))
theorem ww_187 : Cond.code yJ6_numberOfLeadingZeros_0f7a4 cJ6_numberOfLeadingZeros_0f7a4 2 (some .int) ∈ wsL_law := List.mem_append_left _ (List.mem_append_left _ (List.mem_append_left _ (List.mem_of_getElem? (i := 187) rfl)))
theorem ww_188 : Cond.constant RJ6 264 (65536) ∈ wsL_law := List.mem_append_left _ (List.mem_append_left _ (List.mem_append_left _ (List.mem_of_getElem? (i := 188) rfl)))
theorem ww_189 : Cond.methodLink RX1 73 yX0_takeRounded ∈ wsL_law := List.mem_append_left _ (List.mem_append_left _ (List.mem_append_left _ (List.mem_of_getElem? (i := 189) rfl)))
theorem ww_190 : Cond.instanceMethod yX0_takeRounded ∈ wsL_law := List.mem_append_left _ (List.mem_append_left _ (List.mem_append_left _ (List.mem_of_getElem? (i := 190) rfl)))
theorem ww_191 : Cond.selects RX0 yX0_takeRounded yX0_takeRounded ∈ wsL_law := List.mem_append_left _ (List.mem_append_left _ (List.mem_append_left _ (List.mem_of_getElem? (i := 191) rfl)))
theorem ww_192 : Cond.code yX0_takeRounded cX0_takeRounded 6 none ∈ wsL_law := List.mem_append_left _ (List.mem_append_left _ (List.mem_append_left _ (List.mem_of_getElem? (i := 192) rfl)))
theorem ww_193 : Cond.methodLink RX0 47 yX0_wipe ∈ wsL_law := List.mem_append_left _ (List.mem_append_left _ (List.mem_append_left _ (List.mem_of_getElem? (i := 193) rfl)))
theorem ww_194 : Cond.methodLink RX0 63 yX0_roundsUp ∈ wsL_law := List.mem_append_left _ (List.mem_append_left _ (List.mem_append_left _ (List.mem_of_getElem? (i := 194) rfl)))
theorem ww_195 : Cond.instanceMethod yX0_roundsUp ∈ wsL_law := List.mem_append_left _ (List.mem_append_left _ (List.mem_append_left _ (List.mem_of_getElem? (i := 195) rfl)))
theorem ww_196 : Cond.selects RX0 yX0_roundsUp yX0_roundsUp ∈ wsL_law := List.mem_append_left _ (List.mem_append_left _ (List.mem_append_left _ (List.mem_of_getElem? (i := 196) rfl)))
theorem ww_197 : Cond.code yX0_roundsUp cX0_roundsUp 5 (some .boolean) ∈ wsL_law := List.mem_append_left _ (List.mem_append_left _ (List.mem_append_left _ (List.mem_of_getElem? (i := 197) rfl)))
theorem ww_198 : Cond.constantLong RX0 75 (2) ∈ wsL_law := List.mem_append_left _ (List.mem_append_left _ (List.mem_append_left _ (List.mem_of_getElem? (i := 198) rfl)))
theorem ww_199 : Cond.methodLink RX0 71 yX0_sideOfHalf ∈ wsL_law := List.mem_append_left _ (List.mem_append_left _ (List.mem_append_left _ (List.mem_of_getElem? (i := 199) rfl)))
theorem ww_200 : Cond.instanceMethod yX0_sideOfHalf ∈ wsL_law := List.mem_append_left _ (List.mem_append_left _ (List.mem_append_left _ (List.mem_of_getElem? (i := 200) rfl)))
theorem ww_201 : Cond.selects RX0 yX0_sideOfHalf yX0_sideOfHalf ∈ wsL_law := List.mem_append_left _ (List.mem_append_left _ (List.mem_append_left _ (List.mem_of_getElem? (i := 201) rfl)))
theorem ww_202 : Cond.code yX0_sideOfHalf cX0_sideOfHalf 8 (some .int) ∈ wsL_law := List.mem_append_left _ (List.mem_append_left _ (List.mem_append_left _ (List.mem_of_getElem? (i := 202) rfl)))
theorem ww_203 : Cond.methodLink RX0 37 yX0_limb ∈ wsL_law := List.mem_append_left _ (List.mem_append_left _ (List.mem_append_left _ (List.mem_of_getElem? (i := 203) rfl)))
theorem ww_204 : Cond.instanceMethod yX0_limb ∈ wsL_law := List.mem_append_left _ (List.mem_append_left _ (List.mem_append_left _ (List.mem_of_getElem? (i := 204) rfl)))
theorem ww_205 : Cond.selects RX0 yX0_limb yX0_limb ∈ wsL_law := List.mem_append_left _ (List.mem_append_left _ (List.mem_append_left _ (List.mem_of_getElem? (i := 205) rfl)))
theorem ww_206 : Cond.code yX0_limb cX0_limb 2 (some .long) ∈ wsL_law := List.mem_append_left _ (List.mem_append_left _ (List.mem_append_left _ (List.mem_of_getElem? (i := 206) rfl)))
theorem ww_207 : Cond.methodLink RX0 77 yJ13_compare_74951 ∈ wsL_law := List.mem_append_left _ (List.mem_append_left _ (List.mem_append_left _ (List.mem_of_getElem? (i := 207) rfl)))
theorem ww_208 : Cond.static yJ13_compare_74951 ∈ wsL_law := List.mem_append_left _ (List.mem_append_left _ (List.mem_append_left _ (List.mem_of_getElem? (i := 208) rfl)))
theorem ww_209 : Cond.code yJ13_compare_74951 cJ13_compare_74951 4 (some .int) ∈ wsL_law := List.mem_append_left _ (List.mem_append_left _ (List.mem_append_left _ (List.mem_of_getElem? (i := 209) rfl)))
theorem ww_210 : Cond.methodLink RX0 67 yX0_countUp ∈ wsL_law := List.mem_append_left _ (List.mem_append_left _ (List.mem_append_left _ (List.mem_of_getElem? (i := 210) rfl)))
theorem ww_211 : Cond.instanceMethod yX0_countUp ∈ wsL_law := List.mem_append_left _ (List.mem_append_left _ (List.mem_append_left _ (List.mem_of_getElem? (i := 211) rfl)))
theorem ww_212 : Cond.selects RX0 yX0_countUp yX0_countUp ∈ wsL_law := List.mem_append_left _ (List.mem_append_left _ (List.mem_append_left _ (List.mem_of_getElem? (i := 212) rfl)))
theorem ww_213 : Cond.code yX0_countUp cX0_countUp 5 none ∈ wsL_law := List.mem_append_left _ (List.mem_append_left _ (List.mem_append_left _ (List.mem_of_getElem? (i := 213) rfl)))
theorem ww_214 : Cond.methodLink RX1 157 yX1_joined ∈ wsL_law := List.mem_append_left _ (List.mem_append_left _ (List.mem_append_left _ (List.mem_of_getElem? (i := 214) rfl)))
theorem ww_215 : Cond.static yX1_joined ∈ wsL_law := List.mem_append_left _ (List.mem_append_left _ (List.mem_append_left _ (List.mem_of_getElem? (i := 215) rfl)))
theorem ww_216 : Cond.code yX1_joined cX1_joined 3 (some .long) ∈ wsL_law := List.mem_append_left _ (List.mem_append_left _ (List.mem_append_left _ (List.mem_of_getElem? (i := 216) rfl)))
theorem ww_221 : Cond.fieldLink RX2 80 "DoubleTextModel" "at" "I" ∈ wsL_law := List.mem_append_left _ (List.mem_append_left _ (List.mem_append_left _ (List.mem_of_getElem? (i := 221) rfl)))
theorem ww_222 : Cond.constantLong RX2 111 (-9223372036854775808) ∈ wsL_law := List.mem_append_left _ (List.mem_append_left _ (List.mem_append_left _ (List.mem_of_getElem? (i := 222) rfl)))
theorem ww_223 : Cond.methodLink RX2 87 yX2_is ∈ wsL_law := List.mem_append_left _ (List.mem_append_left _ (List.mem_append_left _ (List.mem_of_getElem? (i := 223) rfl)))
theorem ww_224 : Cond.instanceMethod yX2_is ∈ wsL_law := List.mem_append_left _ (List.mem_append_left _ (List.mem_append_left _ (List.mem_of_getElem? (i := 224) rfl)))
theorem ww_225 : Cond.selects RX2 yX2_is yX2_is ∈ wsL_law := List.mem_append_left _ (List.mem_append_left _ (List.mem_append_left _ (List.mem_of_getElem? (i := 225) rfl)))
theorem ww_226 : Cond.code yX2_is cX2_is 2 (some .boolean) ∈ wsL_law := List.mem_append_left _ (List.mem_append_left _ (List.mem_append_left _ (List.mem_of_getElem? (i := 226) rfl)))
theorem ww_227 : Cond.methodLink RX2 104 yX2_parse ∈ wsL_law := List.mem_append_left _ (List.mem_append_left _ (List.mem_append_left _ (List.mem_of_getElem? (i := 227) rfl)))
theorem ww_228 : Cond.instanceMethod yX2_parse ∈ wsL_law := List.mem_append_left _ (List.mem_append_left _ (List.mem_append_left _ (List.mem_of_getElem? (i := 228) rfl)))
theorem ww_229 : Cond.selects RX2 yX2_parse yX2_parse ∈ wsL_law := List.mem_append_left _ (List.mem_append_left _ (List.mem_append_left _ (List.mem_of_getElem? (i := 229) rfl)))
theorem ww_230 : Cond.code yX2_parse cX2_parse 4 (some .boolean) ∈ wsL_law := List.mem_append_left _ (List.mem_append_left _ (List.mem_append_left _ (List.mem_of_getElem? (i := 230) rfl)))
theorem ww_231 : Cond.methodLink RX2 83 yX2_isDigit ∈ wsL_law := List.mem_append_left _ (List.mem_append_left _ (List.mem_append_left _ (List.mem_of_getElem? (i := 231) rfl)))
theorem ww_232 : Cond.instanceMethod yX2_isDigit ∈ wsL_law := List.mem_append_left _ (List.mem_append_left _ (List.mem_append_left _ (List.mem_of_getElem? (i := 232) rfl)))
theorem ww_233 : Cond.selects RX2 yX2_isDigit yX2_isDigit ∈ wsL_law := List.mem_append_left _ (List.mem_append_left _ (List.mem_append_left _ (List.mem_of_getElem? (i := 233) rfl)))
theorem ww_234 : Cond.code yX2_isDigit cX2_isDigit 1 (some .boolean) ∈ wsL_law := List.mem_append_left _ (List.mem_append_left _ (List.mem_append_left _ (List.mem_of_getElem? (i := 234) rfl)))
theorem ww_235 : Cond.methodLink RX2 56 yX2_more ∈ wsL_law := List.mem_append_left _ (List.mem_append_left _ (List.mem_append_left _ (List.mem_of_getElem? (i := 235) rfl)))
theorem ww_236 : Cond.instanceMethod yX2_more ∈ wsL_law := List.mem_append_left _ (List.mem_append_left _ (List.mem_append_left _ (List.mem_of_getElem? (i := 236) rfl)))
theorem ww_237 : Cond.selects RX2 yX2_more yX2_more ∈ wsL_law := List.mem_append_left _ (List.mem_append_left _ (List.mem_append_left _ (List.mem_of_getElem? (i := 237) rfl)))
theorem ww_238 : Cond.code yX2_more cX2_more 3 none ∈ wsL_law := List.mem_append_left _ (List.mem_append_left _ (List.mem_append_left _ (List.mem_of_getElem? (i := 238) rfl)))
theorem ww_239 : Cond.methodLink RX2 60 yX2_trim ∈ wsL_law := List.mem_append_left _ (List.mem_append_left _ (List.mem_append_left _ (List.mem_of_getElem? (i := 239) rfl)))
theorem ww_240 : Cond.instanceMethod yX2_trim ∈ wsL_law := List.mem_append_left _ (List.mem_append_left _ (List.mem_append_left _ (List.mem_of_getElem? (i := 240) rfl)))
theorem ww_241 : Cond.selects RX2 yX2_trim yX2_trim ∈ wsL_law := List.mem_append_left _ (List.mem_append_left _ (List.mem_append_left _ (List.mem_of_getElem? (i := 241) rfl)))
theorem ww_242 : Cond.code yX2_trim cX2_trim 4 none ∈ wsL_law := List.mem_append_left _ (List.mem_append_left _ (List.mem_append_left _ (List.mem_of_getElem? (i := 242) rfl)))
theorem ww_243 : Cond.methodLink RX2 107 yX2_nearest ∈ wsL_law := List.mem_append_left _ (List.mem_append_left _ (List.mem_append_left _ (List.mem_of_getElem? (i := 243) rfl)))
theorem ww_244 : Cond.instanceMethod yX2_nearest ∈ wsL_law := List.mem_append_left _ (List.mem_append_left _ (List.mem_append_left _ (List.mem_of_getElem? (i := 244) rfl)))
theorem ww_245 : Cond.selects RX2 yX2_nearest yX2_nearest ∈ wsL_law := List.mem_append_left _ (List.mem_append_left _ (List.mem_append_left _ (List.mem_of_getElem? (i := 245) rfl)))
theorem ww_246 : Cond.code yX2_nearest cX2_nearest 7 (some .long) ∈ wsL_law := List.mem_append_left _ (List.mem_append_left _ (List.mem_append_left _ (List.mem_of_getElem? (i := 246) rfl)))
theorem ww_247 : Cond.constantLong RX2 91 (9218868437227405312) ∈ wsL_law := List.mem_append_left _ (List.mem_append_left _ (List.mem_append_left _ (List.mem_of_getElem? (i := 247) rfl)))
theorem ww_248 : Cond.constantLong RX2 93 (9218868437227405311) ∈ wsL_law := List.mem_append_left _ (List.mem_append_left _ (List.mem_append_left _ (List.mem_of_getElem? (i := 248) rfl)))
theorem ww_249 : Cond.constantLong RX2 95 (2) ∈ wsL_law := List.mem_append_left _ (List.mem_append_left _ (List.mem_append_left _ (List.mem_of_getElem? (i := 249) rfl)))
theorem ww_250 : Cond.methodLink RX2 97 yX2_rowOf ∈ wsL_law := List.mem_append_left _ (List.mem_append_left _ (List.mem_append_left _ (List.mem_of_getElem? (i := 250) rfl)))
theorem ww_251 : Cond.instanceMethod yX2_rowOf ∈ wsL_law := List.mem_append_left _ (List.mem_append_left _ (List.mem_append_left _ (List.mem_of_getElem? (i := 251) rfl)))
theorem ww_252 : Cond.selects RX2 yX2_rowOf yX2_rowOf ∈ wsL_law := List.mem_append_left _ (List.mem_append_left _ (List.mem_append_left _ (List.mem_of_getElem? (i := 252) rfl)))
theorem ww_253 : Cond.code yX2_rowOf cX2_rowOf 4 none ∈ wsL_law := List.mem_append_left _ (List.mem_append_left _ (List.mem_append_left _ (List.mem_of_getElem? (i := 253) rfl)))
theorem ww_254 : Cond.methodLink RX2 68 yX2_whole ∈ wsL_law := List.mem_append_left _ (List.mem_append_left _ (List.mem_append_left _ (List.mem_of_getElem? (i := 254) rfl)))
theorem ww_255 : Cond.static yX2_whole ∈ wsL_law := List.mem_append_left _ (List.mem_append_left _ (List.mem_append_left _ (List.mem_of_getElem? (i := 255) rfl)))
theorem ww_256 : Cond.code yX2_whole cX2_whole 2 (some .long) ∈ wsL_law := List.mem_append_left _ (List.mem_append_left _ (List.mem_append_left _ (List.mem_of_getElem? (i := 256) rfl)))
theorem ww_257 : Cond.constantLong RX2 64 (4503599627370495) ∈ wsL_law := List.mem_append_left _ (List.mem_append_left _ (List.mem_append_left _ (List.mem_of_getElem? (i := 257) rfl)))
theorem ww_258 : Cond.constantLong RX2 66 (4503599627370496) ∈ wsL_law := List.mem_append_left _ (List.mem_append_left _ (List.mem_append_left _ (List.mem_of_getElem? (i := 258) rfl)))
theorem ww_259 : Cond.methodLink RX2 72 yX2_two ∈ wsL_law := List.mem_append_left _ (List.mem_append_left _ (List.mem_append_left _ (List.mem_of_getElem? (i := 259) rfl)))
theorem ww_260 : Cond.static yX2_two ∈ wsL_law := List.mem_append_left _ (List.mem_append_left _ (List.mem_append_left _ (List.mem_of_getElem? (i := 260) rfl)))
theorem ww_261 : Cond.code yX2_two cX2_two 2 (some .int) ∈ wsL_law := List.mem_append_left _ (List.mem_append_left _ (List.mem_append_left _ (List.mem_of_getElem? (i := 261) rfl)))
theorem ww_262 : Cond.methodLink RX2 76 yX2_row ∈ wsL_law := List.mem_append_left _ (List.mem_append_left _ (List.mem_append_left _ (List.mem_of_getElem? (i := 262) rfl)))
theorem ww_263 : Cond.instanceMethod yX2_row ∈ wsL_law := List.mem_append_left _ (List.mem_append_left _ (List.mem_append_left _ (List.mem_of_getElem? (i := 263) rfl)))
theorem ww_264 : Cond.selects RX2 yX2_row yX2_row ∈ wsL_law := List.mem_append_left _ (List.mem_append_left _ (List.mem_append_left _ (List.mem_of_getElem? (i := 264) rfl)))
theorem ww_265 : Cond.code yX2_row cX2_row 8 none ∈ wsL_law := List.mem_append_left _ (List.mem_append_left _ (List.mem_append_left _ (List.mem_of_getElem? (i := 265) rfl)))
theorem ww_266 : Cond.fieldLink RX2 37 "DoubleTextModel" "used" "I" ∈ wsL_law := List.mem_append_left _ (List.mem_append_left _ (List.mem_append_left _ (List.mem_of_getElem? (i := 266) rfl)))
theorem ww_267 : Cond.constantLong RX2 40 (1000000000) ∈ wsL_law := List.mem_append_left _ (List.mem_append_left _ (List.mem_append_left _ (List.mem_of_getElem? (i := 267) rfl)))
theorem ww_268 : Cond.constantLong RX2 42 (536870912) ∈ wsL_law := List.mem_append_left _ (List.mem_append_left _ (List.mem_append_left _ (List.mem_of_getElem? (i := 268) rfl)))
theorem ww_269 : Cond.constantLong RX2 48 (244140625) ∈ wsL_law := List.mem_append_left _ (List.mem_append_left _ (List.mem_append_left _ (List.mem_of_getElem? (i := 269) rfl)))
theorem ww_270 : Cond.constantLong RX2 50 (5) ∈ wsL_law := List.mem_append_left _ (List.mem_append_left _ (List.mem_append_left _ (List.mem_of_getElem? (i := 270) rfl)))
theorem ww_271 : Cond.constantLong RX2 52 (100000000) ∈ wsL_law := List.mem_append_left _ (List.mem_append_left _ (List.mem_append_left _ (List.mem_of_getElem? (i := 271) rfl)))
theorem ww_272 : Cond.constantLong RX2 54 (10) ∈ wsL_law := List.mem_append_left _ (List.mem_append_left _ (List.mem_append_left _ (List.mem_of_getElem? (i := 272) rfl)))
theorem ww_273 : Cond.methodLink RX2 44 yX2_times ∈ wsL_law := List.mem_append_left _ (List.mem_append_left _ (List.mem_append_left _ (List.mem_of_getElem? (i := 273) rfl)))
theorem ww_274 : Cond.instanceMethod yX2_times ∈ wsL_law := List.mem_append_left _ (List.mem_append_left _ (List.mem_append_left _ (List.mem_of_getElem? (i := 274) rfl)))
theorem ww_275 : Cond.selects RX2 yX2_times yX2_times ∈ wsL_law := List.mem_append_left _ (List.mem_append_left _ (List.mem_append_left _ (List.mem_of_getElem? (i := 275) rfl)))
theorem ww_276 : Cond.code yX2_times cX2_times 6 none ∈ wsL_law := List.mem_append_left _ (List.mem_append_left _ (List.mem_append_left _ (List.mem_of_getElem? (i := 276) rfl)))
theorem ww_277 : Cond.methodLink RX2 101 yX2_against ∈ wsL_law := List.mem_append_left _ (List.mem_append_left _ (List.mem_append_left _ (List.mem_of_getElem? (i := 277) rfl)))
theorem ww_278 : Cond.instanceMethod yX2_against ∈ wsL_law := List.mem_append_left _ (List.mem_append_left _ (List.mem_append_left _ (List.mem_of_getElem? (i := 278) rfl)))
theorem ww_279 : Cond.selects RX2 yX2_against yX2_against ∈ wsL_law := List.mem_append_left _ (List.mem_append_left _ (List.mem_append_left _ (List.mem_of_getElem? (i := 279) rfl)))
theorem ww_280 : Cond.code yX2_against cX2_against 4 (some .int) ∈ wsL_law := List.mem_append_left _ (List.mem_append_left _ (List.mem_append_left _ (List.mem_of_getElem? (i := 280) rfl)))
theorem ww_281 : Cond.methodLink RX2 33 yX2_digit ∈ wsL_law := List.mem_append_left _ (List.mem_append_left _ (List.mem_append_left _ (List.mem_of_getElem? (i := 281) rfl)))
theorem ww_282 : Cond.instanceMethod yX2_digit ∈ wsL_law := List.mem_append_left _ (List.mem_append_left _ (List.mem_append_left _ (List.mem_of_getElem? (i := 282) rfl)))
theorem ww_283 : Cond.selects RX2 yX2_digit yX2_digit ∈ wsL_law := List.mem_append_left _ (List.mem_append_left _ (List.mem_append_left _ (List.mem_of_getElem? (i := 283) rfl)))
theorem ww_284 : Cond.code yX2_digit cX2_digit 3 (some .int) ∈ wsL_law := List.mem_append_left _ (List.mem_append_left _ (List.mem_append_left _ (List.mem_of_getElem? (i := 284) rfl)))
theorem ww_292 : Cond.methodLink RX1 85 Lib.Math.max.name ∈ wsL_law := List.mem_append_left _ (List.mem_append_left _ (List.mem_append_left _ (List.mem_of_getElem? (i := 292) rfl)))
theorem ww_293 : Cond.methodLink RX1 57 yX1_isNone ∈ wsL_law := List.mem_append_left _ (List.mem_append_left _ (List.mem_append_left _ (List.mem_of_getElem? (i := 293) rfl)))
theorem ww_294 : Cond.static yX1_isNone ∈ wsL_law := List.mem_append_left _ (List.mem_append_left _ (List.mem_append_left _ (List.mem_of_getElem? (i := 294) rfl)))
theorem ww_295 : Cond.code yX1_isNone cX1_isNone 2 (some .boolean) ∈ wsL_law := List.mem_append_left _ (List.mem_append_left _ (List.mem_append_left _ (List.mem_of_getElem? (i := 295) rfl)))
theorem ww_296 : Cond.methodLink RX1 61 yX1_mantissaOf ∈ wsL_law := List.mem_append_left _ (List.mem_append_left _ (List.mem_append_left _ (List.mem_of_getElem? (i := 296) rfl)))
theorem ww_297 : Cond.static yX1_mantissaOf ∈ wsL_law := List.mem_append_left _ (List.mem_append_left _ (List.mem_append_left _ (List.mem_of_getElem? (i := 297) rfl)))
theorem ww_298 : Cond.code yX1_mantissaOf cX1_mantissaOf 4 (some .long) ∈ wsL_law := List.mem_append_left _ (List.mem_append_left _ (List.mem_append_left _ (List.mem_of_getElem? (i := 298) rfl)))
theorem ww_299 : Cond.constantLong RX1 106 (4503599627370495) ∈ wsL_law := List.mem_append_left _ (List.mem_append_left _ (List.mem_append_left _ (List.mem_of_getElem? (i := 299) rfl)))
theorem ww_300 : Cond.constantLong RX1 108 (4503599627370496) ∈ wsL_law := List.mem_append_left _ (List.mem_append_left _ (List.mem_append_left _ (List.mem_of_getElem? (i := 300) rfl)))
theorem ww_301 : Cond.methodLink RX1 65 yX1_powerOf ∈ wsL_law := List.mem_append_left _ (List.mem_append_left _ (List.mem_append_left _ (List.mem_of_getElem? (i := 301) rfl)))
theorem ww_302 : Cond.static yX1_powerOf ∈ wsL_law := List.mem_append_left _ (List.mem_append_left _ (List.mem_append_left _ (List.mem_of_getElem? (i := 302) rfl)))
theorem ww_303 : Cond.code yX1_powerOf cX1_powerOf 3 (some .int) ∈ wsL_law := List.mem_append_left _ (List.mem_append_left _ (List.mem_append_left _ (List.mem_of_getElem? (i := 303) rfl)))
theorem ww_304 : Cond.methodLink RX1 69 yX0_takeScaled ∈ wsL_law := List.mem_append_left _ (List.mem_append_left _ (List.mem_append_left _ (List.mem_of_getElem? (i := 304) rfl)))
theorem ww_305 : Cond.instanceMethod yX0_takeScaled ∈ wsL_law := List.mem_append_left _ (List.mem_append_left _ (List.mem_append_left _ (List.mem_of_getElem? (i := 305) rfl)))
theorem ww_306 : Cond.selects RX0 yX0_takeScaled yX0_takeScaled ∈ wsL_law := List.mem_append_left _ (List.mem_append_left _ (List.mem_append_left _ (List.mem_of_getElem? (i := 306) rfl)))
theorem ww_307 : Cond.code yX0_takeScaled cX0_takeScaled 4 none ∈ wsL_law := List.mem_append_left _ (List.mem_append_left _ (List.mem_append_left _ (List.mem_of_getElem? (i := 307) rfl)))
theorem ww_308 : Cond.methodLink RX0 53 yX0_scale ∈ wsL_law := List.mem_append_left _ (List.mem_append_left _ (List.mem_append_left _ (List.mem_of_getElem? (i := 308) rfl)))
theorem ww_309 : Cond.methodLink RX1 77 yX1_startText ∈ wsL_law := List.mem_append_left _ (List.mem_append_left _ (List.mem_append_left _ (List.mem_of_getElem? (i := 309) rfl)))
theorem ww_310 : Cond.instanceMethod yX1_startText ∈ wsL_law := List.mem_append_left _ (List.mem_append_left _ (List.mem_append_left _ (List.mem_of_getElem? (i := 310) rfl)))
theorem ww_311 : Cond.selects RX1 yX1_startText yX1_startText ∈ wsL_law := List.mem_append_left _ (List.mem_append_left _ (List.mem_append_left _ (List.mem_of_getElem? (i := 311) rfl)))
theorem ww_312 : Cond.code yX1_startText cX1_startText 3 none ∈ wsL_law := List.mem_append_left _ (List.mem_append_left _ (List.mem_append_left _ (List.mem_of_getElem? (i := 312) rfl)))
theorem ww_313 : Cond.methodLink RX1 81 yX0_topPlace ∈ wsL_law := List.mem_append_left _ (List.mem_append_left _ (List.mem_append_left _ (List.mem_of_getElem? (i := 313) rfl)))
theorem ww_314 : Cond.instanceMethod yX0_topPlace ∈ wsL_law := List.mem_append_left _ (List.mem_append_left _ (List.mem_append_left _ (List.mem_of_getElem? (i := 314) rfl)))
theorem ww_315 : Cond.selects RX0 yX0_topPlace yX0_topPlace ∈ wsL_law := List.mem_append_left _ (List.mem_append_left _ (List.mem_append_left _ (List.mem_of_getElem? (i := 315) rfl)))
theorem ww_316 : Cond.code yX0_topPlace cX0_topPlace 4 (some .int) ∈ wsL_law := List.mem_append_left _ (List.mem_append_left _ (List.mem_append_left _ (List.mem_of_getElem? (i := 316) rfl)))
theorem ww_317 : Cond.methodLink RX1 91 yX1_putDigits ∈ wsL_law := List.mem_append_left _ (List.mem_append_left _ (List.mem_append_left _ (List.mem_of_getElem? (i := 317) rfl)))
theorem ww_318 : Cond.instanceMethod yX1_putDigits ∈ wsL_law := List.mem_append_left _ (List.mem_append_left _ (List.mem_append_left _ (List.mem_of_getElem? (i := 318) rfl)))
theorem ww_319 : Cond.selects RX1 yX1_putDigits yX1_putDigits ∈ wsL_law := List.mem_append_left _ (List.mem_append_left _ (List.mem_append_left _ (List.mem_of_getElem? (i := 319) rfl)))
theorem ww_320 : Cond.code yX1_putDigits cX1_putDigits 4 none ∈ wsL_law := List.mem_append_left _ (List.mem_append_left _ (List.mem_append_left _ (List.mem_of_getElem? (i := 320) rfl)))
theorem ww_321 : Cond.methodLink RX1 188 yX0_digit ∈ wsL_law := List.mem_append_left _ (List.mem_append_left _ (List.mem_append_left _ (List.mem_of_getElem? (i := 321) rfl)))
theorem ww_322 : Cond.instanceMethod yX0_digit ∈ wsL_law := List.mem_append_left _ (List.mem_append_left _ (List.mem_append_left _ (List.mem_of_getElem? (i := 322) rfl)))
theorem ww_323 : Cond.selects RX0 yX0_digit yX0_digit ∈ wsL_law := List.mem_append_left _ (List.mem_append_left _ (List.mem_append_left _ (List.mem_of_getElem? (i := 323) rfl)))
theorem ww_324 : Cond.code yX0_digit cX0_digit 2 (some .int) ∈ wsL_law := List.mem_append_left _ (List.mem_append_left _ (List.mem_append_left _ (List.mem_of_getElem? (i := 324) rfl)))
theorem ww_325 : Cond.constantLong RX0 40 (10) ∈ wsL_law := List.mem_append_left _ (List.mem_append_left _ (List.mem_append_left _ (List.mem_of_getElem? (i := 325) rfl)))
theorem ww_330 : Cond.constantLong RX2 120 (9223372036854775807) ∈ wsL_law := List.mem_append_left _ (List.mem_append_left _ (List.mem_append_left _ (List.mem_of_getElem? (i := 330) rfl)))
theorem ww_331 : Cond.methodLink RX2 116 yX2_begins ∈ wsL_law := List.mem_append_left _ (List.mem_append_left _ (List.mem_append_left _ (List.mem_of_getElem? (i := 331) rfl)))
theorem ww_332 : Cond.instanceMethod yX2_begins ∈ wsL_law := List.mem_append_left _ (List.mem_append_left _ (List.mem_append_left _ (List.mem_of_getElem? (i := 332) rfl)))
theorem ww_333 : Cond.selects RX2 yX2_begins yX2_begins ∈ wsL_law := List.mem_append_left _ (List.mem_append_left _ (List.mem_append_left _ (List.mem_of_getElem? (i := 333) rfl)))
theorem ww_334 : Cond.code yX2_begins cX2_begins 3 (some .boolean) ∈ wsL_law := List.mem_append_left _ (List.mem_append_left _ (List.mem_append_left _ (List.mem_of_getElem? (i := 334) rfl)))
theorem ww_335 : Cond.methodLink RX2 113 yX2_put ∈ wsL_law := List.mem_append_left _ (List.mem_append_left _ (List.mem_append_left _ (List.mem_of_getElem? (i := 335) rfl)))
theorem ww_336 : Cond.instanceMethod yX2_put ∈ wsL_law := List.mem_append_left _ (List.mem_append_left _ (List.mem_append_left _ (List.mem_of_getElem? (i := 336) rfl)))
theorem ww_337 : Cond.selects RX2 yX2_put yX2_put ∈ wsL_law := List.mem_append_left _ (List.mem_append_left _ (List.mem_append_left _ (List.mem_of_getElem? (i := 337) rfl)))
theorem ww_338 : Cond.code yX2_put cX2_put 2 none ∈ wsL_law := List.mem_append_left _ (List.mem_append_left _ (List.mem_append_left _ (List.mem_of_getElem? (i := 338) rfl)))
theorem ww_339 : Cond.methodLink RX2 122 yX2_round ∈ wsL_law := List.mem_append_left _ (List.mem_append_left _ (List.mem_append_left _ (List.mem_of_getElem? (i := 339) rfl)))
theorem ww_340 : Cond.instanceMethod yX2_round ∈ wsL_law := List.mem_append_left _ (List.mem_append_left _ (List.mem_append_left _ (List.mem_of_getElem? (i := 340) rfl)))
theorem ww_341 : Cond.selects RX2 yX2_round yX2_round ∈ wsL_law := List.mem_append_left _ (List.mem_append_left _ (List.mem_append_left _ (List.mem_of_getElem? (i := 341) rfl)))
theorem ww_342 : Cond.code yX2_round cX2_round 7 none ∈ wsL_law := List.mem_append_left _ (List.mem_append_left _ (List.mem_append_left _ (List.mem_of_getElem? (i := 342) rfl)))
theorem ww_350 : Cond.methodLink RX1 95 yX1_putPower ∈ wsL_law := List.mem_append_left _ (List.mem_append_left _ (List.mem_append_left _ (List.mem_of_getElem? (i := 350) rfl)))
theorem ww_351 : Cond.instanceMethod yX1_putPower ∈ wsL_law := List.mem_append_left _ (List.mem_append_left _ (List.mem_append_left _ (List.mem_of_getElem? (i := 351) rfl)))
theorem ww_352 : Cond.selects RX1 yX1_putPower yX1_putPower ∈ wsL_law := List.mem_append_left _ (List.mem_append_left _ (List.mem_append_left _ (List.mem_of_getElem? (i := 352) rfl)))
theorem ww_353 : Cond.code yX1_putPower cX1_putPower 3 none ∈ wsL_law := List.mem_append_left _ (List.mem_append_left _ (List.mem_append_left _ (List.mem_of_getElem? (i := 353) rfl)))
theorem ww_354 : Cond.methodLink RX1 191 Lib.Math.abs.name ∈ wsL_law := List.mem_append_left _ (List.mem_append_left _ (List.mem_append_left _ (List.mem_of_getElem? (i := 354) rfl)))
theorem ww_355 : Cond.static Lib.Math.abs.name ∈ wsL_law := List.mem_append_left _ (List.mem_append_left _ (List.mem_append_left _ (List.mem_of_getElem? (i := 355) rfl)))
theorem ww_356 : Cond.code Lib.Math.abs.name Lib.Math.abs.code 1 (some .int) ∈ wsL_law := List.mem_append_left _ (List.mem_append_left _ (List.mem_append_left _ (List.mem_of_getElem? (i := 356) rfl)))
theorem ww_357 : Cond.methodLink RX1 98 yX1_putShortest ∈ wsL_law := List.mem_append_left _ (List.mem_append_left _ (List.mem_append_left _ (List.mem_of_getElem? (i := 357) rfl)))
theorem ww_358 : Cond.instanceMethod yX1_putShortest ∈ wsL_law := List.mem_append_left _ (List.mem_append_left _ (List.mem_append_left _ (List.mem_of_getElem? (i := 358) rfl)))
theorem ww_359 : Cond.selects RX1 yX1_putShortest yX1_putShortest ∈ wsL_law := List.mem_append_left _ (List.mem_append_left _ (List.mem_append_left _ (List.mem_of_getElem? (i := 359) rfl)))
theorem ww_360 : Cond.code yX1_putShortest cX1_putShortest 6 none ∈ wsL_law := List.mem_append_left _ (List.mem_append_left _ (List.mem_append_left _ (List.mem_of_getElem? (i := 360) rfl)))
theorem ww_361 : Cond.constantLong RX1 172 (2) ∈ wsL_law := List.mem_append_left _ (List.mem_append_left _ (List.mem_append_left _ (List.mem_of_getElem? (i := 361) rfl)))
theorem ww_362 : Cond.methodLink RX1 169 yX1_takeEdges ∈ wsL_law := List.mem_append_left _ (List.mem_append_left _ (List.mem_append_left _ (List.mem_of_getElem? (i := 362) rfl)))
theorem ww_363 : Cond.instanceMethod yX1_takeEdges ∈ wsL_law := List.mem_append_left _ (List.mem_append_left _ (List.mem_append_left _ (List.mem_of_getElem? (i := 363) rfl)))
theorem ww_364 : Cond.selects RX1 yX1_takeEdges yX1_takeEdges ∈ wsL_law := List.mem_append_left _ (List.mem_append_left _ (List.mem_append_left _ (List.mem_of_getElem? (i := 364) rfl)))
theorem ww_365 : Cond.code yX1_takeEdges cX1_takeEdges 7 none ∈ wsL_law := List.mem_append_left _ (List.mem_append_left _ (List.mem_append_left _ (List.mem_of_getElem? (i := 365) rfl)))
theorem ww_366 : Cond.constantLong RX1 178 (4) ∈ wsL_law := List.mem_append_left _ (List.mem_append_left _ (List.mem_append_left _ (List.mem_of_getElem? (i := 366) rfl)))
theorem ww_367 : Cond.methodLink RX1 174 yX1_roundToFewest ∈ wsL_law := List.mem_append_left _ (List.mem_append_left _ (List.mem_append_left _ (List.mem_of_getElem? (i := 367) rfl)))
theorem ww_368 : Cond.instanceMethod yX1_roundToFewest ∈ wsL_law := List.mem_append_left _ (List.mem_append_left _ (List.mem_append_left _ (List.mem_of_getElem? (i := 368) rfl)))
theorem ww_369 : Cond.selects RX1 yX1_roundToFewest yX1_roundToFewest ∈ wsL_law := List.mem_append_left _ (List.mem_append_left _ (List.mem_append_left _ (List.mem_of_getElem? (i := 369) rfl)))
theorem ww_370 : Cond.code yX1_roundToFewest cX1_roundToFewest 4 (some .int) ∈ wsL_law := List.mem_append_left _ (List.mem_append_left _ (List.mem_append_left _ (List.mem_of_getElem? (i := 370) rfl)))
theorem ww_371 : Cond.methodLink RX1 180 yX1_isBetweenEdges ∈ wsL_law := List.mem_append_left _ (List.mem_append_left _ (List.mem_append_left _ (List.mem_of_getElem? (i := 371) rfl)))
theorem ww_372 : Cond.instanceMethod yX1_isBetweenEdges ∈ wsL_law := List.mem_append_left _ (List.mem_append_left _ (List.mem_append_left _ (List.mem_of_getElem? (i := 372) rfl)))
theorem ww_373 : Cond.selects RX1 yX1_isBetweenEdges yX1_isBetweenEdges ∈ wsL_law := List.mem_append_left _ (List.mem_append_left _ (List.mem_append_left _ (List.mem_of_getElem? (i := 373) rfl)))
theorem ww_374 : Cond.code yX1_isBetweenEdges cX1_isBetweenEdges 4 (some .boolean) ∈ wsL_law := List.mem_append_left _ (List.mem_append_left _ (List.mem_append_left _ (List.mem_of_getElem? (i := 374) rfl)))
theorem ww_375 : Cond.methodLink RX1 184 yX0_comparedTo ∈ wsL_law := List.mem_append_left _ (List.mem_append_left _ (List.mem_append_left _ (List.mem_of_getElem? (i := 375) rfl)))
theorem ww_376 : Cond.instanceMethod yX0_comparedTo ∈ wsL_law := List.mem_append_left _ (List.mem_append_left _ (List.mem_append_left _ (List.mem_of_getElem? (i := 376) rfl)))
theorem ww_377 : Cond.selects RX0 yX0_comparedTo yX0_comparedTo ∈ wsL_law := List.mem_append_left _ (List.mem_append_left _ (List.mem_append_left _ (List.mem_of_getElem? (i := 377) rfl)))
theorem ww_378 : Cond.code yX0_comparedTo cX0_comparedTo 4 (some .int) ∈ wsL_law := List.mem_append_left _ (List.mem_append_left _ (List.mem_append_left _ (List.mem_of_getElem? (i := 378) rfl)))
theorem ww_383 : Cond.constantLong RX2 125 (4) ∈ wsL_law := List.mem_append_left _ (List.mem_append_left _ (List.mem_append_left _ (List.mem_of_getElem? (i := 383) rfl)))
theorem ww_384 : Cond.methodLink RX2 127 yX2_readsAsIt ∈ wsL_law := List.mem_append_left _ (List.mem_append_left _ (List.mem_append_left _ (List.mem_of_getElem? (i := 384) rfl)))
theorem ww_385 : Cond.instanceMethod yX2_readsAsIt ∈ wsL_law := List.mem_append_left _ (List.mem_append_left _ (List.mem_append_left _ (List.mem_of_getElem? (i := 385) rfl)))
theorem ww_386 : Cond.selects RX2 yX2_readsAsIt yX2_readsAsIt ∈ wsL_law := List.mem_append_left _ (List.mem_append_left _ (List.mem_append_left _ (List.mem_of_getElem? (i := 386) rfl)))
theorem ww_387 : Cond.code yX2_readsAsIt cX2_readsAsIt 5 (some .boolean) ∈ wsL_law := List.mem_append_left _ (List.mem_append_left _ (List.mem_append_left _ (List.mem_of_getElem? (i := 387) rfl)))
theorem ww_396 : Cond.classLink RX1 101 "java/util/NoSuchElementException" ∈ wsL_law := List.mem_append_left _ (List.mem_append_left _ (List.mem_append_left _ (List.mem_of_getElem? (i := 396) rfl)))
theorem ww_397 : Cond.initialized "java/util/NoSuchElementException" ∈ wsL_law := List.mem_append_left _ (List.mem_append_left _ (List.mem_append_left _ (List.mem_of_getElem? (i := 397) rfl)))
end
section
abbrev w_X0_wipe : List Cond := Cond.code yX0_wipe cX0_wipe 2 none :: wsL_law
abbrev wd_X0_wipe (a_this a_limbs : Nat) (c_limbs : ClassId) (v_first : Int32) (v_last : Int32) (v_limbs : Nat → Int64) : va_W := [(a_this, .inr (0, [.ref a_limbs, .int v_first, .int v_last])), (a_limbs, .inl (c_limbs, 160, .inr (.inl v_limbs)))]
def f_X0_wipe_L5 : Nat → (Int32) → (Int32) → (Int32) → (Nat → Int64) → Option ((Int32) × (Int32) × (Nat → Int64))
  | 0, _, _, _, _ => none
  | n + 1, l1, v_first, v_last, v_limbs =>
    (if v_last < l1 then
some (160, (-1), v_limbs)
    else
(if l1 < 0 ∨ 160 ≤ Int32.toNatClampNeg l1 then none else
f_X0_wipe_L5 n (l1 + 1) v_first v_last (vp_updL v_limbs (Int32.toNatClampNeg l1) 0)))
def f_X0_wipe (v_first : Int32) (v_last : Int32) (v_limbs : Nat → Int64) : Option ((Int32) × (Int32) × (Nat → Int64)) :=
    f_X0_wipe_L5 FU v_first v_first v_last v_limbs

abbrev w_J9_floorDiv_7cf53 : List Cond := Cond.code yJ9_floorDiv_7cf53 cJ9_floorDiv_7cf53 3 (some .int) :: wsL_law
def f_J9_floorDiv_7cf53 (l0 : Int32) (l1 : Int32) : Option ((Int32)) :=
    (if l1 = 0 then none else
(if 0 ≤ (l0 ^^^ l1) then
some (l0 / l1)
  else
(if ((l0 / l1) * l1) = l0 then
some (l0 / l1)
    else
some ((l0 / l1) - 1))))

abbrev w_X0_limbOf : List Cond := Cond.code yX0_limbOf cX0_limbOf 1 (some .int) :: wsL_law
def f_X0_limbOf (l0 : Int32) : Option ((Int32)) :=
    ((f_J9_floorDiv_7cf53 l0 9).bind fun r5 =>
some (34 - r5))

abbrev w_J9_floorMod_7cf53 : List Cond := Cond.code yJ9_floorMod_7cf53 cJ9_floorMod_7cf53 3 (some .int) :: wsL_law
def f_J9_floorMod_7cf53 (l0 : Int32) (l1 : Int32) : Option ((Int32)) :=
    (if l1 = 0 then none else
(if 0 ≤ (l0 ^^^ l1) then
some (l0 - l0 / l1 * l1)
  else
(if (l0 - l0 / l1 * l1) = 0 then
some (l0 - l0 / l1 * l1)
    else
some ((l0 - l0 / l1 * l1) + l1))))

abbrev w_X0_unitOf : List Cond := Cond.code yX0_unitOf cX0_unitOf 1 (some .long) :: wsL_law
def f_X0_unitOf (l0 : Int32) : Option ((Int64)) :=
    ((f_J9_floorMod_7cf53 l0 9).bind fun r6 =>
(if r6 < 0 ∨ 9 ≤ Int32.toNatClampNeg r6 then none else
some (TENS_f (Int32.toNatClampNeg r6))))

abbrev w_X0_setDigit : List Cond := Cond.code yX0_setDigit cX0_setDigit 4 none :: wsL_law
abbrev wd_X0_setDigit (a_this a_limbs : Nat) (c_limbs : ClassId) (v_first : Int32) (v_last : Int32) (v_limbs : Nat → Int64) : va_W := [(a_this, .inr (0, [.ref a_limbs, .int v_first, .int v_last])), (a_limbs, .inl (c_limbs, 160, .inr (.inl v_limbs)))]
def f_X0_setDigit (l1 : Int32) (l2 : Int32) (v_first : Int32) (v_last : Int32) (v_limbs : Nat → Int64) : Option ((Int32) × (Int32) × (Nat → Int64)) :=
    ((f_X0_limbOf l1).bind fun r1 =>
(if r1 < 0 then
some (v_first, v_last, v_limbs)
  else
(if 160 ≤ r1 then
some (v_first, v_last, v_limbs)
    else
(if l2 = 0 then
some (v_first, v_last, v_limbs)
      else
(if r1 < 0 ∨ 160 ≤ Int32.toNatClampNeg r1 then none else
((f_X0_unitOf l1).bind fun r31 =>
(if r1 < 0 ∨ 160 ≤ Int32.toNatClampNeg r1 then none else
some ((if r1 < v_first then r1 else v_first), (if v_last < r1 then r1 else v_last), (vp_updL v_limbs (Int32.toNatClampNeg r1) ((v_limbs (Int32.toNatClampNeg r1)) + ((Int32.toInt64 l2) * r31)))))))))))

abbrev w_X0_limb : List Cond := Cond.code yX0_limb cX0_limb 2 (some .long) :: wsL_law
abbrev wd_X0_limb (a_this a_limbs : Nat) (c_limbs : ClassId) (v_first : Int32) (v_last : Int32) (v_limbs : Nat → Int64) : va_W := [(a_this, .inr (0, [.ref a_limbs, .int v_first, .int v_last])), (a_limbs, .inl (c_limbs, 160, .inr (.inl v_limbs)))]
def f_X0_limb (l1 : Int32) (v_limbs : Nat → Int64) : Option ((Int64)) :=
    (if l1 < 0 then
some 0
  else
(if 160 ≤ l1 then
some 0
    else
(if l1 < 0 ∨ 160 ≤ Int32.toNatClampNeg l1 then none else
some (v_limbs (Int32.toNatClampNeg l1)))))

abbrev w_X0_digit : List Cond := Cond.code yX0_digit cX0_digit 2 (some .int) :: wsL_law
abbrev wd_X0_digit (a_this a_limbs : Nat) (c_limbs : ClassId) (v_first : Int32) (v_last : Int32) (v_limbs : Nat → Int64) : va_W := [(a_this, .inr (0, [.ref a_limbs, .int v_first, .int v_last])), (a_limbs, .inl (c_limbs, 160, .inr (.inl v_limbs)))]
def f_X0_digit (l1 : Int32) (v_limbs : Nat → Int64) : Option ((Int32)) :=
    ((f_X0_limbOf l1).bind fun r2 =>
((f_X0_limb r2 v_limbs).bind fun r5 =>
((f_X0_unitOf l1).bind fun r9 =>
(if r9 = 0 then none else
some (Int64.toInt32 ((r5 / r9) - (r5 / r9) / 10 * 10))))))

abbrev w_X0_topPlace : List Cond := Cond.code yX0_topPlace cX0_topPlace 4 (some .int) :: wsL_law
abbrev wd_X0_topPlace (a_this a_limbs : Nat) (c_limbs : ClassId) (v_first : Int32) (v_last : Int32) (v_limbs : Nat → Int64) : va_W := [(a_this, .inr (0, [.ref a_limbs, .int v_first, .int v_last])), (a_limbs, .inl (c_limbs, 160, .inr (.inl v_limbs)))]
def f_X0_topPlace_b40 (l3 : Int32) (v_first : Int32) (v_limbs : Nat → Int64) : Option ((Int32)) :=
    some (((34 - v_first) * 9) + l3)
def f_X0_topPlace_L20 : Nat → (Int64) → (Int32) → (Int32) → (Nat → Int64) → Option ((Int32))
  | 0, _, _, _, _ => none
  | n + 1, l1, l3, v_first, v_limbs =>
    (if l3 ≤ 0 then
f_X0_topPlace_b40  l3 v_first v_limbs
    else
(if l3 < 0 ∨ 9 ≤ Int32.toNatClampNeg l3 then none else
(if 0 ≤ (lg_cmp l1 (TENS_f (Int32.toNatClampNeg l3))) then
f_X0_topPlace_b40  l3 v_first v_limbs
      else
f_X0_topPlace_L20 n l1 (l3 + (-1)) v_first v_limbs)))
def f_X0_topPlace (v_first : Int32) (v_limbs : Nat → Int64) : Option ((Int32)) :=
    ((f_X0_limb v_first v_limbs).bind fun r5 =>
(if (lg_cmp r5 0) = 0 then
some 0
  else
f_X0_topPlace_L20 FU r5 8 v_first v_limbs))

abbrev w_X0_isWide : List Cond := Cond.code yX0_isWide cX0_isWide 1 (some .boolean) :: wsL_law
abbrev wd_X0_isWide (a_this a_limbs : Nat) (v_first : Int32) (v_last : Int32) : va_W := [(a_this, .inr (0, [.ref a_limbs, .int v_first, .int v_last]))]
def f_X0_isWide (v_first : Int32) : Option ((Int32)) :=
    (if 33 ≤ v_first then
some 0
  else
some 1)

abbrev w_X0_whole : List Cond := Cond.code yX0_whole cX0_whole 1 (some .long) :: wsL_law
abbrev wd_X0_whole (a_this a_limbs : Nat) (c_limbs : ClassId) (v_first : Int32) (v_last : Int32) (v_limbs : Nat → Int64) : va_W := [(a_this, .inr (0, [.ref a_limbs, .int v_first, .int v_last])), (a_limbs, .inl (c_limbs, 160, .inr (.inl v_limbs)))]
def f_X0_whole (v_limbs : Nat → Int64) : Option ((Int64)) :=
    some (((v_limbs (Int32.toNatClampNeg 33)) * 1000000000) + (v_limbs (Int32.toNatClampNeg 34)))

abbrev w_X0_trim : List Cond := Cond.code yX0_trim cX0_trim 1 none :: wsL_law
abbrev wd_X0_trim (a_this a_limbs : Nat) (c_limbs : ClassId) (v_first : Int32) (v_last : Int32) (v_limbs : Nat → Int64) : va_W := [(a_this, .inr (0, [.ref a_limbs, .int v_first, .int v_last])), (a_limbs, .inl (c_limbs, 160, .inr (.inl v_limbs)))]
def f_X0_trim_L38 : Nat → (Int32) → (Int32) → (Nat → Int64) → Option ((Int32) × (Int32))
  | 0, _, _, _ => none
  | n + 1, v_first, v_last, v_limbs =>
    (if v_last < v_first then
some (v_first, v_last)
    else
(if v_last < 0 ∨ 160 ≤ Int32.toNatClampNeg v_last then none else
(if (lg_cmp (v_limbs (Int32.toNatClampNeg v_last)) 0) = 0 then
f_X0_trim_L38 n v_first (v_last - 1) v_limbs
      else
some (v_first, v_last))))
def f_X0_trim_L0 : Nat → (Int32) → (Int32) → (Nat → Int64) → Option ((Int32) × (Int32))
  | 0, _, _, _ => none
  | n + 1, v_first, v_last, v_limbs =>
    (if v_last < v_first then
f_X0_trim_L38 FU v_first v_last v_limbs
    else
(if v_first < 0 ∨ 160 ≤ Int32.toNatClampNeg v_first then none else
(if (lg_cmp (v_limbs (Int32.toNatClampNeg v_first)) 0) = 0 then
f_X0_trim_L0 n (v_first + 1) v_last v_limbs
      else
f_X0_trim_L38 FU v_first v_last v_limbs)))
def f_X0_trim (v_first : Int32) (v_last : Int32) (v_limbs : Nat → Int64) : Option ((Int32) × (Int32)) :=
    (if v_last < v_first then
f_X0_trim_L38 FU v_first v_last v_limbs
  else
(if v_first < 0 ∨ 160 ≤ Int32.toNatClampNeg v_first then none else
(if (lg_cmp (v_limbs (Int32.toNatClampNeg v_first)) 0) = 0 then
f_X0_trim_L0 FU (v_first + 1) v_last v_limbs
    else
f_X0_trim_L38 FU v_first v_last v_limbs)))

abbrev w_X0_scaleDown : List Cond := Cond.code yX0_scaleDown cX0_scaleDown 9 none :: wsL_law
abbrev wd_X0_scaleDown (a_this a_limbs : Nat) (c_limbs : ClassId) (v_first : Int32) (v_last : Int32) (v_limbs : Nat → Int64) : va_W := [(a_this, .inr (0, [.ref a_limbs, .int v_first, .int v_last])), (a_limbs, .inl (c_limbs, 160, .inr (.inl v_limbs)))]
def f_X0_scaleDown_L71 : Nat → (Int32) → (Int64) → (Int64) → (Int32) → (Int32) → (Int32) → (Nat → Int64) → Option ((Int32) × (Int32) × (Nat → Int64))
  | 0, _, _, _, _, _, _, _ => none
  | n + 1, l1, l2, l4, l6, v_first, v_last, v_limbs =>
    (if 160 ≤ l6 then
((f_X0_trim v_first v_last v_limbs).bind fun (v_first_124, v_last_124) =>
some (v_first_124, v_last_124, v_limbs))
    else
(if (lg_cmp l4 0) ≤ 0 then
((f_X0_trim v_first v_last v_limbs).bind fun (v_first_124, v_last_124) =>
some (v_first_124, v_last_124, v_limbs))
      else
(if l6 < 0 ∨ 160 ≤ Int32.toNatClampNeg l6 then none else
f_X0_scaleDown_L71 n l1 l2 ((l4 * 1000000000) &&& l2) (l6 + 1) v_first l6 (vp_updL v_limbs (Int32.toNatClampNeg l6) ((Int64.toUInt64 (l4 * 1000000000) >>> (Int64.toUInt64 (Int32.toInt64 l1) &&& Int64.toUInt64 63)).toInt64)))))
def f_X0_scaleDown_L15 : Nat → (Int32) → (Int64) → (Int64) → (Int32) → (Int32) → (Int32) → (Nat → Int64) → Option ((Int32) × (Int32) × (Nat → Int64))
  | 0, _, _, _, _, _, _, _ => none
  | n + 1, l1, l2, l4, l6, v_first, v_last, v_limbs =>
    (if v_last < l6 then
f_X0_scaleDown_L71 FU l1 l2 l4 (v_last + 1) v_first v_last v_limbs
    else
(if l6 < 0 ∨ 160 ≤ Int32.toNatClampNeg l6 then none else
(if l6 < 0 ∨ 160 ≤ Int32.toNatClampNeg l6 then none else
f_X0_scaleDown_L15 n l1 l2 (((l4 * 1000000000) + (v_limbs (Int32.toNatClampNeg l6))) &&& l2) (l6 + 1) v_first v_last (vp_updL v_limbs (Int32.toNatClampNeg l6) ((Int64.toUInt64 ((l4 * 1000000000) + (v_limbs (Int32.toNatClampNeg l6))) >>> (Int64.toUInt64 (Int32.toInt64 l1) &&& Int64.toUInt64 63)).toInt64)))))
def f_X0_scaleDown (l1 : Int32) (v_first : Int32) (v_last : Int32) (v_limbs : Nat → Int64) : Option ((Int32) × (Int32) × (Nat → Int64)) :=
    f_X0_scaleDown_L15 FU l1 ((1 <<< (Int32.toInt64 l1 &&& 63)) - 1) 0 v_first v_first v_last v_limbs

abbrev w_X0_scaleUp : List Cond := Cond.code yX0_scaleUp cX0_scaleUp 7 none :: wsL_law
abbrev wd_X0_scaleUp (a_this a_limbs : Nat) (c_limbs : ClassId) (v_first : Int32) (v_last : Int32) (v_limbs : Nat → Int64) : va_W := [(a_this, .inr (0, [.ref a_limbs, .int v_first, .int v_last])), (a_limbs, .inl (c_limbs, 160, .inr (.inl v_limbs)))]
def f_X0_scaleUp_L66 : Nat → (Int64) → (Int32) → (Int32) → (Int32) → (Nat → Int64) → Option ((Int32) × (Int32) × (Nat → Int64))
  | 0, _, _, _, _, _ => none
  | n + 1, l2, l4, v_first, v_last, v_limbs =>
    (if l4 < 0 then
((f_X0_trim v_first v_last v_limbs).bind fun (v_first_108, v_last_108) =>
some (v_first_108, v_last_108, v_limbs))
    else
(if (lg_cmp l2 0) ≤ 0 then
((f_X0_trim v_first v_last v_limbs).bind fun (v_first_108, v_last_108) =>
some (v_first_108, v_last_108, v_limbs))
      else
(if l4 < 0 ∨ 160 ≤ Int32.toNatClampNeg l4 then none else
f_X0_scaleUp_L66 n (l2 / 1000000000) (l4 + (-1)) l4 v_last (vp_updL v_limbs (Int32.toNatClampNeg l4) (l2 - l2 / 1000000000 * 1000000000)))))
def f_X0_scaleUp_L8 : Nat → (Int32) → (Int64) → (Int32) → (Int32) → (Int32) → (Nat → Int64) → Option ((Int32) × (Int32) × (Nat → Int64))
  | 0, _, _, _, _, _, _ => none
  | n + 1, l1, l2, l4, v_first, v_last, v_limbs =>
    (if l4 < v_first then
f_X0_scaleUp_L66 FU l2 (v_first - 1) v_first v_last v_limbs
    else
(if l4 < 0 ∨ 160 ≤ Int32.toNatClampNeg l4 then none else
(if l4 < 0 ∨ 160 ≤ Int32.toNatClampNeg l4 then none else
f_X0_scaleUp_L8 n l1 ((((v_limbs (Int32.toNatClampNeg l4)) <<< (Int32.toInt64 l1 &&& 63)) + l2) / 1000000000) (l4 + (-1)) v_first v_last (vp_updL v_limbs (Int32.toNatClampNeg l4) ((((v_limbs (Int32.toNatClampNeg l4)) <<< (Int32.toInt64 l1 &&& 63)) + l2) - (((((v_limbs (Int32.toNatClampNeg l4)) <<< (Int32.toInt64 l1 &&& 63)) + l2) / 1000000000) * 1000000000))))))
def f_X0_scaleUp (l1 : Int32) (v_first : Int32) (v_last : Int32) (v_limbs : Nat → Int64) : Option ((Int32) × (Int32) × (Nat → Int64)) :=
    f_X0_scaleUp_L8 FU l1 0 v_last v_first v_last v_limbs

abbrev w_X0_scale : List Cond := Cond.code yX0_scale cX0_scale 3 none :: wsL_law
abbrev wd_X0_scale (a_this a_limbs : Nat) (c_limbs : ClassId) (v_first : Int32) (v_last : Int32) (v_limbs : Nat → Int64) : va_W := [(a_this, .inr (0, [.ref a_limbs, .int v_first, .int v_last])), (a_limbs, .inl (c_limbs, 160, .inr (.inl v_limbs)))]
def f_X0_scale_L25 : Nat → (Int32) → (Int32) → (Int32) → (Nat → Int64) → Option ((Int32) × (Int32) × (Nat → Int64))
  | 0, _, _, _, _ => none
  | n + 1, l2, v_first, v_last, v_limbs =>
    (if l2 ≤ 0 then
some (v_first, v_last, v_limbs)
    else
((f_X0_scaleDown (if 33 < l2 then 33 else l2) v_first v_last v_limbs).bind fun (v_first_36, v_last_36, v_limbs_36) =>
f_X0_scale_L25 n (l2 + (-33)) v_first_36 v_last_36 v_limbs_36))
def f_X0_scale_L2 : Nat → (Int32) → (Int32) → (Int32) → (Int32) → (Nat → Int64) → Option ((Int32) × (Int32) × (Nat → Int64))
  | 0, _, _, _, _, _ => none
  | n + 1, l1, l2, v_first, v_last, v_limbs =>
    (if l2 ≤ 0 then
f_X0_scale_L25 FU (-l1) v_first v_last v_limbs
    else
((f_X0_scaleUp (if 33 < l2 then 33 else l2) v_first v_last v_limbs).bind fun (v_first_13, v_last_13, v_limbs_13) =>
f_X0_scale_L2 n l1 (l2 + (-33)) v_first_13 v_last_13 v_limbs_13))
def f_X0_scale (l1 : Int32) (v_first : Int32) (v_last : Int32) (v_limbs : Nat → Int64) : Option ((Int32) × (Int32) × (Nat → Int64)) :=
    f_X0_scale_L2 FU l1 l1 v_first v_last v_limbs

abbrev w_X0_takeScaled : List Cond := Cond.code yX0_takeScaled cX0_takeScaled 4 none :: wsL_law
abbrev wd_X0_takeScaled (a_this a_limbs : Nat) (c_limbs : ClassId) (v_first : Int32) (v_last : Int32) (v_limbs : Nat → Int64) : va_W := [(a_this, .inr (0, [.ref a_limbs, .int v_first, .int v_last])), (a_limbs, .inl (c_limbs, 160, .inr (.inl v_limbs)))]
def f_X0_takeScaled (l1 : Int64) (l3 : Int32) (v_first : Int32) (v_last : Int32) (v_limbs : Nat → Int64) : Option ((Int32) × (Int32) × (Nat → Int64)) :=
    ((f_X0_wipe v_first v_last v_limbs).bind fun (v_first_1, v_last_1, v_limbs_1) =>
((f_X0_trim 33 34 (vp_updL (vp_updL v_limbs_1 (Int32.toNatClampNeg 33) (l1 / 1000000000)) (Int32.toNatClampNeg 34) (l1 - l1 / 1000000000 * 1000000000))).bind fun (v_first_41, v_last_41) =>
((f_X0_scale l3 v_first_41 v_last_41 (vp_updL (vp_updL v_limbs_1 (Int32.toNatClampNeg 33) (l1 / 1000000000)) (Int32.toNatClampNeg 34) (l1 - l1 / 1000000000 * 1000000000))).bind fun (v_first_46, v_last_46, v_limbs_46) =>
some (v_first_46, v_last_46, v_limbs_46))))

abbrev w_J13_compare_74951 : List Cond := Cond.code yJ13_compare_74951 cJ13_compare_74951 4 (some .int) :: wsL_law
def f_J13_compare_74951 (l0 : Int64) (l2 : Int64) : Option ((Int32)) :=
    (if 0 ≤ (lg_cmp l0 l2) then
(if (lg_cmp l0 l2) = 0 then
some 0
    else
some 1)
  else
some (-1))

abbrev w_X0_sideOfHalf : List Cond := Cond.code yX0_sideOfHalf cX0_sideOfHalf 8 (some .int) :: wsL_law
abbrev wd_X0_sideOfHalf (a_this a_limbs : Nat) (c_limbs : ClassId) (v_first : Int32) (v_last : Int32) (v_limbs : Nat → Int64) : va_W := [(a_this, .inr (0, [.ref a_limbs, .int v_first, .int v_last])), (a_limbs, .inl (c_limbs, 160, .inr (.inl v_limbs)))]
def f_X0_sideOfHalf_b28 (l4 : Int32) (s0 : Int64) (v_last : Int32) (v_limbs : Nat → Int64) : Option ((Int32)) :=
    ((f_X0_limb l4 v_limbs).bind fun r33 =>
(if s0 = 0 then none else
((f_J13_compare_74951 (r33 - r33 / s0 * s0) (s0 / 2)).bind fun r45 =>
(if r45 = 0 then
(if v_last ≤ l4 then
some r45
    else
some 1)
  else
some r45))))
def f_X0_sideOfHalf_b13 (l2 : Int64) (s0 : Int32) (v_last : Int32) (v_limbs : Nat → Int64) : Option ((Int32)) :=
    (if (lg_cmp l2 1) = 0 then
f_X0_sideOfHalf_b28  s0 1000000000 v_last v_limbs
  else
f_X0_sideOfHalf_b28  s0 l2 v_last v_limbs)
def f_X0_sideOfHalf (l1 : Int32) (l2 : Int64) (v_last : Int32) (v_limbs : Nat → Int64) : Option ((Int32)) :=
    (if (lg_cmp l2 1) = 0 then
f_X0_sideOfHalf_b13  l2 (l1 + 1) v_last v_limbs
  else
f_X0_sideOfHalf_b13  l2 l1 v_last v_limbs)

abbrev w_X0_roundsUp : List Cond := Cond.code yX0_roundsUp cX0_roundsUp 5 (some .boolean) :: wsL_law
abbrev wd_X0_roundsUp (a_this a_limbs : Nat) (c_limbs : ClassId) (v_first : Int32) (v_last : Int32) (v_limbs : Nat → Int64) : va_W := [(a_this, .inr (0, [.ref a_limbs, .int v_first, .int v_last])), (a_limbs, .inl (c_limbs, 160, .inr (.inl v_limbs)))]
def f_X0_roundsUp (l1 : Int32) (l2 : Int64) (v_last : Int32) (v_limbs : Nat → Int64) : Option ((Int32)) :=
    ((f_X0_sideOfHalf l1 l2 v_last v_limbs).bind fun r3 =>
(if 0 < r3 then
some 1
  else
(if r3 = 0 then
((f_X0_limb l1 v_limbs).bind fun r20 =>
(if l2 = 0 then none else
(if (lg_cmp ((r20 / l2) - (r20 / l2) / 2 * 2) 1) = 0 then
some 1
      else
some 0)))
    else
some 0)))

abbrev w_X0_countUp : List Cond := Cond.code yX0_countUp cX0_countUp 5 none :: wsL_law
abbrev wd_X0_countUp (a_this a_limbs : Nat) (c_limbs : ClassId) (v_first : Int32) (v_last : Int32) (v_limbs : Nat → Int64) : va_W := [(a_this, .inr (0, [.ref a_limbs, .int v_first, .int v_last])), (a_limbs, .inl (c_limbs, 160, .inr (.inl v_limbs)))]
def f_X0_countUp_L13 : Nat → (Int32) → (Int32) → (Nat → Int64) → Option ((Int32) × (Nat → Int64))
  | 0, _, _, _ => none
  | n + 1, l4, v_first, v_limbs =>
    (if l4 ≤ 0 then
some (v_first, v_limbs)
    else
(if l4 < 0 ∨ 160 ≤ Int32.toNatClampNeg l4 then none else
(if (lg_cmp (v_limbs (Int32.toNatClampNeg l4)) 1000000000) < 0 then
some (v_first, v_limbs)
      else
(if l4 < 0 ∨ 160 ≤ Int32.toNatClampNeg l4 then none else
(if l4 < 0 ∨ 160 ≤ Int32.toNatClampNeg l4 then none else
(if (l4 - 1) < 0 ∨ 160 ≤ Int32.toNatClampNeg (l4 - 1) then none else
(if (l4 - 1) < 0 ∨ 160 ≤ Int32.toNatClampNeg (l4 - 1) then none else
f_X0_countUp_L13 n (l4 + (-1)) (if (l4 - 1) < v_first then (l4 - 1) else v_first) (vp_updL (vp_updL v_limbs (Int32.toNatClampNeg l4) ((v_limbs (Int32.toNatClampNeg l4)) - 1000000000)) (Int32.toNatClampNeg (l4 - 1)) (((vp_updL v_limbs (Int32.toNatClampNeg l4) ((v_limbs (Int32.toNatClampNeg l4)) - 1000000000)) (Int32.toNatClampNeg (l4 - 1))) + 1)))))))))
def f_X0_countUp (l1 : Int32) (l2 : Int64) (v_first : Int32) (v_limbs : Nat → Int64) : Option ((Int32) × (Nat → Int64)) :=
    (if l1 < 0 ∨ 160 ≤ Int32.toNatClampNeg l1 then none else
(if l1 < 0 ∨ 160 ≤ Int32.toNatClampNeg l1 then none else
f_X0_countUp_L13 FU l1 v_first (vp_updL v_limbs (Int32.toNatClampNeg l1) ((v_limbs (Int32.toNatClampNeg l1)) + l2))))

abbrev w_X0_takeRounded : List Cond := Cond.code yX0_takeRounded cX0_takeRounded 6 none :: wsL_law
abbrev wd_X0_takeRounded (a_this a_limbs a_p1 a_p1_limbs : Nat) (c_limbs c_p1_limbs : ClassId) (v_first : Int32) (v_last : Int32) (v_limbs : Nat → Int64) (v_p1_first : Int32) (v_p1_last : Int32) (v_p1_limbs : Nat → Int64) : va_W := [(a_this, .inr (0, [.ref a_limbs, .int v_first, .int v_last])), (a_limbs, .inl (c_limbs, 160, .inr (.inl v_limbs))), (a_p1, .inr (0, [.ref a_p1_limbs, .int v_p1_first, .int v_p1_last])), (a_p1_limbs, .inl (c_p1_limbs, 160, .inr (.inl v_p1_limbs)))]
def f_X0_takeRounded_L27 : Nat → (Int32) → (Int32) → (Int32) → (Int32) → (Int32) → (Nat → Int64) → (Int32) → (Int32) → (Nat → Int64) → Option ((Int32) × (Int32) × (Nat → Int64))
  | 0, _, _, _, _, _, _, _, _, _ => none
  | n + 1, l2, l3, l4, v_first, v_last, v_limbs, v_p1_first, v_p1_last, v_p1_limbs =>
    (if l3 < l4 then
((f_X0_unitOf l2).bind fun r54 =>
(if l3 < 0 ∨ 160 ≤ Int32.toNatClampNeg l3 then none else
(if l3 < 0 ∨ 160 ≤ Int32.toNatClampNeg l3 then none else
(if r54 = 0 then none else
(if l3 < 0 ∨ 160 ≤ Int32.toNatClampNeg l3 then none else
((f_X0_roundsUp l3 r54 v_p1_last v_p1_limbs).bind fun r98 =>
(if r98 = 0 then
((f_X0_trim (if l3 < v_p1_first then l3 else v_p1_first) l3 (vp_updL v_limbs (Int32.toNatClampNeg l3) ((v_limbs (Int32.toNatClampNeg l3)) - ((v_limbs (Int32.toNatClampNeg l3)) - (v_limbs (Int32.toNatClampNeg l3)) / r54 * r54)))).bind fun (v_first_112, v_last_112) =>
some (v_first_112, v_last_112, (vp_updL v_limbs (Int32.toNatClampNeg l3) ((v_limbs (Int32.toNatClampNeg l3)) - ((v_limbs (Int32.toNatClampNeg l3)) - (v_limbs (Int32.toNatClampNeg l3)) / r54 * r54)))))
      else
((f_X0_countUp l3 r54 (if l3 < v_p1_first then l3 else v_p1_first) (vp_updL v_limbs (Int32.toNatClampNeg l3) ((v_limbs (Int32.toNatClampNeg l3)) - ((v_limbs (Int32.toNatClampNeg l3)) - (v_limbs (Int32.toNatClampNeg l3)) / r54 * r54)))).bind fun (v_first_108, v_limbs_108) =>
((f_X0_trim v_first_108 l3 v_limbs_108).bind fun (v_first_112, v_last_112) =>
some (v_first_112, v_last_112, v_limbs_108))))))))))
    else
(if l4 < 0 ∨ 160 ≤ Int32.toNatClampNeg l4 then none else
(if l4 < 0 ∨ 160 ≤ Int32.toNatClampNeg l4 then none else
f_X0_takeRounded_L27 n l2 l3 (l4 + 1) v_first v_last (vp_updL v_limbs (Int32.toNatClampNeg l4) (v_p1_limbs (Int32.toNatClampNeg l4))) v_p1_first v_p1_last v_p1_limbs)))
def f_X0_takeRounded (l2 : Int32) (v_first : Int32) (v_last : Int32) (v_limbs : Nat → Int64) (v_p1_first : Int32) (v_p1_last : Int32) (v_p1_limbs : Nat → Int64) : Option ((Int32) × (Int32) × (Nat → Int64)) :=
    ((f_X0_wipe v_first v_last v_limbs).bind fun (v_first_1, v_last_1, v_limbs_1) =>
((f_X0_limbOf l2).bind fun r5 =>
(if r5 < 0 then
some (v_first_1, v_last_1, v_limbs_1)
  else
(if r5 < 160 then
f_X0_takeRounded_L27 FU l2 r5 v_p1_first v_first_1 v_last_1 v_limbs_1 v_p1_first v_p1_last v_p1_limbs
    else
some (v_first_1, v_last_1, v_limbs_1)))))

abbrev w_X0_comparedTo : List Cond := Cond.code yX0_comparedTo cX0_comparedTo 4 (some .int) :: wsL_law
abbrev wd_X0_comparedTo (a_this a_limbs a_p1 a_p1_limbs : Nat) (c_limbs c_p1_limbs : ClassId) (v_first : Int32) (v_last : Int32) (v_limbs : Nat → Int64) (v_p1_first : Int32) (v_p1_last : Int32) (v_p1_limbs : Nat → Int64) : va_W := [(a_this, .inr (0, [.ref a_limbs, .int v_first, .int v_last])), (a_limbs, .inl (c_limbs, 160, .inr (.inl v_limbs))), (a_p1, .inr (0, [.ref a_p1_limbs, .int v_p1_first, .int v_p1_last])), (a_p1_limbs, .inl (c_p1_limbs, 160, .inr (.inl v_p1_limbs)))]
def f_X0_comparedTo_L24 : Nat → (Int32) → (Int32) → (Int32) → (Int32) → (Nat → Int64) → (Int32) → (Int32) → (Nat → Int64) → Option ((Int32))
  | 0, _, _, _, _, _, _, _, _ => none
  | n + 1, l2, l3, v_first, v_last, v_limbs, v_p1_first, v_p1_last, v_p1_limbs =>
    (if l2 < l3 then
some 0
    else
(if l3 < 0 ∨ 160 ≤ Int32.toNatClampNeg l3 then none else
(if l3 < 0 ∨ 160 ≤ Int32.toNatClampNeg l3 then none else
(if (lg_cmp (v_limbs (Int32.toNatClampNeg l3)) (v_p1_limbs (Int32.toNatClampNeg l3))) = 0 then
f_X0_comparedTo_L24 n l2 (l3 + 1) v_first v_last v_limbs v_p1_first v_p1_last v_p1_limbs
      else
(if l3 < 0 ∨ 160 ≤ Int32.toNatClampNeg l3 then none else
(if l3 < 0 ∨ 160 ≤ Int32.toNatClampNeg l3 then none else
(if 0 ≤ (lg_cmp (v_limbs (Int32.toNatClampNeg l3)) (v_p1_limbs (Int32.toNatClampNeg l3))) then
some 1
        else
some (-1))))))))
def f_X0_comparedTo (v_first : Int32) (v_last : Int32) (v_limbs : Nat → Int64) (v_p1_first : Int32) (v_p1_last : Int32) (v_p1_limbs : Nat → Int64) : Option ((Int32)) :=
    f_X0_comparedTo_L24 FU (if v_last < v_p1_last then v_p1_last else v_last) (if v_p1_first < v_first then v_p1_first else v_first) v_first v_last v_limbs v_p1_first v_p1_last v_p1_limbs

abbrev w_X1_clear : List Cond := Cond.code yX1_clear cX1_clear 1 none :: wsL_law
abbrev wd_X1_clear (a_this a_text a_number a_rounded a_lowEdge a_highEdge : Nat) (v_length : Int32) (v_digitsStart : Int32) (v_digitsEnd : Int32) (v_unitsAt : Int32) (v_tenPower : Int32) : va_W := [(a_this, .inr (1, [.ref a_text, .int v_length, .int v_digitsStart, .int v_digitsEnd, .int v_unitsAt, .int v_tenPower, .ref a_number, .ref a_rounded, .ref a_lowEdge, .ref a_highEdge]))]
def f_X1_clear (v_length : Int32) : Option ((Int32)) :=
    some 0

abbrev w_X1_put : List Cond := Cond.code yX1_put cX1_put 2 none :: wsL_law
abbrev wd_X1_put (a_this a_text a_number a_rounded a_lowEdge a_highEdge : Nat) (c_text : ClassId) (v_length : Int32) (v_digitsStart : Int32) (v_digitsEnd : Int32) (v_unitsAt : Int32) (v_tenPower : Int32) (v_text : Nat → Int32) : va_W := [(a_this, .inr (1, [.ref a_text, .int v_length, .int v_digitsStart, .int v_digitsEnd, .int v_unitsAt, .int v_tenPower, .ref a_number, .ref a_rounded, .ref a_lowEdge, .ref a_highEdge])), (a_text, .inl (c_text, 400, .inl v_text))]
def f_X1_put (l1 : Int32) (v_length : Int32) (v_text : Nat → Int32) : Option ((Int32) × (Nat → Int32)) :=
    (if 400 ≤ v_length then
some (v_length, v_text)
  else
(if v_length < 0 ∨ 400 ≤ Int32.toNatClampNeg v_length then none else
some ((v_length + 1), (upd v_text (Int32.toNatClampNeg v_length) l1))))

abbrev w_X1_add : List Cond := Cond.code yX1_add cX1_add 2 (some .int) :: wsL_law
abbrev wd_X1_add (a_this a_text a_number a_rounded a_lowEdge a_highEdge : Nat) (c_text : ClassId) (v_length : Int32) (v_digitsStart : Int32) (v_digitsEnd : Int32) (v_unitsAt : Int32) (v_tenPower : Int32) (v_text : Nat → Int32) : va_W := [(a_this, .inr (1, [.ref a_text, .int v_length, .int v_digitsStart, .int v_digitsEnd, .int v_unitsAt, .int v_tenPower, .ref a_number, .ref a_rounded, .ref a_lowEdge, .ref a_highEdge])), (a_text, .inl (c_text, 400, .inl v_text))]
def f_X1_add (l1 : Int32) (v_length : Int32) (v_text : Nat → Int32) : Option (((Int32) × ((Int32) × (Nat → Int32))) ⊕ (Nat × ((Int32) × (Nat → Int32)))) :=
    (if l1 < 0 then
some (.inr (1, (v_length, v_text)))
  else
(if l1 ≤ 255 then
(if v_length < 400 then
((f_X1_put l1 v_length v_text).bind fun (v_length_39, v_text_39) =>
some (.inl (v_length_39, (v_length_39, v_text_39))))
      else
some (.inr (2, (v_length, v_text))))
    else
some (.inr (1, (v_length, v_text)))))

abbrev w_X1_isAt : List Cond := Cond.code yX1_isAt cX1_isAt 3 (some .boolean) :: wsL_law
abbrev wd_X1_isAt (a_this a_text a_number a_rounded a_lowEdge a_highEdge : Nat) (c_text : ClassId) (v_length : Int32) (v_digitsStart : Int32) (v_digitsEnd : Int32) (v_unitsAt : Int32) (v_tenPower : Int32) (v_text : Nat → Int32) : va_W := [(a_this, .inr (1, [.ref a_text, .int v_length, .int v_digitsStart, .int v_digitsEnd, .int v_unitsAt, .int v_tenPower, .ref a_number, .ref a_rounded, .ref a_lowEdge, .ref a_highEdge])), (a_text, .inl (c_text, 400, .inl v_text))]
def f_X1_isAt (l1 : Int32) (l2 : Int32) (v_length : Int32) (v_text : Nat → Int32) : Option ((Int32)) :=
    (if v_length ≤ l1 then
some 0
  else
(if l1 < 0 ∨ 400 ≤ Int32.toNatClampNeg l1 then none else
(if (v_text (Int32.toNatClampNeg l1)) = l2 then
some 1
    else
some 0)))

abbrev w_X1_endOfDigits : List Cond := Cond.code yX1_endOfDigits cX1_endOfDigits 3 (some .int) :: wsL_law
abbrev wd_X1_endOfDigits (a_this a_text a_number a_rounded a_lowEdge a_highEdge : Nat) (c_text : ClassId) (v_length : Int32) (v_digitsStart : Int32) (v_digitsEnd : Int32) (v_unitsAt : Int32) (v_tenPower : Int32) (v_text : Nat → Int32) : va_W := [(a_this, .inr (1, [.ref a_text, .int v_length, .int v_digitsStart, .int v_digitsEnd, .int v_unitsAt, .int v_tenPower, .ref a_number, .ref a_rounded, .ref a_lowEdge, .ref a_highEdge])), (a_text, .inl (c_text, 400, .inl v_text))]
def f_X1_endOfDigits_L2 : Nat → (Int32) → (Int32) → (Nat → Int32) → Option ((Int32))
  | 0, _, _, _ => none
  | n + 1, l2, v_length, v_text =>
    (if v_length ≤ l2 then
some l2
    else
(if l2 < 0 ∨ 400 ≤ Int32.toNatClampNeg l2 then none else
(if (v_text (Int32.toNatClampNeg l2)) < 48 then
some l2
      else
(if l2 < 0 ∨ 400 ≤ Int32.toNatClampNeg l2 then none else
(if 57 < (v_text (Int32.toNatClampNeg l2)) then
some l2
        else
f_X1_endOfDigits_L2 n (l2 + 1) v_length v_text)))))
def f_X1_endOfDigits (l1 : Int32) (v_length : Int32) (v_text : Nat → Int32) : Option ((Int32)) :=
    f_X1_endOfDigits_L2 FU l1 v_length v_text

abbrev w_X1_scanPower : List Cond := Cond.code yX1_scanPower cX1_scanPower 6 (some .boolean) :: wsL_law
abbrev wd_X1_scanPower (a_this a_text a_number a_rounded a_lowEdge a_highEdge : Nat) (c_text : ClassId) (v_length : Int32) (v_digitsStart : Int32) (v_digitsEnd : Int32) (v_unitsAt : Int32) (v_tenPower : Int32) (v_text : Nat → Int32) : va_W := [(a_this, .inr (1, [.ref a_text, .int v_length, .int v_digitsStart, .int v_digitsEnd, .int v_unitsAt, .int v_tenPower, .ref a_number, .ref a_rounded, .ref a_lowEdge, .ref a_highEdge])), (a_text, .inl (c_text, 400, .inl v_text))]
def f_X1_scanPower_L71 : Nat → (Int32) → (Int32) → (Int32) → (Int32) → (Int32) → (Nat → Int32) → Option ((Int32) × (Int32))
  | 0, _, _, _, _, _, _ => none
  | n + 1, l2, l4, l5, v_length, v_tenPower, v_text =>
    (if l4 ≤ l5 then
(if l2 = 0 then
some (1, v_tenPower)
      else
some (1, (-v_tenPower)))
    else
(if l5 < 0 ∨ 400 ≤ Int32.toNatClampNeg l5 then none else
f_X1_scanPower_L71 n l2 l4 (l5 + 1) v_length (((v_tenPower * 10) + (v_text (Int32.toNatClampNeg l5))) - 48) v_text))
def f_X1_scanPower_b35 (l2 : Int32) (s0 : Int32) (v_length : Int32) (v_tenPower : Int32) (v_text : Nat → Int32) : Option ((Int32) × (Int32)) :=
    ((f_X1_endOfDigits s0 v_length v_text).bind fun r38 =>
(if r38 = s0 then
some (0, v_tenPower)
  else
(if 4 < (r38 - s0) then
some (0, v_tenPower)
    else
(if r38 = v_length then
f_X1_scanPower_L71 FU l2 r38 s0 v_length v_tenPower v_text
      else
some (0, v_tenPower)))))
def f_X1_scanPower (l1 : Int32) (v_length : Int32) (v_tenPower : Int32) (v_text : Nat → Int32) : Option ((Int32) × (Int32)) :=
    ((f_X1_isAt l1 101 v_length v_text).bind fun r4 =>
(if r4 = 0 then
some (0, v_tenPower)
  else
((f_X1_isAt (l1 + 1) 45 v_length v_text).bind fun r18 =>
(if r18 = 0 then
f_X1_scanPower_b35  r18 (l1 + 1) v_length v_tenPower v_text
    else
f_X1_scanPower_b35  r18 (l1 + 2) v_length v_tenPower v_text))))

abbrev w_X1_scanNumeral : List Cond := Cond.code yX1_scanNumeral cX1_scanNumeral 2 (some .boolean) :: wsL_law
abbrev wd_X1_scanNumeral (a_this a_text a_number a_rounded a_lowEdge a_highEdge : Nat) (c_text : ClassId) (v_length : Int32) (v_digitsStart : Int32) (v_digitsEnd : Int32) (v_unitsAt : Int32) (v_tenPower : Int32) (v_text : Nat → Int32) : va_W := [(a_this, .inr (1, [.ref a_text, .int v_length, .int v_digitsStart, .int v_digitsEnd, .int v_unitsAt, .int v_tenPower, .ref a_number, .ref a_rounded, .ref a_lowEdge, .ref a_highEdge])), (a_text, .inl (c_text, 400, .inl v_text))]
def f_X1_scanNumeral_b93 (v_length : Int32) (v_digitsStart : Int32) (v_digitsEnd : Int32) (v_unitsAt : Int32) (v_tenPower : Int32) (v_text : Nat → Int32) : Option ((Int32) × (Int32) × (Int32) × (Int32) × (Int32)) :=
    (if v_digitsEnd = v_length then
some (1, v_digitsStart, v_digitsEnd, v_unitsAt, 0)
  else
((f_X1_scanPower v_digitsEnd v_length 0 v_text).bind fun (r114, v_tenPower_114) =>
(if r114 = 0 then
some (0, v_digitsStart, v_digitsEnd, v_unitsAt, v_tenPower_114)
    else
some (1, v_digitsStart, v_digitsEnd, v_unitsAt, v_tenPower_114))))
def f_X1_scanNumeral_b16 (s1 : Int32) (v_length : Int32) (v_digitsStart : Int32) (v_digitsEnd : Int32) (v_unitsAt : Int32) (v_tenPower : Int32) (v_text : Nat → Int32) : Option ((Int32) × (Int32) × (Int32) × (Int32) × (Int32)) :=
    ((f_X1_endOfDigits s1 v_length v_text).bind fun r25 =>
(if r25 = s1 then
some (0, s1, r25, (r25 - 1), v_tenPower)
  else
((f_X1_isAt r25 46 v_length v_text).bind fun r61 =>
(if r61 = 0 then
f_X1_scanNumeral_b93  v_length s1 r25 (r25 - 1) v_tenPower v_text
    else
((f_X1_endOfDigits (r25 + 1) v_length v_text).bind fun r77 =>
(if r77 = (r25 + 1) then
some (0, s1, r77, (r25 - 1), v_tenPower)
      else
f_X1_scanNumeral_b93  v_length s1 r77 (r25 - 1) v_tenPower v_text))))))
def f_X1_scanNumeral (v_length : Int32) (v_digitsStart : Int32) (v_digitsEnd : Int32) (v_unitsAt : Int32) (v_tenPower : Int32) (v_text : Nat → Int32) : Option ((Int32) × (Int32) × (Int32) × (Int32) × (Int32)) :=
    ((f_X1_isAt 0 45 v_length v_text).bind fun r5 =>
(if r5 = 0 then
f_X1_scanNumeral_b16  0 v_length v_digitsStart v_digitsEnd v_unitsAt v_tenPower v_text
  else
f_X1_scanNumeral_b16  1 v_length v_digitsStart v_digitsEnd v_unitsAt v_tenPower v_text))

abbrev w_X1_leadingDigit : List Cond := Cond.code yX1_leadingDigit cX1_leadingDigit 2 (some .int) :: wsL_law
abbrev wd_X1_leadingDigit (a_this a_text a_number a_rounded a_lowEdge a_highEdge : Nat) (c_text : ClassId) (v_length : Int32) (v_digitsStart : Int32) (v_digitsEnd : Int32) (v_unitsAt : Int32) (v_tenPower : Int32) (v_text : Nat → Int32) : va_W := [(a_this, .inr (1, [.ref a_text, .int v_length, .int v_digitsStart, .int v_digitsEnd, .int v_unitsAt, .int v_tenPower, .ref a_number, .ref a_rounded, .ref a_lowEdge, .ref a_highEdge])), (a_text, .inl (c_text, 400, .inl v_text))]
def f_X1_leadingDigit_L5 : Nat → (Int32) → (Int32) → (Int32) → (Nat → Int32) → Option ((Int32))
  | 0, _, _, _, _ => none
  | n + 1, l1, v_digitsStart, v_digitsEnd, v_text =>
    (if v_digitsEnd ≤ l1 then
some l1
    else
(if l1 < 0 ∨ 400 ≤ Int32.toNatClampNeg l1 then none else
(if (v_text (Int32.toNatClampNeg l1)) = 48 then
f_X1_leadingDigit_L5 n (l1 + 1) v_digitsStart v_digitsEnd v_text
      else
(if l1 < 0 ∨ 400 ≤ Int32.toNatClampNeg l1 then none else
(if (v_text (Int32.toNatClampNeg l1)) = 46 then
f_X1_leadingDigit_L5 n (l1 + 1) v_digitsStart v_digitsEnd v_text
        else
some l1)))))
def f_X1_leadingDigit (v_digitsStart : Int32) (v_digitsEnd : Int32) (v_text : Nat → Int32) : Option ((Int32)) :=
    f_X1_leadingDigit_L5 FU v_digitsStart v_digitsStart v_digitsEnd v_text

abbrev w_X1_placeOf : List Cond := Cond.code yX1_placeOf cX1_placeOf 3 (some .int) :: wsL_law
abbrev wd_X1_placeOf (a_this a_text a_number a_rounded a_lowEdge a_highEdge : Nat) (v_length : Int32) (v_digitsStart : Int32) (v_digitsEnd : Int32) (v_unitsAt : Int32) (v_tenPower : Int32) : va_W := [(a_this, .inr (1, [.ref a_text, .int v_length, .int v_digitsStart, .int v_digitsEnd, .int v_unitsAt, .int v_tenPower, .ref a_number, .ref a_rounded, .ref a_lowEdge, .ref a_highEdge]))]
def f_X1_placeOf (l1 : Int32) (v_unitsAt : Int32) (v_tenPower : Int32) : Option ((Int32)) :=
    (if l1 ≤ v_unitsAt then
some (v_tenPower - (l1 - v_unitsAt))
  else
some (v_tenPower - ((l1 - v_unitsAt) - 1)))

abbrev w_X1_joined : List Cond := Cond.code yX1_joined cX1_joined 3 (some .long) :: wsL_law
def f_X1_joined (l0 : Int64) (l2 : Int32) : Option ((Int64)) :=
    (if l2 ≤ 971 then
some (((Int32.toInt64 (l2 - (-1074))) <<< (Int32.toInt64 52 &&& 63)) + l0)
  else
some 9218868437227405312)

abbrev w_J6_numberOfLeadingZeros_0f7a4 : List Cond := Cond.code yJ6_numberOfLeadingZeros_0f7a4 cJ6_numberOfLeadingZeros_0f7a4 2 (some .int) :: wsL_law
def f_J6_numberOfLeadingZeros_0f7a4_b61 (l0 : Int32) (l1 : Int32) : Option ((Int32)) :=
    (if l0 < 4 then
some (l1 - ((Int32.toUInt32 l0 >>> (Int32.toUInt32 1 &&& Int32.toUInt32 31)).toInt32))
  else
some ((l1 + (-2)) - ((Int32.toUInt32 ((Int32.toUInt32 l0 >>> (Int32.toUInt32 2 &&& Int32.toUInt32 31)).toInt32) >>> (Int32.toUInt32 1 &&& Int32.toUInt32 31)).toInt32)))
def f_J6_numberOfLeadingZeros_0f7a4_b48 (l0 : Int32) (l1 : Int32) : Option ((Int32)) :=
    (if l0 < 16 then
f_J6_numberOfLeadingZeros_0f7a4_b61  l0 l1
  else
f_J6_numberOfLeadingZeros_0f7a4_b61  ((Int32.toUInt32 l0 >>> (Int32.toUInt32 4 &&& Int32.toUInt32 31)).toInt32) (l1 + (-4)))
def f_J6_numberOfLeadingZeros_0f7a4_b33 (l0 : Int32) (l1 : Int32) : Option ((Int32)) :=
    (if l0 < 256 then
f_J6_numberOfLeadingZeros_0f7a4_b48  l0 l1
  else
f_J6_numberOfLeadingZeros_0f7a4_b48  ((Int32.toUInt32 l0 >>> (Int32.toUInt32 8 &&& Int32.toUInt32 31)).toInt32) (l1 + (-8)))
def f_J6_numberOfLeadingZeros_0f7a4 (l0 : Int32) : Option ((Int32)) :=
    (if 0 < l0 then
(if l0 < 65536 then
f_J6_numberOfLeadingZeros_0f7a4_b33  l0 31
    else
f_J6_numberOfLeadingZeros_0f7a4_b33  ((Int32.toUInt32 l0 >>> (Int32.toUInt32 16 &&& Int32.toUInt32 31)).toInt32) (31 + (-16)))
  else
(if l0 = 0 then
some 32
    else
some 0))

abbrev w_J13_numberOfLeadingZeros_95d88 : List Cond := Cond.code yJ13_numberOfLeadingZeros_95d88 cJ13_numberOfLeadingZeros_95d88 3 (some .int) :: wsL_law
def f_J13_numberOfLeadingZeros_95d88 (l0 : Int64) : Option ((Int32)) :=
    (if (Int64.toInt32 ((Int64.toUInt64 l0 >>> (Int64.toUInt64 (Int32.toInt64 32) &&& Int64.toUInt64 63)).toInt64)) = 0 then
((f_J6_numberOfLeadingZeros_0f7a4 (Int64.toInt32 l0)).bind fun r14 =>
some (32 + r14))
  else
((f_J6_numberOfLeadingZeros_0f7a4 (Int64.toInt32 ((Int64.toUInt64 l0 >>> (Int64.toUInt64 (Int32.toInt64 32) &&& Int64.toUInt64 63)).toInt64))).bind fun r22 =>
some r22))

abbrev w_X1_bitsToScale : List Cond := Cond.code yX1_bitsToScale cX1_bitsToScale 4 (some .int) :: wsL_law
abbrev wd_X1_bitsToScale (a_this a_text a_number a_number_limbs a_rounded a_lowEdge a_highEdge : Nat) (c_number_limbs : ClassId) (v_length : Int32) (v_digitsStart : Int32) (v_digitsEnd : Int32) (v_unitsAt : Int32) (v_tenPower : Int32) (v_number_first : Int32) (v_number_last : Int32) (v_number_limbs : Nat → Int64) : va_W := [(a_this, .inr (1, [.ref a_text, .int v_length, .int v_digitsStart, .int v_digitsEnd, .int v_unitsAt, .int v_tenPower, .ref a_number, .ref a_rounded, .ref a_lowEdge, .ref a_highEdge])), (a_number, .inr (0, [.ref a_number_limbs, .int v_number_first, .int v_number_last])), (a_number_limbs, .inl (c_number_limbs, 160, .inr (.inl v_number_limbs)))]
def f_X1_bitsToScale (l1 : Int32) (v_number_limbs : Nat → Int64) : Option ((Int32)) :=
    ((f_X0_whole v_number_limbs).bind fun r6 =>
((f_J13_numberOfLeadingZeros_95d88 r6).bind fun r9 =>
some (if (l1 - (-1074)) < (if 33 < (53 - (64 - r9)) then 33 else (53 - (64 - r9))) then (l1 - (-1074)) else (if 33 < (53 - (64 - r9)) then 33 else (53 - (64 - r9))))))

abbrev w_X1_nearestToNumber : List Cond := Cond.code yX1_nearestToNumber cX1_nearestToNumber 4 (some .long) :: wsL_law
abbrev wd_X1_nearestToNumber (a_this a_text a_number a_number_limbs a_rounded a_rounded_limbs a_lowEdge a_highEdge : Nat) (c_number_limbs c_rounded_limbs : ClassId) (v_length : Int32) (v_digitsStart : Int32) (v_digitsEnd : Int32) (v_unitsAt : Int32) (v_tenPower : Int32) (v_number_first : Int32) (v_number_last : Int32) (v_number_limbs : Nat → Int64) (v_rounded_first : Int32) (v_rounded_last : Int32) (v_rounded_limbs : Nat → Int64) : va_W := [(a_this, .inr (1, [.ref a_text, .int v_length, .int v_digitsStart, .int v_digitsEnd, .int v_unitsAt, .int v_tenPower, .ref a_number, .ref a_rounded, .ref a_lowEdge, .ref a_highEdge])), (a_number, .inr (0, [.ref a_number_limbs, .int v_number_first, .int v_number_last])), (a_number_limbs, .inl (c_number_limbs, 160, .inr (.inl v_number_limbs))), (a_rounded, .inr (0, [.ref a_rounded_limbs, .int v_rounded_first, .int v_rounded_last])), (a_rounded_limbs, .inl (c_rounded_limbs, 160, .inr (.inl v_rounded_limbs)))]
def f_X1_nearestToNumber_b77 (l1 : Int32) (v_number_first : Int32) (v_number_last : Int32) (v_number_limbs : Nat → Int64) (v_rounded_first : Int32) (v_rounded_last : Int32) (v_rounded_limbs : Nat → Int64) : Option ((Int64) × (Int32) × (Int32) × (Nat → Int64) × (Int32) × (Int32) × (Nat → Int64)) :=
    ((f_X0_takeRounded 0 v_rounded_first v_rounded_last v_rounded_limbs v_number_first v_number_last v_number_limbs).bind fun (v_rounded_first_86, v_rounded_last_86, v_rounded_limbs_86) =>
((f_X0_whole v_rounded_limbs_86).bind fun r93 =>
((f_X1_joined r93 l1).bind fun r97 =>
some (r97, v_number_first, v_number_last, v_number_limbs, v_rounded_first_86, v_rounded_last_86, v_rounded_limbs_86))))
def f_X1_nearestToNumber_L40 : Nat → (Int32) → (Int32) → (Int32) → (Int32) → (Nat → Int64) → (Int32) → (Int32) → (Nat → Int64) → Option ((Int64) × (Int32) × (Int32) × (Nat → Int64) × (Int32) × (Int32) × (Nat → Int64))
  | 0, _, _, _, _, _, _, _, _ => none
  | n + 1, l1, l2, v_number_first, v_number_last, v_number_limbs, v_rounded_first, v_rounded_last, v_rounded_limbs =>
    (if 100 ≤ l2 then
f_X1_nearestToNumber_b77  l1 v_number_first v_number_last v_number_limbs v_rounded_first v_rounded_last v_rounded_limbs
    else
((f_X1_bitsToScale l1 v_number_limbs).bind fun r48 =>
(if r48 = 0 then
f_X1_nearestToNumber_b77  l1 v_number_first v_number_last v_number_limbs v_rounded_first v_rounded_last v_rounded_limbs
      else
((f_X0_scale r48 v_number_first v_number_last v_number_limbs).bind fun (v_number_first_64, v_number_last_64, v_number_limbs_64) =>
f_X1_nearestToNumber_L40 n (l1 - r48) (l2 + 1) v_number_first_64 v_number_last_64 v_number_limbs_64 v_rounded_first v_rounded_last v_rounded_limbs))))
def f_X1_nearestToNumber_L4 : Nat → (Int32) → (Int32) → (Int32) → (Int32) → (Nat → Int64) → (Int32) → (Int32) → (Nat → Int64) → Option ((Int64) × (Int32) × (Int32) × (Nat → Int64) × (Int32) × (Int32) × (Nat → Int64))
  | 0, _, _, _, _, _, _, _, _ => none
  | n + 1, l1, l2, v_number_first, v_number_last, v_number_limbs, v_rounded_first, v_rounded_last, v_rounded_limbs =>
    (if 100 ≤ l2 then
f_X1_nearestToNumber_L40 FU l1 0 v_number_first v_number_last v_number_limbs v_rounded_first v_rounded_last v_rounded_limbs
    else
((f_X0_isWide v_number_first).bind fun r14 =>
(if r14 = 0 then
f_X1_nearestToNumber_L40 FU l1 0 v_number_first v_number_last v_number_limbs v_rounded_first v_rounded_last v_rounded_limbs
      else
((f_X0_scale (-33) v_number_first v_number_last v_number_limbs).bind fun (v_number_first_26, v_number_last_26, v_number_limbs_26) =>
f_X1_nearestToNumber_L4 n (l1 + 33) (l2 + 1) v_number_first_26 v_number_last_26 v_number_limbs_26 v_rounded_first v_rounded_last v_rounded_limbs))))
def f_X1_nearestToNumber (v_number_first : Int32) (v_number_last : Int32) (v_number_limbs : Nat → Int64) (v_rounded_first : Int32) (v_rounded_last : Int32) (v_rounded_limbs : Nat → Int64) : Option ((Int64) × (Int32) × (Int32) × (Nat → Int64) × (Int32) × (Int32) × (Nat → Int64)) :=
    f_X1_nearestToNumber_L4 FU 0 0 v_number_first v_number_last v_number_limbs v_rounded_first v_rounded_last v_rounded_limbs

abbrev w_X1_nearestToNumeral : List Cond := Cond.code yX1_nearestToNumeral cX1_nearestToNumeral 3 (some .long) :: wsL_law
abbrev wd_X1_nearestToNumeral (a_this a_text a_number a_number_limbs a_rounded a_rounded_limbs a_lowEdge a_highEdge : Nat) (c_text c_number_limbs c_rounded_limbs : ClassId) (v_length : Int32) (v_digitsStart : Int32) (v_digitsEnd : Int32) (v_unitsAt : Int32) (v_tenPower : Int32) (v_text : Nat → Int32) (v_number_first : Int32) (v_number_last : Int32) (v_number_limbs : Nat → Int64) (v_rounded_first : Int32) (v_rounded_last : Int32) (v_rounded_limbs : Nat → Int64) : va_W := [(a_this, .inr (1, [.ref a_text, .int v_length, .int v_digitsStart, .int v_digitsEnd, .int v_unitsAt, .int v_tenPower, .ref a_number, .ref a_rounded, .ref a_lowEdge, .ref a_highEdge])), (a_text, .inl (c_text, 400, .inl v_text)), (a_number, .inr (0, [.ref a_number_limbs, .int v_number_first, .int v_number_last])), (a_number_limbs, .inl (c_number_limbs, 160, .inr (.inl v_number_limbs))), (a_rounded, .inr (0, [.ref a_rounded_limbs, .int v_rounded_first, .int v_rounded_last])), (a_rounded_limbs, .inl (c_rounded_limbs, 160, .inr (.inl v_rounded_limbs)))]
def f_X1_nearestToNumeral_L50 : Nat → (Int32) → (Int32) → (Int32) → (Int32) → (Int32) → (Nat → Int32) → (Int32) → (Int32) → (Nat → Int64) → (Int32) → (Int32) → (Nat → Int64) → Option ((Int64) × (Int32) × (Int32) × (Nat → Int64) × (Int32) × (Int32) × (Nat → Int64))
  | 0, _, _, _, _, _, _, _, _, _, _, _, _ => none
  | n + 1, l2, v_digitsStart, v_digitsEnd, v_unitsAt, v_tenPower, v_text, v_number_first, v_number_last, v_number_limbs, v_rounded_first, v_rounded_last, v_rounded_limbs =>
    (if v_digitsEnd ≤ l2 then
((f_X1_nearestToNumber v_number_first v_number_last v_number_limbs v_rounded_first v_rounded_last v_rounded_limbs).bind fun (r97, v_number_first_97, v_number_last_97, v_number_limbs_97, v_rounded_first_97, v_rounded_last_97, v_rounded_limbs_97) =>
some (r97, v_number_first_97, v_number_last_97, v_number_limbs_97, v_rounded_first_97, v_rounded_last_97, v_rounded_limbs_97))
    else
(if l2 < 0 ∨ 400 ≤ Int32.toNatClampNeg l2 then none else
(if (v_text (Int32.toNatClampNeg l2)) = 46 then
f_X1_nearestToNumeral_L50 n (l2 + 1) v_digitsStart v_digitsEnd v_unitsAt v_tenPower v_text v_number_first v_number_last v_number_limbs v_rounded_first v_rounded_last v_rounded_limbs
      else
((f_X1_placeOf l2 v_unitsAt v_tenPower).bind fun r75 =>
(if l2 < 0 ∨ 400 ≤ Int32.toNatClampNeg l2 then none else
((f_X0_setDigit r75 ((v_text (Int32.toNatClampNeg l2)) - 48) v_number_first v_number_last v_number_limbs).bind fun (v_number_first_87, v_number_last_87, v_number_limbs_87) =>
f_X1_nearestToNumeral_L50 n (l2 + 1) v_digitsStart v_digitsEnd v_unitsAt v_tenPower v_text v_number_first_87 v_number_last_87 v_number_limbs_87 v_rounded_first v_rounded_last v_rounded_limbs))))))
def f_X1_nearestToNumeral (v_digitsStart : Int32) (v_digitsEnd : Int32) (v_unitsAt : Int32) (v_tenPower : Int32) (v_text : Nat → Int32) (v_number_first : Int32) (v_number_last : Int32) (v_number_limbs : Nat → Int64) (v_rounded_first : Int32) (v_rounded_last : Int32) (v_rounded_limbs : Nat → Int64) : Option ((Int64) × (Int32) × (Int32) × (Nat → Int64) × (Int32) × (Int32) × (Nat → Int64)) :=
    ((f_X1_leadingDigit v_digitsStart v_digitsEnd v_text).bind fun r1 =>
(if r1 = v_digitsEnd then
some (0, v_number_first, v_number_last, v_number_limbs, v_rounded_first, v_rounded_last, v_rounded_limbs)
  else
((f_X1_placeOf r1 v_unitsAt v_tenPower).bind fun r15 =>
(if (-324) ≤ r15 then
((f_X1_placeOf r1 v_unitsAt v_tenPower).bind fun r28 =>
(if r28 ≤ 308 then
((f_X0_wipe v_number_first v_number_last v_number_limbs).bind fun (v_number_first_45, v_number_last_45, v_number_limbs_45) =>
f_X1_nearestToNumeral_L50 FU r1 v_digitsStart v_digitsEnd v_unitsAt v_tenPower v_text v_number_first_45 v_number_last_45 v_number_limbs_45 v_rounded_first v_rounded_last v_rounded_limbs)
      else
some (9218868437227405312, v_number_first, v_number_last, v_number_limbs, v_rounded_first, v_rounded_last, v_rounded_limbs)))
    else
some (0, v_number_first, v_number_last, v_number_limbs, v_rounded_first, v_rounded_last, v_rounded_limbs)))))

abbrev w_X1_read : List Cond := Cond.code yX1_read cX1_read 3 (some .long) :: wsL_law
abbrev wd_X1_read (a_this a_text a_number a_number_limbs a_rounded a_rounded_limbs a_lowEdge a_highEdge : Nat) (c_text c_number_limbs c_rounded_limbs : ClassId) (v_length : Int32) (v_digitsStart : Int32) (v_digitsEnd : Int32) (v_unitsAt : Int32) (v_tenPower : Int32) (v_text : Nat → Int32) (v_number_first : Int32) (v_number_last : Int32) (v_number_limbs : Nat → Int64) (v_rounded_first : Int32) (v_rounded_last : Int32) (v_rounded_limbs : Nat → Int64) : va_W := [(a_this, .inr (1, [.ref a_text, .int v_length, .int v_digitsStart, .int v_digitsEnd, .int v_unitsAt, .int v_tenPower, .ref a_number, .ref a_rounded, .ref a_lowEdge, .ref a_highEdge])), (a_text, .inl (c_text, 400, .inl v_text)), (a_number, .inr (0, [.ref a_number_limbs, .int v_number_first, .int v_number_last])), (a_number_limbs, .inl (c_number_limbs, 160, .inr (.inl v_number_limbs))), (a_rounded, .inr (0, [.ref a_rounded_limbs, .int v_rounded_first, .int v_rounded_last])), (a_rounded_limbs, .inl (c_rounded_limbs, 160, .inr (.inl v_rounded_limbs)))]
def f_X1_read (v_length : Int32) (v_digitsStart : Int32) (v_digitsEnd : Int32) (v_unitsAt : Int32) (v_tenPower : Int32) (v_text : Nat → Int32) (v_number_first : Int32) (v_number_last : Int32) (v_number_limbs : Nat → Int64) (v_rounded_first : Int32) (v_rounded_last : Int32) (v_rounded_limbs : Nat → Int64) : Option (((Int64) × ((Int32) × (Int32) × (Int32) × (Int32) × (Int32) × (Int32) × (Nat → Int64) × (Int32) × (Int32) × (Nat → Int64))) ⊕ (Nat × ((Int32) × (Int32) × (Int32) × (Int32) × (Int32) × (Int32) × (Nat → Int64) × (Int32) × (Int32) × (Nat → Int64)))) :=
    ((f_X1_scanNumeral v_length v_digitsStart v_digitsEnd v_unitsAt v_tenPower v_text).bind fun (r1, v_digitsStart_1, v_digitsEnd_1, v_unitsAt_1, v_tenPower_1) =>
(if r1 = 0 then
some (.inr (2, (v_digitsStart_1, v_digitsEnd_1, v_unitsAt_1, v_tenPower_1, v_number_first, v_number_last, v_number_limbs, v_rounded_first, v_rounded_last, v_rounded_limbs)))
  else
((f_X1_nearestToNumeral v_digitsStart_1 v_digitsEnd_1 v_unitsAt_1 v_tenPower_1 v_text v_number_first v_number_last v_number_limbs v_rounded_first v_rounded_last v_rounded_limbs).bind fun (r16, v_number_first_16, v_number_last_16, v_number_limbs_16, v_rounded_first_16, v_rounded_last_16, v_rounded_limbs_16) =>
((f_X1_isAt 0 45 v_length v_text).bind fun r24 =>
(if r24 = 0 then
some (.inl (r16, (v_digitsStart_1, v_digitsEnd_1, v_unitsAt_1, v_tenPower_1, v_number_first_16, v_number_last_16, v_number_limbs_16, v_rounded_first_16, v_rounded_last_16, v_rounded_limbs_16)))
    else
some (.inl ((r16 ||| (-9223372036854775808)), (v_digitsStart_1, v_digitsEnd_1, v_unitsAt_1, v_tenPower_1, v_number_first_16, v_number_last_16, v_number_limbs_16, v_rounded_first_16, v_rounded_last_16, v_rounded_limbs_16))))))))

abbrev w_X1_isNone : List Cond := Cond.code yX1_isNone cX1_isNone 2 (some .boolean) :: wsL_law
def f_X1_isNone (l0 : Int64) : Option ((Int32)) :=
    (if (lg_cmp (l0 &&& 9218868437227405312) 9218868437227405312) = 0 then
some 1
  else
some 0)

abbrev w_X1_mantissaOf : List Cond := Cond.code yX1_mantissaOf cX1_mantissaOf 4 (some .long) :: wsL_law
def f_X1_mantissaOf (l0 : Int64) : Option ((Int64)) :=
    (if (lg_cmp (l0 &&& 9218868437227405312) 0) = 0 then
some (l0 &&& 4503599627370495)
  else
some ((l0 &&& 4503599627370495) + 4503599627370496))

abbrev w_X1_powerOf : List Cond := Cond.code yX1_powerOf cX1_powerOf 3 (some .int) :: wsL_law
def f_X1_powerOf (l0 : Int64) : Option ((Int32)) :=
    some (((if (Int64.toInt32 ((Int64.toUInt64 (l0 &&& 9218868437227405312) >>> (Int64.toUInt64 (Int32.toInt64 52) &&& Int64.toUInt64 63)).toInt64)) < 1 then 1 else (Int64.toInt32 ((Int64.toUInt64 (l0 &&& 9218868437227405312) >>> (Int64.toUInt64 (Int32.toInt64 52) &&& Int64.toUInt64 63)).toInt64))) - 1) + (-1074))

abbrev w_X1_startText : List Cond := Cond.code yX1_startText cX1_startText 3 none :: wsL_law
abbrev wd_X1_startText (a_this a_text a_number a_rounded a_lowEdge a_highEdge : Nat) (c_text : ClassId) (v_length : Int32) (v_digitsStart : Int32) (v_digitsEnd : Int32) (v_unitsAt : Int32) (v_tenPower : Int32) (v_text : Nat → Int32) : va_W := [(a_this, .inr (1, [.ref a_text, .int v_length, .int v_digitsStart, .int v_digitsEnd, .int v_unitsAt, .int v_tenPower, .ref a_number, .ref a_rounded, .ref a_lowEdge, .ref a_highEdge])), (a_text, .inl (c_text, 400, .inl v_text))]
def f_X1_startText (l1 : Int64) (v_length : Int32) (v_text : Nat → Int32) : Option ((Int32) × (Nat → Int32)) :=
    (if 0 ≤ (lg_cmp l1 0) then
some (0, v_text)
  else
((f_X1_put 45 0 v_text).bind fun (v_length_14, v_text_14) =>
some (v_length_14, v_text_14)))

abbrev w_X1_putDigits : List Cond := Cond.code yX1_putDigits cX1_putDigits 4 none :: wsL_law
abbrev wd_X1_putDigits (a_this a_text a_number a_rounded a_rounded_limbs a_lowEdge a_highEdge : Nat) (c_text c_rounded_limbs : ClassId) (v_length : Int32) (v_digitsStart : Int32) (v_digitsEnd : Int32) (v_unitsAt : Int32) (v_tenPower : Int32) (v_text : Nat → Int32) (v_rounded_first : Int32) (v_rounded_last : Int32) (v_rounded_limbs : Nat → Int64) : va_W := [(a_this, .inr (1, [.ref a_text, .int v_length, .int v_digitsStart, .int v_digitsEnd, .int v_unitsAt, .int v_tenPower, .ref a_number, .ref a_rounded, .ref a_lowEdge, .ref a_highEdge])), (a_text, .inl (c_text, 400, .inl v_text)), (a_rounded, .inr (0, [.ref a_rounded_limbs, .int v_rounded_first, .int v_rounded_last])), (a_rounded_limbs, .inl (c_rounded_limbs, 160, .inr (.inl v_rounded_limbs)))]
def f_X1_putDigits_L2 : Nat → (Int32) → (Int32) → (Int32) → (Nat → Int32) → (Nat → Int64) → Option ((Int32) × (Nat → Int32))
  | 0, _, _, _, _, _ => none
  | n + 1, l2, l3, v_length, v_text, v_rounded_limbs =>
    (if l3 < l2 then
some (v_length, v_text)
    else
((f_X0_digit l3 v_rounded_limbs).bind fun r15 =>
((f_X1_put (48 + r15) v_length v_text).bind fun (v_length_19, v_text_19) =>
f_X1_putDigits_L2 n l2 (l3 + (-1)) v_length_19 v_text_19 v_rounded_limbs)))
def f_X1_putDigits (l1 : Int32) (l2 : Int32) (v_length : Int32) (v_text : Nat → Int32) (v_rounded_limbs : Nat → Int64) : Option ((Int32) × (Nat → Int32)) :=
    f_X1_putDigits_L2 FU l2 l1 v_length v_text v_rounded_limbs

abbrev w_X1_print : List Cond := Cond.code yX1_print cX1_print 4 (some .int) :: wsL_law
abbrev wd_X1_print (a_this a_text a_number a_number_limbs a_rounded a_rounded_limbs a_lowEdge a_highEdge : Nat) (c_text c_number_limbs c_rounded_limbs : ClassId) (v_length : Int32) (v_digitsStart : Int32) (v_digitsEnd : Int32) (v_unitsAt : Int32) (v_tenPower : Int32) (v_text : Nat → Int32) (v_number_first : Int32) (v_number_last : Int32) (v_number_limbs : Nat → Int64) (v_rounded_first : Int32) (v_rounded_last : Int32) (v_rounded_limbs : Nat → Int64) : va_W := [(a_this, .inr (1, [.ref a_text, .int v_length, .int v_digitsStart, .int v_digitsEnd, .int v_unitsAt, .int v_tenPower, .ref a_number, .ref a_rounded, .ref a_lowEdge, .ref a_highEdge])), (a_text, .inl (c_text, 400, .inl v_text)), (a_number, .inr (0, [.ref a_number_limbs, .int v_number_first, .int v_number_last])), (a_number_limbs, .inl (c_number_limbs, 160, .inr (.inl v_number_limbs))), (a_rounded, .inr (0, [.ref a_rounded_limbs, .int v_rounded_first, .int v_rounded_last])), (a_rounded_limbs, .inl (c_rounded_limbs, 160, .inr (.inl v_rounded_limbs)))]
def f_X1_print (l1 : Int64) (l3 : Int32) (v_length : Int32) (v_text : Nat → Int32) (v_number_first : Int32) (v_number_last : Int32) (v_number_limbs : Nat → Int64) (v_rounded_first : Int32) (v_rounded_last : Int32) (v_rounded_limbs : Nat → Int64) : Option (((Int32) × ((Int32) × (Nat → Int32) × (Int32) × (Int32) × (Nat → Int64) × (Int32) × (Int32) × (Nat → Int64))) ⊕ (Nat × ((Int32) × (Nat → Int32) × (Int32) × (Int32) × (Nat → Int64) × (Int32) × (Int32) × (Nat → Int64)))) :=
    (if l3 < 0 then
some (.inr (1, (v_length, v_text, v_number_first, v_number_last, v_number_limbs, v_rounded_first, v_rounded_last, v_rounded_limbs)))
  else
(if l3 ≤ 30 then
((f_X1_isNone l1).bind fun r19 =>
(if r19 = 0 then
((f_X1_mantissaOf l1).bind fun r38 =>
((f_X1_powerOf l1).bind fun r42 =>
((f_X0_takeScaled r38 r42 v_number_first v_number_last v_number_limbs).bind fun (v_number_first_45, v_number_last_45, v_number_limbs_45) =>
((f_X0_takeRounded (-l3) v_rounded_first v_rounded_last v_rounded_limbs v_number_first_45 v_number_last_45 v_number_limbs_45).bind fun (v_rounded_first_58, v_rounded_last_58, v_rounded_limbs_58) =>
((f_X1_startText l1 v_length v_text).bind fun (v_length_63, v_text_63) =>
((f_X0_topPlace v_rounded_first_58 v_rounded_limbs_58).bind fun r72 =>
((f_X1_putDigits (if 0 < r72 then r72 else 0) 0 v_length_63 v_text_63 v_rounded_limbs_58).bind fun (v_length_79, v_text_79) =>
(if l3 ≤ 0 then
some (.inl (v_length_79, (v_length_79, v_text_79, v_number_first_45, v_number_last_45, v_number_limbs_45, v_rounded_first_58, v_rounded_last_58, v_rounded_limbs_58)))
        else
((f_X1_put 46 v_length_79 v_text_79).bind fun (v_length_89, v_text_89) =>
((f_X1_putDigits (-1) (-l3) v_length_89 v_text_89 v_rounded_limbs_58).bind fun (v_length_96, v_text_96) =>
some (.inl (v_length_96, (v_length_96, v_text_96, v_number_first_45, v_number_last_45, v_number_limbs_45, v_rounded_first_58, v_rounded_last_58, v_rounded_limbs_58)))))))))))))
      else
some (.inr (2, (v_length, v_text, v_number_first, v_number_last, v_number_limbs, v_rounded_first, v_rounded_last, v_rounded_limbs)))))
    else
some (.inr (1, (v_length, v_text, v_number_first, v_number_last, v_number_limbs, v_rounded_first, v_rounded_last, v_rounded_limbs)))))

abbrev w_X1_takeEdges : List Cond := Cond.code yX1_takeEdges cX1_takeEdges 7 none :: wsL_law
abbrev wd_X1_takeEdges (a_this a_text a_number a_rounded a_lowEdge a_lowEdge_limbs a_highEdge a_highEdge_limbs : Nat) (c_lowEdge_limbs c_highEdge_limbs : ClassId) (v_length : Int32) (v_digitsStart : Int32) (v_digitsEnd : Int32) (v_unitsAt : Int32) (v_tenPower : Int32) (v_lowEdge_first : Int32) (v_lowEdge_last : Int32) (v_lowEdge_limbs : Nat → Int64) (v_highEdge_first : Int32) (v_highEdge_last : Int32) (v_highEdge_limbs : Nat → Int64) : va_W := [(a_this, .inr (1, [.ref a_text, .int v_length, .int v_digitsStart, .int v_digitsEnd, .int v_unitsAt, .int v_tenPower, .ref a_number, .ref a_rounded, .ref a_lowEdge, .ref a_highEdge])), (a_lowEdge, .inr (0, [.ref a_lowEdge_limbs, .int v_lowEdge_first, .int v_lowEdge_last])), (a_lowEdge_limbs, .inl (c_lowEdge_limbs, 160, .inr (.inl v_lowEdge_limbs))), (a_highEdge, .inr (0, [.ref a_highEdge_limbs, .int v_highEdge_first, .int v_highEdge_last])), (a_highEdge_limbs, .inl (c_highEdge_limbs, 160, .inr (.inl v_highEdge_limbs)))]
def f_X1_takeEdges_b45 (l3 : Int32) (l5 : Int64) (s1 : Int64) (s2 : Int32) (v_lowEdge_first : Int32) (v_lowEdge_last : Int32) (v_lowEdge_limbs : Nat → Int64) (v_highEdge_first : Int32) (v_highEdge_last : Int32) (v_highEdge_limbs : Nat → Int64) : Option ((Int32) × (Int32) × (Nat → Int64) × (Int32) × (Int32) × (Nat → Int64)) :=
    ((f_X0_takeScaled (s1 - (Int32.toInt64 s2)) (l3 - 2) v_lowEdge_first v_lowEdge_last v_lowEdge_limbs).bind fun (v_lowEdge_first_50, v_lowEdge_last_50, v_lowEdge_limbs_50) =>
((f_X0_takeScaled (l5 + 2) (l3 - 2) v_highEdge_first v_highEdge_last v_highEdge_limbs).bind fun (v_highEdge_first_66, v_highEdge_last_66, v_highEdge_limbs_66) =>
some (v_lowEdge_first_50, v_lowEdge_last_50, v_lowEdge_limbs_50, v_highEdge_first_66, v_highEdge_last_66, v_highEdge_limbs_66)))
def f_X1_takeEdges_b20 (l1 : Int64) (l3 : Int32) (s0 : Int32) (v_lowEdge_first : Int32) (v_lowEdge_last : Int32) (v_lowEdge_limbs : Nat → Int64) (v_highEdge_first : Int32) (v_highEdge_last : Int32) (v_highEdge_limbs : Nat → Int64) : Option ((Int32) × (Int32) × (Nat → Int64) × (Int32) × (Int32) × (Nat → Int64)) :=
    (if s0 = 0 then
f_X1_takeEdges_b45  l3 (4 * l1) (4 * l1) 2 v_lowEdge_first v_lowEdge_last v_lowEdge_limbs v_highEdge_first v_highEdge_last v_highEdge_limbs
  else
f_X1_takeEdges_b45  l3 (4 * l1) (4 * l1) 1 v_lowEdge_first v_lowEdge_last v_lowEdge_limbs v_highEdge_first v_highEdge_last v_highEdge_limbs)
def f_X1_takeEdges_b19 (l1 : Int64) (l3 : Int32) (v_lowEdge_first : Int32) (v_lowEdge_last : Int32) (v_lowEdge_limbs : Nat → Int64) (v_highEdge_first : Int32) (v_highEdge_last : Int32) (v_highEdge_limbs : Nat → Int64) : Option ((Int32) × (Int32) × (Nat → Int64) × (Int32) × (Int32) × (Nat → Int64)) :=
    f_X1_takeEdges_b20  l1 l3 0 v_lowEdge_first v_lowEdge_last v_lowEdge_limbs v_highEdge_first v_highEdge_last v_highEdge_limbs
def f_X1_takeEdges (l1 : Int64) (l3 : Int32) (v_lowEdge_first : Int32) (v_lowEdge_last : Int32) (v_lowEdge_limbs : Nat → Int64) (v_highEdge_first : Int32) (v_highEdge_last : Int32) (v_highEdge_limbs : Nat → Int64) : Option ((Int32) × (Int32) × (Nat → Int64) × (Int32) × (Int32) × (Nat → Int64)) :=
    (if (lg_cmp l1 4503599627370496) = 0 then
(if l3 ≤ (-1074) then
f_X1_takeEdges_b19  l1 l3 v_lowEdge_first v_lowEdge_last v_lowEdge_limbs v_highEdge_first v_highEdge_last v_highEdge_limbs
    else
f_X1_takeEdges_b20  l1 l3 1 v_lowEdge_first v_lowEdge_last v_lowEdge_limbs v_highEdge_first v_highEdge_last v_highEdge_limbs)
  else
f_X1_takeEdges_b19  l1 l3 v_lowEdge_first v_lowEdge_last v_lowEdge_limbs v_highEdge_first v_highEdge_last v_highEdge_limbs)

abbrev w_X1_isBetweenEdges : List Cond := Cond.code yX1_isBetweenEdges cX1_isBetweenEdges 4 (some .boolean) :: wsL_law
abbrev wd_X1_isBetweenEdges (a_this a_text a_number a_rounded a_rounded_limbs a_lowEdge a_lowEdge_limbs a_highEdge a_highEdge_limbs : Nat) (c_rounded_limbs c_lowEdge_limbs c_highEdge_limbs : ClassId) (v_length : Int32) (v_digitsStart : Int32) (v_digitsEnd : Int32) (v_unitsAt : Int32) (v_tenPower : Int32) (v_rounded_first : Int32) (v_rounded_last : Int32) (v_rounded_limbs : Nat → Int64) (v_lowEdge_first : Int32) (v_lowEdge_last : Int32) (v_lowEdge_limbs : Nat → Int64) (v_highEdge_first : Int32) (v_highEdge_last : Int32) (v_highEdge_limbs : Nat → Int64) : va_W := [(a_this, .inr (1, [.ref a_text, .int v_length, .int v_digitsStart, .int v_digitsEnd, .int v_unitsAt, .int v_tenPower, .ref a_number, .ref a_rounded, .ref a_lowEdge, .ref a_highEdge])), (a_rounded, .inr (0, [.ref a_rounded_limbs, .int v_rounded_first, .int v_rounded_last])), (a_rounded_limbs, .inl (c_rounded_limbs, 160, .inr (.inl v_rounded_limbs))), (a_lowEdge, .inr (0, [.ref a_lowEdge_limbs, .int v_lowEdge_first, .int v_lowEdge_last])), (a_lowEdge_limbs, .inl (c_lowEdge_limbs, 160, .inr (.inl v_lowEdge_limbs))), (a_highEdge, .inr (0, [.ref a_highEdge_limbs, .int v_highEdge_first, .int v_highEdge_last])), (a_highEdge_limbs, .inl (c_highEdge_limbs, 160, .inr (.inl v_highEdge_limbs)))]
def f_X1_isBetweenEdges (l1 : Int32) (v_rounded_first : Int32) (v_rounded_last : Int32) (v_rounded_limbs : Nat → Int64) (v_lowEdge_first : Int32) (v_lowEdge_last : Int32) (v_lowEdge_limbs : Nat → Int64) (v_highEdge_first : Int32) (v_highEdge_last : Int32) (v_highEdge_limbs : Nat → Int64) : Option ((Int32)) :=
    ((f_X0_comparedTo v_rounded_first v_rounded_last v_rounded_limbs v_lowEdge_first v_lowEdge_last v_lowEdge_limbs).bind fun r8 =>
((f_X0_comparedTo v_highEdge_first v_highEdge_last v_highEdge_limbs v_rounded_first v_rounded_last v_rounded_limbs).bind fun r20 =>
(if l1 = 0 then
(if r8 ≤ 0 then
some 0
    else
(if r20 ≤ 0 then
some 0
      else
some 1))
  else
(if r8 < 0 then
some 0
    else
(if r20 < 0 then
some 0
      else
some 1)))))

abbrev w_X1_roundToFewest : List Cond := Cond.code yX1_roundToFewest cX1_roundToFewest 4 (some .int) :: wsL_law
abbrev wd_X1_roundToFewest (a_this a_text a_number a_number_limbs a_rounded a_rounded_limbs a_lowEdge a_lowEdge_limbs a_highEdge a_highEdge_limbs : Nat) (c_number_limbs c_rounded_limbs c_lowEdge_limbs c_highEdge_limbs : ClassId) (v_length : Int32) (v_digitsStart : Int32) (v_digitsEnd : Int32) (v_unitsAt : Int32) (v_tenPower : Int32) (v_number_first : Int32) (v_number_last : Int32) (v_number_limbs : Nat → Int64) (v_rounded_first : Int32) (v_rounded_last : Int32) (v_rounded_limbs : Nat → Int64) (v_lowEdge_first : Int32) (v_lowEdge_last : Int32) (v_lowEdge_limbs : Nat → Int64) (v_highEdge_first : Int32) (v_highEdge_last : Int32) (v_highEdge_limbs : Nat → Int64) : va_W := [(a_this, .inr (1, [.ref a_text, .int v_length, .int v_digitsStart, .int v_digitsEnd, .int v_unitsAt, .int v_tenPower, .ref a_number, .ref a_rounded, .ref a_lowEdge, .ref a_highEdge])), (a_number, .inr (0, [.ref a_number_limbs, .int v_number_first, .int v_number_last])), (a_number_limbs, .inl (c_number_limbs, 160, .inr (.inl v_number_limbs))), (a_rounded, .inr (0, [.ref a_rounded_limbs, .int v_rounded_first, .int v_rounded_last])), (a_rounded_limbs, .inl (c_rounded_limbs, 160, .inr (.inl v_rounded_limbs))), (a_lowEdge, .inr (0, [.ref a_lowEdge_limbs, .int v_lowEdge_first, .int v_lowEdge_last])), (a_lowEdge_limbs, .inl (c_lowEdge_limbs, 160, .inr (.inl v_lowEdge_limbs))), (a_highEdge, .inr (0, [.ref a_highEdge_limbs, .int v_highEdge_first, .int v_highEdge_last])), (a_highEdge_limbs, .inl (c_highEdge_limbs, 160, .inr (.inl v_highEdge_limbs)))]
def f_X1_roundToFewest_L10 : Nat → (Int32) → (Int32) → (Int32) → (Int32) → (Int32) → (Nat → Int64) → (Int32) → (Int32) → (Nat → Int64) → (Int32) → (Int32) → (Nat → Int64) → (Int32) → (Int32) → (Nat → Int64) → Option ((Int32) × (Int32) × (Int32) × (Nat → Int64))
  | 0, _, _, _, _, _, _, _, _, _, _, _, _, _, _, _ => none
  | n + 1, l1, l2, l3, v_number_first, v_number_last, v_number_limbs, v_rounded_first, v_rounded_last, v_rounded_limbs, v_lowEdge_first, v_lowEdge_last, v_lowEdge_limbs, v_highEdge_first, v_highEdge_last, v_highEdge_limbs =>
    (if 17 ≤ l3 then
((f_X0_takeRounded ((l2 - 17) + 1) v_rounded_first v_rounded_last v_rounded_limbs v_number_first v_number_last v_number_limbs).bind fun (v_rounded_first_62, v_rounded_last_62, v_rounded_limbs_62) =>
some (17, v_rounded_first_62, v_rounded_last_62, v_rounded_limbs_62))
    else
((f_X0_takeRounded ((l2 - l3) + 1) v_rounded_first v_rounded_last v_rounded_limbs v_number_first v_number_last v_number_limbs).bind fun (v_rounded_first_29, v_rounded_last_29, v_rounded_limbs_29) =>
((f_X1_isBetweenEdges l1 v_rounded_first_29 v_rounded_last_29 v_rounded_limbs_29 v_lowEdge_first v_lowEdge_last v_lowEdge_limbs v_highEdge_first v_highEdge_last v_highEdge_limbs).bind fun r34 =>
(if r34 = 0 then
f_X1_roundToFewest_L10 n l1 l2 (l3 + 1) v_number_first v_number_last v_number_limbs v_rounded_first_29 v_rounded_last_29 v_rounded_limbs_29 v_lowEdge_first v_lowEdge_last v_lowEdge_limbs v_highEdge_first v_highEdge_last v_highEdge_limbs
      else
some (l3, v_rounded_first_29, v_rounded_last_29, v_rounded_limbs_29)))))
def f_X1_roundToFewest (l1 : Int32) (v_number_first : Int32) (v_number_last : Int32) (v_number_limbs : Nat → Int64) (v_rounded_first : Int32) (v_rounded_last : Int32) (v_rounded_limbs : Nat → Int64) (v_lowEdge_first : Int32) (v_lowEdge_last : Int32) (v_lowEdge_limbs : Nat → Int64) (v_highEdge_first : Int32) (v_highEdge_last : Int32) (v_highEdge_limbs : Nat → Int64) : Option ((Int32) × (Int32) × (Int32) × (Nat → Int64)) :=
    ((f_X0_topPlace v_number_first v_number_limbs).bind fun r4 =>
f_X1_roundToFewest_L10 FU l1 r4 1 v_number_first v_number_last v_number_limbs v_rounded_first v_rounded_last v_rounded_limbs v_lowEdge_first v_lowEdge_last v_lowEdge_limbs v_highEdge_first v_highEdge_last v_highEdge_limbs)

abbrev w_X1_putPower : List Cond := Cond.code yX1_putPower cX1_putPower 3 none :: wsL_law
abbrev wd_X1_putPower (a_this a_text a_number a_rounded a_lowEdge a_highEdge : Nat) (c_text : ClassId) (v_length : Int32) (v_digitsStart : Int32) (v_digitsEnd : Int32) (v_unitsAt : Int32) (v_tenPower : Int32) (v_text : Nat → Int32) : va_W := [(a_this, .inr (1, [.ref a_text, .int v_length, .int v_digitsStart, .int v_digitsEnd, .int v_unitsAt, .int v_tenPower, .ref a_number, .ref a_rounded, .ref a_lowEdge, .ref a_highEdge])), (a_text, .inl (c_text, 400, .inl v_text))]
def f_X1_putPower_b58 (l2 : Int32) (v_length : Int32) (v_text : Nat → Int32) : Option ((Int32) × (Nat → Int32)) :=
    ((f_X1_put (48 + (l2 - l2 / 10 * 10)) v_length v_text).bind fun (v_length_66, v_text_66) =>
some (v_length_66, v_text_66))
def f_X1_putPower_b38 (l2 : Int32) (v_length : Int32) (v_text : Nat → Int32) : Option ((Int32) × (Nat → Int32)) :=
    (if l2 < 10 then
f_X1_putPower_b58  l2 v_length v_text
  else
((f_X1_put (48 + ((l2 / 10) - (l2 / 10) / 10 * 10)) v_length v_text).bind fun (v_length_55, v_text_55) =>
f_X1_putPower_b58  l2 v_length_55 v_text_55))
def f_X1_putPower_b16 (l1 : Int32) (v_length : Int32) (v_text : Nat → Int32) : Option ((Int32) × (Nat → Int32)) :=
    (if (if 0 ≤ l1 then l1 else 0 - l1) < 100 then
f_X1_putPower_b38  (if 0 ≤ l1 then l1 else 0 - l1) v_length v_text
  else
((f_X1_put (48 + ((if 0 ≤ l1 then l1 else 0 - l1) / 100)) v_length v_text).bind fun (v_length_35, v_text_35) =>
f_X1_putPower_b38  (if 0 ≤ l1 then l1 else 0 - l1) v_length_35 v_text_35))
def f_X1_putPower (l1 : Int32) (v_length : Int32) (v_text : Nat → Int32) : Option ((Int32) × (Nat → Int32)) :=
    ((f_X1_put 101 v_length v_text).bind fun (v_length_3, v_text_3) =>
(if 0 ≤ l1 then
f_X1_putPower_b16  l1 v_length_3 v_text_3
  else
((f_X1_put 45 v_length_3 v_text_3).bind fun (v_length_13, v_text_13) =>
f_X1_putPower_b16  l1 v_length_13 v_text_13)))

abbrev w_X1_putShortest : List Cond := Cond.code yX1_putShortest cX1_putShortest 6 none :: wsL_law
abbrev wd_X1_putShortest (a_this a_text a_number a_number_limbs a_rounded a_rounded_limbs a_lowEdge a_lowEdge_limbs a_highEdge a_highEdge_limbs : Nat) (c_text c_number_limbs c_rounded_limbs c_lowEdge_limbs c_highEdge_limbs : ClassId) (v_length : Int32) (v_digitsStart : Int32) (v_digitsEnd : Int32) (v_unitsAt : Int32) (v_tenPower : Int32) (v_text : Nat → Int32) (v_number_first : Int32) (v_number_last : Int32) (v_number_limbs : Nat → Int64) (v_rounded_first : Int32) (v_rounded_last : Int32) (v_rounded_limbs : Nat → Int64) (v_lowEdge_first : Int32) (v_lowEdge_last : Int32) (v_lowEdge_limbs : Nat → Int64) (v_highEdge_first : Int32) (v_highEdge_last : Int32) (v_highEdge_limbs : Nat → Int64) : va_W := [(a_this, .inr (1, [.ref a_text, .int v_length, .int v_digitsStart, .int v_digitsEnd, .int v_unitsAt, .int v_tenPower, .ref a_number, .ref a_rounded, .ref a_lowEdge, .ref a_highEdge])), (a_text, .inl (c_text, 400, .inl v_text)), (a_number, .inr (0, [.ref a_number_limbs, .int v_number_first, .int v_number_last])), (a_number_limbs, .inl (c_number_limbs, 160, .inr (.inl v_number_limbs))), (a_rounded, .inr (0, [.ref a_rounded_limbs, .int v_rounded_first, .int v_rounded_last])), (a_rounded_limbs, .inl (c_rounded_limbs, 160, .inr (.inl v_rounded_limbs))), (a_lowEdge, .inr (0, [.ref a_lowEdge_limbs, .int v_lowEdge_first, .int v_lowEdge_last])), (a_lowEdge_limbs, .inl (c_lowEdge_limbs, 160, .inr (.inl v_lowEdge_limbs))), (a_highEdge, .inr (0, [.ref a_highEdge_limbs, .int v_highEdge_first, .int v_highEdge_last])), (a_highEdge_limbs, .inl (c_highEdge_limbs, 160, .inr (.inl v_highEdge_limbs)))]
def f_X1_putShortest_b31 (s1 : Int32) (v_length : Int32) (v_text : Nat → Int32) (v_number_first : Int32) (v_number_last : Int32) (v_number_limbs : Nat → Int64) (v_rounded_first : Int32) (v_rounded_last : Int32) (v_rounded_limbs : Nat → Int64) (v_lowEdge_first : Int32) (v_lowEdge_last : Int32) (v_lowEdge_limbs : Nat → Int64) (v_highEdge_first : Int32) (v_highEdge_last : Int32) (v_highEdge_limbs : Nat → Int64) : Option ((Int32) × (Nat → Int32) × (Int32) × (Int32) × (Nat → Int64) × (Int32) × (Int32) × (Nat → Int64) × (Int32) × (Int32) × (Nat → Int64) × (Int32) × (Int32) × (Nat → Int64)) :=
    ((f_X1_roundToFewest s1 v_number_first v_number_last v_number_limbs v_rounded_first v_rounded_last v_rounded_limbs v_lowEdge_first v_lowEdge_last v_lowEdge_limbs v_highEdge_first v_highEdge_last v_highEdge_limbs).bind fun (r31, v_rounded_first_31, v_rounded_last_31, v_rounded_limbs_31) =>
((f_X0_topPlace v_rounded_first_31 v_rounded_limbs_31).bind fun r40 =>
((f_X1_putDigits r40 r40 v_length v_text v_rounded_limbs_31).bind fun (v_length_50, v_text_50) =>
(if r31 ≤ 1 then
((f_X1_putPower r40 v_length_50 v_text_50).bind fun (v_length_83, v_text_83) =>
some (v_length_83, v_text_83, v_number_first, v_number_last, v_number_limbs, v_rounded_first_31, v_rounded_last_31, v_rounded_limbs_31, v_lowEdge_first, v_lowEdge_last, v_lowEdge_limbs, v_highEdge_first, v_highEdge_last, v_highEdge_limbs))
  else
((f_X1_put 46 v_length_50 v_text_50).bind fun (v_length_62, v_text_62) =>
((f_X1_putDigits (r40 - 1) ((r40 - r31) + 1) v_length_62 v_text_62 v_rounded_limbs_31).bind fun (v_length_77, v_text_77) =>
((f_X1_putPower r40 v_length_77 v_text_77).bind fun (v_length_83, v_text_83) =>
some (v_length_83, v_text_83, v_number_first, v_number_last, v_number_limbs, v_rounded_first_31, v_rounded_last_31, v_rounded_limbs_31, v_lowEdge_first, v_lowEdge_last, v_lowEdge_limbs, v_highEdge_first, v_highEdge_last, v_highEdge_limbs))))))))
def f_X1_putShortest (l1 : Int64) (l3 : Int32) (v_length : Int32) (v_text : Nat → Int32) (v_number_first : Int32) (v_number_last : Int32) (v_number_limbs : Nat → Int64) (v_rounded_first : Int32) (v_rounded_last : Int32) (v_rounded_limbs : Nat → Int64) (v_lowEdge_first : Int32) (v_lowEdge_last : Int32) (v_lowEdge_limbs : Nat → Int64) (v_highEdge_first : Int32) (v_highEdge_last : Int32) (v_highEdge_limbs : Nat → Int64) : Option ((Int32) × (Nat → Int32) × (Int32) × (Int32) × (Nat → Int64) × (Int32) × (Int32) × (Nat → Int64) × (Int32) × (Int32) × (Nat → Int64) × (Int32) × (Int32) × (Nat → Int64)) :=
    ((f_X0_takeScaled l1 l3 v_number_first v_number_last v_number_limbs).bind fun (v_number_first_6, v_number_last_6, v_number_limbs_6) =>
((f_X1_takeEdges l1 l3 v_lowEdge_first v_lowEdge_last v_lowEdge_limbs v_highEdge_first v_highEdge_last v_highEdge_limbs).bind fun (v_lowEdge_first_12, v_lowEdge_last_12, v_lowEdge_limbs_12, v_highEdge_first_12, v_highEdge_last_12, v_highEdge_limbs_12) =>
(if (lg_cmp (l1 - l1 / 2 * 2) 0) = 0 then
f_X1_putShortest_b31  1 v_length v_text v_number_first_6 v_number_last_6 v_number_limbs_6 v_rounded_first v_rounded_last v_rounded_limbs v_lowEdge_first_12 v_lowEdge_last_12 v_lowEdge_limbs_12 v_highEdge_first_12 v_highEdge_last_12 v_highEdge_limbs_12
  else
f_X1_putShortest_b31  0 v_length v_text v_number_first_6 v_number_last_6 v_number_limbs_6 v_rounded_first v_rounded_last v_rounded_limbs v_lowEdge_first_12 v_lowEdge_last_12 v_lowEdge_limbs_12 v_highEdge_first_12 v_highEdge_last_12 v_highEdge_limbs_12)))

abbrev w_X1_shortest : List Cond := Cond.code yX1_shortest cX1_shortest 3 (some .int) :: wsL_law
abbrev wd_X1_shortest (a_this a_text a_number a_number_limbs a_rounded a_rounded_limbs a_lowEdge a_lowEdge_limbs a_highEdge a_highEdge_limbs : Nat) (c_text c_number_limbs c_rounded_limbs c_lowEdge_limbs c_highEdge_limbs : ClassId) (v_length : Int32) (v_digitsStart : Int32) (v_digitsEnd : Int32) (v_unitsAt : Int32) (v_tenPower : Int32) (v_text : Nat → Int32) (v_number_first : Int32) (v_number_last : Int32) (v_number_limbs : Nat → Int64) (v_rounded_first : Int32) (v_rounded_last : Int32) (v_rounded_limbs : Nat → Int64) (v_lowEdge_first : Int32) (v_lowEdge_last : Int32) (v_lowEdge_limbs : Nat → Int64) (v_highEdge_first : Int32) (v_highEdge_last : Int32) (v_highEdge_limbs : Nat → Int64) : va_W := [(a_this, .inr (1, [.ref a_text, .int v_length, .int v_digitsStart, .int v_digitsEnd, .int v_unitsAt, .int v_tenPower, .ref a_number, .ref a_rounded, .ref a_lowEdge, .ref a_highEdge])), (a_text, .inl (c_text, 400, .inl v_text)), (a_number, .inr (0, [.ref a_number_limbs, .int v_number_first, .int v_number_last])), (a_number_limbs, .inl (c_number_limbs, 160, .inr (.inl v_number_limbs))), (a_rounded, .inr (0, [.ref a_rounded_limbs, .int v_rounded_first, .int v_rounded_last])), (a_rounded_limbs, .inl (c_rounded_limbs, 160, .inr (.inl v_rounded_limbs))), (a_lowEdge, .inr (0, [.ref a_lowEdge_limbs, .int v_lowEdge_first, .int v_lowEdge_last])), (a_lowEdge_limbs, .inl (c_lowEdge_limbs, 160, .inr (.inl v_lowEdge_limbs))), (a_highEdge, .inr (0, [.ref a_highEdge_limbs, .int v_highEdge_first, .int v_highEdge_last])), (a_highEdge_limbs, .inl (c_highEdge_limbs, 160, .inr (.inl v_highEdge_limbs)))]
def f_X1_shortest (l1 : Int64) (v_length : Int32) (v_text : Nat → Int32) (v_number_first : Int32) (v_number_last : Int32) (v_number_limbs : Nat → Int64) (v_rounded_first : Int32) (v_rounded_last : Int32) (v_rounded_limbs : Nat → Int64) (v_lowEdge_first : Int32) (v_lowEdge_last : Int32) (v_lowEdge_limbs : Nat → Int64) (v_highEdge_first : Int32) (v_highEdge_last : Int32) (v_highEdge_limbs : Nat → Int64) : Option (((Int32) × ((Int32) × (Nat → Int32) × (Int32) × (Int32) × (Nat → Int64) × (Int32) × (Int32) × (Nat → Int64) × (Int32) × (Int32) × (Nat → Int64) × (Int32) × (Int32) × (Nat → Int64))) ⊕ (Nat × ((Int32) × (Nat → Int32) × (Int32) × (Int32) × (Nat → Int64) × (Int32) × (Int32) × (Nat → Int64) × (Int32) × (Int32) × (Nat → Int64) × (Int32) × (Int32) × (Nat → Int64)))) :=
    ((f_X1_isNone l1).bind fun r1 =>
(if r1 = 0 then
((f_X1_startText l1 v_length v_text).bind fun (v_length_17, v_text_17) =>
((f_X1_mantissaOf l1).bind fun r21 =>
(if (lg_cmp r21 0) = 0 then
((f_X1_put 48 v_length_17 v_text_17).bind fun (v_length_32, v_text_32) =>
((f_X1_putPower 0 v_length_32 v_text_32).bind fun (v_length_37, v_text_37) =>
some (.inl (v_length_37, (v_length_37, v_text_37, v_number_first, v_number_last, v_number_limbs, v_rounded_first, v_rounded_last, v_rounded_limbs, v_lowEdge_first, v_lowEdge_last, v_lowEdge_limbs, v_highEdge_first, v_highEdge_last, v_highEdge_limbs)))))
    else
((f_X1_mantissaOf l1).bind fun r45 =>
((f_X1_powerOf l1).bind fun r49 =>
((f_X1_putShortest r45 r49 v_length_17 v_text_17 v_number_first v_number_last v_number_limbs v_rounded_first v_rounded_last v_rounded_limbs v_lowEdge_first v_lowEdge_last v_lowEdge_limbs v_highEdge_first v_highEdge_last v_highEdge_limbs).bind fun (v_length_52, v_text_52, v_number_first_52, v_number_last_52, v_number_limbs_52, v_rounded_first_52, v_rounded_last_52, v_rounded_limbs_52, v_lowEdge_first_52, v_lowEdge_last_52, v_lowEdge_limbs_52, v_highEdge_first_52, v_highEdge_last_52, v_highEdge_limbs_52) =>
some (.inl (v_length_52, (v_length_52, v_text_52, v_number_first_52, v_number_last_52, v_number_limbs_52, v_rounded_first_52, v_rounded_last_52, v_rounded_limbs_52, v_lowEdge_first_52, v_lowEdge_last_52, v_lowEdge_limbs_52, v_highEdge_first_52, v_highEdge_last_52, v_highEdge_limbs_52)))))))))
  else
some (.inr (2, (v_length, v_text, v_number_first, v_number_last, v_number_limbs, v_rounded_first, v_rounded_last, v_rounded_limbs, v_lowEdge_first, v_lowEdge_last, v_lowEdge_limbs, v_highEdge_first, v_highEdge_last, v_highEdge_limbs)))))

abbrev w_X1_letter : List Cond := Cond.code yX1_letter cX1_letter 2 (some .int) :: wsL_law
abbrev wd_X1_letter (a_this a_text a_number a_rounded a_lowEdge a_highEdge : Nat) (c_text : ClassId) (v_length : Int32) (v_digitsStart : Int32) (v_digitsEnd : Int32) (v_unitsAt : Int32) (v_tenPower : Int32) (v_text : Nat → Int32) : va_W := [(a_this, .inr (1, [.ref a_text, .int v_length, .int v_digitsStart, .int v_digitsEnd, .int v_unitsAt, .int v_tenPower, .ref a_number, .ref a_rounded, .ref a_lowEdge, .ref a_highEdge])), (a_text, .inl (c_text, 400, .inl v_text))]
def f_X1_letter (l1 : Int32) (v_length : Int32) (v_text : Nat → Int32) : Option (((Int32) × (Unit)) ⊕ (Nat × (Unit))) :=
    (if l1 < 0 then
some (.inr (3, ()))
  else
(if l1 < v_length then
(if l1 < 0 ∨ 400 ≤ Int32.toNatClampNeg l1 then none else
some (.inl ((v_text (Int32.toNatClampNeg l1)), ())))
    else
some (.inr (3, ()))))

abbrev w_X2_thrown : List Cond := Cond.code yX2_thrown cX2_thrown 1 (some .int) :: wsL_law
abbrev wd_X2_thrown (a_this a_text a_d a_n a_power a_limbs : Nat) (v_thrown : Int32) (v_size : Int32) (v_used : Int32) (v_at : Int32) : va_W := [(a_this, .inr (2, [.int v_thrown, .ref a_text, .int v_size, .ref a_d, .ref a_n, .ref a_power, .ref a_limbs, .int v_used, .int v_at]))]
def f_X2_thrown (v_thrown : Int32) : Option ((Int32)) :=
    some v_thrown

abbrev w_X2_clear : List Cond := Cond.code yX2_clear cX2_clear 1 none :: wsL_law
abbrev wd_X2_clear (a_this a_text a_d a_n a_power a_limbs : Nat) (v_thrown : Int32) (v_size : Int32) (v_used : Int32) (v_at : Int32) : va_W := [(a_this, .inr (2, [.int v_thrown, .ref a_text, .int v_size, .ref a_d, .ref a_n, .ref a_power, .ref a_limbs, .int v_used, .int v_at]))]
def f_X2_clear (v_thrown : Int32) (v_size : Int32) : Option ((Int32) × (Int32)) :=
    some (0, 0)

abbrev w_X2_add : List Cond := Cond.code yX2_add cX2_add 2 (some .int) :: wsL_law
abbrev wd_X2_add (a_this a_text a_d a_n a_power a_limbs : Nat) (c_text : ClassId) (v_thrown : Int32) (v_size : Int32) (v_used : Int32) (v_at : Int32) (v_text : Nat → Int32) : va_W := [(a_this, .inr (2, [.int v_thrown, .ref a_text, .int v_size, .ref a_d, .ref a_n, .ref a_power, .ref a_limbs, .int v_used, .int v_at])), (a_text, .inl (c_text, 400, .inl v_text))]
def f_X2_add_b31 (l1 : Int32) (s1 : Int32) (v_thrown : Int32) (v_size : Int32) (v_text : Nat → Int32) : Option ((Int32) × (Int32) × (Int32) × (Nat → Int32)) :=
    (if s1 = 0 then
(if v_size < 0 ∨ 400 ≤ Int32.toNatClampNeg v_size then none else
some ((v_size + 1), s1, (v_size + 1), (upd v_text (Int32.toNatClampNeg v_size) l1)))
  else
some (0, s1, v_size, v_text))
def f_X2_add_b12 (l1 : Int32) (v_thrown : Int32) (v_size : Int32) (v_text : Nat → Int32) : Option ((Int32) × (Int32) × (Int32) × (Nat → Int32)) :=
    f_X2_add_b31  l1 1 v_thrown v_size v_text
def f_X2_add (l1 : Int32) (v_thrown : Int32) (v_size : Int32) (v_text : Nat → Int32) : Option ((Int32) × (Int32) × (Int32) × (Nat → Int32)) :=
    (if l1 < 0 then
f_X2_add_b12  l1 v_thrown v_size v_text
  else
(if l1 ≤ 255 then
(if v_size = 400 then
f_X2_add_b31  l1 2 v_thrown v_size v_text
      else
f_X2_add_b31  l1 0 v_thrown v_size v_text)
    else
f_X2_add_b12  l1 v_thrown v_size v_text))

abbrev w_X2_digit : List Cond := Cond.code yX2_digit cX2_digit 3 (some .int) :: wsL_law
abbrev wd_X2_digit (a_this a_text a_d a_n a_power a_limbs : Nat) (c_d c_n : ClassId) (v_thrown : Int32) (v_size : Int32) (v_used : Int32) (v_at : Int32) (v_d : Nat → Int32) (v_n : Nat → Int32) : va_W := [(a_this, .inr (2, [.int v_thrown, .ref a_text, .int v_size, .ref a_d, .ref a_n, .ref a_power, .ref a_limbs, .int v_used, .int v_at])), (a_d, .inl (c_d, 7000, .inl v_d)), (a_n, .inl (c_n, 7000, .inl v_n))]
def f_X2_digit (l1 : Int32) (l2 : Int32) (v_d : Nat → Int32) (v_n : Nat → Int32) : Option ((Int32)) :=
    (if l2 < 0 then
some 0
  else
(if l1 < 0 ∨ 7000 ≤ Int32.toNatClampNeg l1 then none else
(if (v_n (Int32.toNatClampNeg l1)) ≤ l2 then
some 0
    else
(if (l1 + l2) < 0 ∨ 7000 ≤ Int32.toNatClampNeg (l1 + l2) then none else
some (v_d (Int32.toNatClampNeg (l1 + l2)))))))

abbrev w_X2_more : List Cond := Cond.code yX2_more cX2_more 3 none :: wsL_law
abbrev wd_X2_more (a_this a_text a_d a_n a_power a_limbs : Nat) (c_d c_n : ClassId) (v_thrown : Int32) (v_size : Int32) (v_used : Int32) (v_at : Int32) (v_d : Nat → Int32) (v_n : Nat → Int32) : va_W := [(a_this, .inr (2, [.int v_thrown, .ref a_text, .int v_size, .ref a_d, .ref a_n, .ref a_power, .ref a_limbs, .int v_used, .int v_at])), (a_d, .inl (c_d, 7000, .inl v_d)), (a_n, .inl (c_n, 7000, .inl v_n))]
def f_X2_more (l1 : Int32) (l2 : Int32) (v_d : Nat → Int32) (v_n : Nat → Int32) : Option ((Nat → Int32) × (Nat → Int32)) :=
    (if l1 < 0 ∨ 7000 ≤ Int32.toNatClampNeg l1 then none else
(if (l1 + (v_n (Int32.toNatClampNeg l1))) < 0 ∨ 7000 ≤ Int32.toNatClampNeg (l1 + (v_n (Int32.toNatClampNeg l1))) then none else
(if l1 < 0 ∨ 7000 ≤ Int32.toNatClampNeg l1 then none else
(if l1 < 0 ∨ 7000 ≤ Int32.toNatClampNeg l1 then none else
some ((upd v_d (Int32.toNatClampNeg (l1 + (v_n (Int32.toNatClampNeg l1)))) l2), (upd v_n (Int32.toNatClampNeg l1) ((v_n (Int32.toNatClampNeg l1)) + 1)))))))

abbrev w_X2_trim : List Cond := Cond.code yX2_trim cX2_trim 4 none :: wsL_law
abbrev wd_X2_trim (a_this a_text a_d a_n a_power a_limbs : Nat) (c_d c_n c_power : ClassId) (v_thrown : Int32) (v_size : Int32) (v_used : Int32) (v_at : Int32) (v_d : Nat → Int32) (v_n : Nat → Int32) (v_power : Nat → Int32) : va_W := [(a_this, .inr (2, [.int v_thrown, .ref a_text, .int v_size, .ref a_d, .ref a_n, .ref a_power, .ref a_limbs, .int v_used, .int v_at])), (a_d, .inl (c_d, 7000, .inl v_d)), (a_n, .inl (c_n, 7000, .inl v_n)), (a_power, .inl (c_power, 7000, .inl v_power))]
def f_X2_trim_L85 : Nat → (Int32) → (Nat → Int32) → (Nat → Int32) → (Nat → Int32) → Option ((Nat → Int32) × (Nat → Int32) × (Nat → Int32))
  | 0, _, _, _, _ => none
  | n + 1, l1, v_d, v_n, v_power =>
    (if l1 < 0 ∨ 7000 ≤ Int32.toNatClampNeg l1 then none else
(if (v_n (Int32.toNatClampNeg l1)) ≤ 0 then
some (v_d, v_n, v_power)
    else
(if l1 < 0 ∨ 7000 ≤ Int32.toNatClampNeg l1 then none else
(if ((l1 + (v_n (Int32.toNatClampNeg l1))) - 1) < 0 ∨ 7000 ≤ Int32.toNatClampNeg ((l1 + (v_n (Int32.toNatClampNeg l1))) - 1) then none else
(if (v_d (Int32.toNatClampNeg ((l1 + (v_n (Int32.toNatClampNeg l1))) - 1))) = 0 then
(if l1 < 0 ∨ 7000 ≤ Int32.toNatClampNeg l1 then none else
(if l1 < 0 ∨ 7000 ≤ Int32.toNatClampNeg l1 then none else
f_X2_trim_L85 n l1 v_d (upd v_n (Int32.toNatClampNeg l1) ((v_n (Int32.toNatClampNeg l1)) - 1)) v_power))
      else
some (v_d, v_n, v_power))))))
def f_X2_trim_L31 : Nat → (Int32) → (Int32) → (Int32) → (Nat → Int32) → (Nat → Int32) → (Nat → Int32) → Option ((Nat → Int32) × (Nat → Int32) × (Nat → Int32))
  | 0, _, _, _, _, _, _ => none
  | n + 1, l1, l2, l3, v_d, v_n, v_power =>
    (if l1 < 0 ∨ 7000 ≤ Int32.toNatClampNeg l1 then none else
(if (v_n (Int32.toNatClampNeg l1)) ≤ l3 then
(if l1 < 0 ∨ 7000 ≤ Int32.toNatClampNeg l1 then none else
(if l1 < 0 ∨ 7000 ≤ Int32.toNatClampNeg l1 then none else
(if l1 < 0 ∨ 7000 ≤ Int32.toNatClampNeg l1 then none else
(if l1 < 0 ∨ 7000 ≤ Int32.toNatClampNeg l1 then none else
f_X2_trim_L85 FU l1 v_d (upd v_n (Int32.toNatClampNeg l1) ((v_n (Int32.toNatClampNeg l1)) - l2)) (upd v_power (Int32.toNatClampNeg l1) ((v_power (Int32.toNatClampNeg l1)) - l2))))))
    else
(if (l1 + l3) < 0 ∨ 7000 ≤ Int32.toNatClampNeg (l1 + l3) then none else
(if ((l1 + l3) - l2) < 0 ∨ 7000 ≤ Int32.toNatClampNeg ((l1 + l3) - l2) then none else
f_X2_trim_L31 n l1 l2 (l3 + 1) (upd v_d (Int32.toNatClampNeg ((l1 + l3) - l2)) (v_d (Int32.toNatClampNeg (l1 + l3)))) v_n v_power))))
def f_X2_trim_L2 : Nat → (Int32) → (Int32) → (Nat → Int32) → (Nat → Int32) → (Nat → Int32) → Option ((Nat → Int32) × (Nat → Int32) × (Nat → Int32))
  | 0, _, _, _, _, _ => none
  | n + 1, l1, l2, v_d, v_n, v_power =>
    (if l1 < 0 ∨ 7000 ≤ Int32.toNatClampNeg l1 then none else
(if (v_n (Int32.toNatClampNeg l1)) ≤ l2 then
f_X2_trim_L31 FU l1 l2 l2 v_d v_n v_power
    else
(if (l1 + l2) < 0 ∨ 7000 ≤ Int32.toNatClampNeg (l1 + l2) then none else
(if (v_d (Int32.toNatClampNeg (l1 + l2))) = 0 then
f_X2_trim_L2 n l1 (l2 + 1) v_d v_n v_power
      else
f_X2_trim_L31 FU l1 l2 l2 v_d v_n v_power))))
def f_X2_trim (l1 : Int32) (v_d : Nat → Int32) (v_n : Nat → Int32) (v_power : Nat → Int32) : Option ((Nat → Int32) × (Nat → Int32) × (Nat → Int32)) :=
    f_X2_trim_L2 FU l1 0 v_d v_n v_power

abbrev w_X2_round : List Cond := Cond.code yX2_round cX2_round 7 none :: wsL_law
abbrev wd_X2_round (a_this a_text a_d a_n a_power a_limbs : Nat) (c_d c_n c_power : ClassId) (v_thrown : Int32) (v_size : Int32) (v_used : Int32) (v_at : Int32) (v_d : Nat → Int32) (v_n : Nat → Int32) (v_power : Nat → Int32) : va_W := [(a_this, .inr (2, [.int v_thrown, .ref a_text, .int v_size, .ref a_d, .ref a_n, .ref a_power, .ref a_limbs, .int v_used, .int v_at])), (a_d, .inl (c_d, 7000, .inl v_d)), (a_n, .inl (c_n, 7000, .inl v_n)), (a_power, .inl (c_power, 7000, .inl v_power))]
def f_X2_round_L258 : Nat → (Int32) → (Nat → Int32) → (Nat → Int32) → (Nat → Int32) → Option ((Nat → Int32) × (Nat → Int32) × (Nat → Int32))
  | 0, _, _, _, _ => none
  | n + 1, l6, v_d, v_n, v_power =>
    (if l6 ≤ 0 then
some ((upd v_d (Int32.toNatClampNeg 2800) 1), (upd v_n (Int32.toNatClampNeg 2800) ((v_n (Int32.toNatClampNeg 2800)) + 1)), (upd v_power (Int32.toNatClampNeg 2800) ((v_power (Int32.toNatClampNeg 2800)) + 1)))
    else
(if ((2800 + l6) - 1) < 0 ∨ 7000 ≤ Int32.toNatClampNeg ((2800 + l6) - 1) then none else
(if (2800 + l6) < 0 ∨ 7000 ≤ Int32.toNatClampNeg (2800 + l6) then none else
f_X2_round_L258 n (l6 + (-1)) (upd v_d (Int32.toNatClampNeg (2800 + l6)) (v_d (Int32.toNatClampNeg ((2800 + l6) - 1)))) v_n v_power)))
def f_X2_round_b227 (l5 : Int32) (v_d : Nat → Int32) (v_n : Nat → Int32) (v_power : Nat → Int32) : Option ((Nat → Int32) × (Nat → Int32) × (Nat → Int32)) :=
    (if l5 < 0 then
f_X2_round_L258 FU (v_n (Int32.toNatClampNeg 2800)) v_d v_n v_power
  else
(if (2800 + l5) < 0 ∨ 7000 ≤ Int32.toNatClampNeg (2800 + l5) then none else
(if (2800 + l5) < 0 ∨ 7000 ≤ Int32.toNatClampNeg (2800 + l5) then none else
some ((upd v_d (Int32.toNatClampNeg (2800 + l5)) ((v_d (Int32.toNatClampNeg (2800 + l5))) + 1)), v_n, v_power))))
def f_X2_round_L188 : Nat → (Int32) → (Nat → Int32) → (Nat → Int32) → (Nat → Int32) → Option ((Nat → Int32) × (Nat → Int32) × (Nat → Int32))
  | 0, _, _, _, _ => none
  | n + 1, l5, v_d, v_n, v_power =>
    (if l5 < 0 then
f_X2_round_b227  l5 v_d v_n v_power
    else
(if (2800 + l5) < 0 ∨ 7000 ≤ Int32.toNatClampNeg (2800 + l5) then none else
(if (v_d (Int32.toNatClampNeg (2800 + l5))) = 9 then
(if (2800 + l5) < 0 ∨ 7000 ≤ Int32.toNatClampNeg (2800 + l5) then none else
f_X2_round_L188 n (l5 + (-1)) (upd v_d (Int32.toNatClampNeg (2800 + l5)) 0) v_n v_power)
      else
f_X2_round_b227  l5 v_d v_n v_power)))
def f_X2_round_b176 (v_d : Nat → Int32) (v_n : Nat → Int32) (v_power : Nat → Int32) : Option ((Nat → Int32) × (Nat → Int32) × (Nat → Int32)) :=
    f_X2_round_L188 FU ((v_n (Int32.toNatClampNeg 2800)) - 1) v_d v_n v_power
def f_X2_round_b154 (l2 : Int32) (l3 : Int32) (s0 : Int32) (v_d : Nat → Int32) (v_n : Nat → Int32) (v_power : Nat → Int32) : Option ((Nat → Int32) × (Nat → Int32) × (Nat → Int32)) :=
    (if l2 < 5 then
some (v_d, v_n, v_power)
  else
(if l2 = 5 then
(if l3 = 0 then
(if s0 = 0 then
some (v_d, v_n, v_power)
        else
f_X2_round_b176  v_d v_n v_power)
      else
f_X2_round_b176  v_d v_n v_power)
    else
f_X2_round_b176  v_d v_n v_power))
def f_X2_round_b153 (l2 : Int32) (l3 : Int32) (v_d : Nat → Int32) (v_n : Nat → Int32) (v_power : Nat → Int32) : Option ((Nat → Int32) × (Nat → Int32) × (Nat → Int32)) :=
    f_X2_round_b154  l2 l3 0 v_d v_n v_power
def f_X2_round_L92 : Nat → (Int32) → (Int32) → (Int32) → (Int32) → (Nat → Int32) → (Nat → Int32) → (Nat → Int32) → Option ((Nat → Int32) × (Nat → Int32) × (Nat → Int32))
  | 0, _, _, _, _, _, _, _ => none
  | n + 1, l1, l2, l3, l4, v_d, v_n, v_power =>
    (if (v_n (Int32.toNatClampNeg 1400)) ≤ l4 then
(if l1 ≤ 0 then
f_X2_round_b153  l2 l3 v_d v_n v_power
      else
(if ((2800 + l1) - 1) < 0 ∨ 7000 ≤ Int32.toNatClampNeg ((2800 + l1) - 1) then none else
(if ((v_d (Int32.toNatClampNeg ((2800 + l1) - 1))) - (v_d (Int32.toNatClampNeg ((2800 + l1) - 1))) / 2 * 2) = 1 then
f_X2_round_b154  l2 l3 1 v_d v_n v_power
        else
f_X2_round_b153  l2 l3 v_d v_n v_power)))
    else
(if (1400 + l4) < 0 ∨ 7000 ≤ Int32.toNatClampNeg (1400 + l4) then none else
(if (v_d (Int32.toNatClampNeg (1400 + l4))) = 0 then
f_X2_round_L92 n l1 l2 l3 (l4 + 1) v_d v_n v_power
      else
f_X2_round_L92 n l1 l2 1 (l4 + 1) v_d v_n v_power)))
def f_X2_round_L35 : Nat → (Int32) → (Int32) → (Nat → Int32) → (Nat → Int32) → (Nat → Int32) → Option ((Nat → Int32) × (Nat → Int32) × (Nat → Int32))
  | 0, _, _, _, _, _ => none
  | n + 1, l1, l2, v_d, v_n, v_power =>
    (if (v_n (Int32.toNatClampNeg 2800)) ≤ l2 then
(if 0 ≤ l1 then
((f_X2_digit 1400 l1 v_d v_n).bind fun r81 =>
f_X2_round_L92 FU l1 r81 0 (l1 + 1) v_d v_n v_power)
      else
some (v_d, v_n, v_power))
    else
((f_X2_digit 1400 l2 v_d v_n).bind fun r61 =>
(if (2800 + l2) < 0 ∨ 7000 ≤ Int32.toNatClampNeg (2800 + l2) then none else
f_X2_round_L35 n l1 (l2 + 1) (upd v_d (Int32.toNatClampNeg (2800 + l2)) r61) v_n v_power)))
def f_X2_round (l1 : Int32) (v_d : Nat → Int32) (v_n : Nat → Int32) (v_power : Nat → Int32) : Option ((Nat → Int32) × (Nat → Int32) × (Nat → Int32)) :=
    (if 0 ≤ l1 then
f_X2_round_L35 FU l1 0 v_d (upd v_n (Int32.toNatClampNeg 2800) l1) (upd v_power (Int32.toNatClampNeg 2800) (v_power (Int32.toNatClampNeg 1400)))
  else
f_X2_round_L35 FU l1 0 v_d (upd v_n (Int32.toNatClampNeg 2800) 0) (upd v_power (Int32.toNatClampNeg 2800) (v_power (Int32.toNatClampNeg 1400))))

abbrev w_X2_against : List Cond := Cond.code yX2_against cX2_against 4 (some .int) :: wsL_law
abbrev wd_X2_against (a_this a_text a_d a_n a_power a_limbs : Nat) (c_d c_n c_power : ClassId) (v_thrown : Int32) (v_size : Int32) (v_used : Int32) (v_at : Int32) (v_d : Nat → Int32) (v_n : Nat → Int32) (v_power : Nat → Int32) : va_W := [(a_this, .inr (2, [.int v_thrown, .ref a_text, .int v_size, .ref a_d, .ref a_n, .ref a_power, .ref a_limbs, .int v_used, .int v_at])), (a_d, .inl (c_d, 7000, .inl v_d)), (a_n, .inl (c_n, 7000, .inl v_n)), (a_power, .inl (c_power, 7000, .inl v_power))]
def f_X2_against_L84 : Nat → (Int32) → (Int32) → (Int32) → (Nat → Int32) → (Nat → Int32) → (Nat → Int32) → Option ((Int32))
  | 0, _, _, _, _, _, _ => none
  | n + 1, l1, l2, l3, v_d, v_n, v_power =>
    (if l1 < 0 ∨ 7000 ≤ Int32.toNatClampNeg l1 then none else
(if l3 < (v_n (Int32.toNatClampNeg l1)) then
((f_X2_digit l1 l3 v_d v_n).bind fun r107 =>
((f_X2_digit l2 l3 v_d v_n).bind fun r113 =>
(if r107 = r113 then
f_X2_against_L84 n l1 l2 (l3 + 1) v_d v_n v_power
      else
((f_X2_digit l1 l3 v_d v_n).bind fun r122 =>
((f_X2_digit l2 l3 v_d v_n).bind fun r128 =>
(if r128 ≤ r122 then
some 1
        else
some (-1)))))))
    else
(if l2 < 0 ∨ 7000 ≤ Int32.toNatClampNeg l2 then none else
(if (v_n (Int32.toNatClampNeg l2)) ≤ l3 then
some 0
      else
((f_X2_digit l1 l3 v_d v_n).bind fun r107 =>
((f_X2_digit l2 l3 v_d v_n).bind fun r113 =>
(if r107 = r113 then
f_X2_against_L84 n l1 l2 (l3 + 1) v_d v_n v_power
        else
((f_X2_digit l1 l3 v_d v_n).bind fun r122 =>
((f_X2_digit l2 l3 v_d v_n).bind fun r128 =>
(if r128 ≤ r122 then
some 1
          else
some (-1)))))))))))
def f_X2_against_b18 (l1 : Int32) (l2 : Int32) (v_d : Nat → Int32) (v_n : Nat → Int32) (v_power : Nat → Int32) : Option ((Int32)) :=
    (if l1 < 0 ∨ 7000 ≤ Int32.toNatClampNeg l1 then none else
(if (v_n (Int32.toNatClampNeg l1)) = 0 then
(if l2 < 0 ∨ 7000 ≤ Int32.toNatClampNeg l2 then none else
(if (v_n (Int32.toNatClampNeg l2)) = 0 then
some 0
    else
some (-1)))
  else
some 1))
def f_X2_against (l1 : Int32) (l2 : Int32) (v_d : Nat → Int32) (v_n : Nat → Int32) (v_power : Nat → Int32) : Option ((Int32)) :=
    (if l1 < 0 ∨ 7000 ≤ Int32.toNatClampNeg l1 then none else
(if (v_n (Int32.toNatClampNeg l1)) = 0 then
f_X2_against_b18  l1 l2 v_d v_n v_power
  else
(if l2 < 0 ∨ 7000 ≤ Int32.toNatClampNeg l2 then none else
(if (v_n (Int32.toNatClampNeg l2)) = 0 then
f_X2_against_b18  l1 l2 v_d v_n v_power
    else
(if l1 < 0 ∨ 7000 ≤ Int32.toNatClampNeg l1 then none else
(if l2 < 0 ∨ 7000 ≤ Int32.toNatClampNeg l2 then none else
(if (v_power (Int32.toNatClampNeg l1)) = (v_power (Int32.toNatClampNeg l2)) then
f_X2_against_L84 FU l1 l2 0 v_d v_n v_power
      else
(if l1 < 0 ∨ 7000 ≤ Int32.toNatClampNeg l1 then none else
(if l2 < 0 ∨ 7000 ≤ Int32.toNatClampNeg l2 then none else
(if (v_power (Int32.toNatClampNeg l2)) ≤ (v_power (Int32.toNatClampNeg l1)) then
some 1
        else
some (-1)))))))))))

abbrev w_X2_times : List Cond := Cond.code yX2_times cX2_times 6 none :: wsL_law
abbrev wd_X2_times (a_this a_text a_d a_n a_power a_limbs : Nat) (c_limbs : ClassId) (v_thrown : Int32) (v_size : Int32) (v_used : Int32) (v_at : Int32) (v_limbs : Nat → Int64) : va_W := [(a_this, .inr (2, [.int v_thrown, .ref a_text, .int v_size, .ref a_d, .ref a_n, .ref a_power, .ref a_limbs, .int v_used, .int v_at])), (a_limbs, .inl (c_limbs, 160, .inr (.inl v_limbs)))]
def f_X2_times_L5 : Nat → (Int64) → (Int64) → (Int32) → (Int32) → (Nat → Int64) → Option ((Int32) × (Nat → Int64))
  | 0, _, _, _, _, _ => none
  | n + 1, l1, l3, l5, v_used, v_limbs =>
    (if v_used ≤ l5 then
(if (lg_cmp l3 0) ≤ 0 then
some (v_used, v_limbs)
      else
(if v_used < 0 ∨ 160 ≤ Int32.toNatClampNeg v_used then none else
some ((v_used + 1), (vp_updL v_limbs (Int32.toNatClampNeg v_used) l3))))
    else
(if l5 < 0 ∨ 160 ≤ Int32.toNatClampNeg l5 then none else
(if l5 < 0 ∨ 160 ≤ Int32.toNatClampNeg l5 then none else
f_X2_times_L5 n l1 ((l3 + ((v_limbs (Int32.toNatClampNeg l5)) * l1)) / 1000000000) (l5 + 1) v_used (vp_updL v_limbs (Int32.toNatClampNeg l5) ((l3 + ((v_limbs (Int32.toNatClampNeg l5)) * l1)) - (l3 + ((v_limbs (Int32.toNatClampNeg l5)) * l1)) / 1000000000 * 1000000000)))))
def f_X2_times (l1 : Int64) (v_used : Int32) (v_limbs : Nat → Int64) : Option ((Int32) × (Nat → Int64)) :=
    f_X2_times_L5 FU l1 0 0 v_used v_limbs

abbrev w_X2_row : List Cond := Cond.code yX2_row cX2_row 8 none :: wsL_law
abbrev wd_X2_row (a_this a_text a_d a_n a_power a_limbs : Nat) (c_d c_n c_power c_limbs : ClassId) (v_thrown : Int32) (v_size : Int32) (v_used : Int32) (v_at : Int32) (v_d : Nat → Int32) (v_n : Nat → Int32) (v_power : Nat → Int32) (v_limbs : Nat → Int64) : va_W := [(a_this, .inr (2, [.int v_thrown, .ref a_text, .int v_size, .ref a_d, .ref a_n, .ref a_power, .ref a_limbs, .int v_used, .int v_at])), (a_d, .inl (c_d, 7000, .inl v_d)), (a_n, .inl (c_n, 7000, .inl v_n)), (a_power, .inl (c_power, 7000, .inl v_power)), (a_limbs, .inl (c_limbs, 160, .inr (.inl v_limbs)))]
def f_X2_row_b243 (l4 : Int32) (s1 : Int32) (s2 : Int32) (s3 : Int32) (v_used : Int32) (v_d : Nat → Int32) (v_n : Nat → Int32) (v_power : Nat → Int32) (v_limbs : Nat → Int64) : Option ((Int32) × (Nat → Int32) × (Nat → Int32) × (Nat → Int32) × (Nat → Int64)) :=
    (if s1 < 0 ∨ 7000 ≤ Int32.toNatClampNeg s1 then none else
((f_X2_trim l4 v_d v_n (upd v_power (Int32.toNatClampNeg s1) (s2 + s3))).bind fun (v_d_248, v_n_248, v_power_248) =>
some (v_used, v_d_248, v_n_248, v_power_248, v_limbs)))
def f_X2_row_L176 (k : (Int32) → (Int32) → (Int32) → (Int32) → (Nat → Int32) → (Nat → Int32) → (Nat → Int32) → (Nat → Int64) → Option ((Int32) × (Nat → Int32) × (Nat → Int32) × (Nat → Int32) × (Nat → Int64))) : Nat → (Int32) → (Int32) → (Int32) → (Int64) → (Int32) → (Nat → Int32) → (Nat → Int32) → (Nat → Int32) → (Nat → Int64) → Option ((Int32) × (Nat → Int32) × (Nat → Int32) × (Nat → Int32) × (Nat → Int64))
  | 0, _, _, _, _, _, _, _, _, _ => none
  | n + 1, l3, l4, l5, l6, v_used, v_d, v_n, v_power, v_limbs =>
    (if (lg_cmp l6 0) ≤ 0 then
k l3 l4 (l5 + (-1)) v_used v_d v_n v_power v_limbs
    else
(if l5 < 0 ∨ 160 ≤ Int32.toNatClampNeg l5 then none else
(if l6 = 0 then none else
((f_X2_more l4 (Int64.toInt32 (((v_limbs (Int32.toNatClampNeg l5)) / l6) - ((v_limbs (Int32.toNatClampNeg l5)) / l6) / 10 * 10)) v_d v_n).bind fun (v_d_201, v_n_201) =>
f_X2_row_L176 k n l3 l4 l5 (l6 / 10) v_used v_d_201 v_n_201 v_power v_limbs))))
def f_X2_row_L166 : Nat → (Int32) → (Int32) → (Int32) → (Int32) → (Nat → Int32) → (Nat → Int32) → (Nat → Int32) → (Nat → Int64) → Option ((Int32) × (Nat → Int32) × (Nat → Int32) × (Nat → Int32) × (Nat → Int64))
  | 0, _, _, _, _, _, _, _, _ => none
  | n + 1, l3, l4, l5, v_used, v_d, v_n, v_power, v_limbs =>
    (if l5 < 0 then
(if l4 < 0 ∨ 7000 ≤ Int32.toNatClampNeg l4 then none else
(if 0 ≤ l3 then
f_X2_row_b243  l4 l4 (v_n (Int32.toNatClampNeg l4)) 0 v_used v_d v_n v_power v_limbs
      else
f_X2_row_b243  l4 l4 (v_n (Int32.toNatClampNeg l4)) l3 v_used v_d v_n v_power v_limbs))
    else
f_X2_row_L176 (f_X2_row_L166 n) FU l3 l4 l5 100000000 v_used v_d v_n v_power v_limbs)
def f_X2_row_L119 : Nat → (Int32) → (Int32) → (Int32) → (Int32) → (Nat → Int32) → (Nat → Int32) → (Nat → Int32) → (Nat → Int64) → Option ((Int32) × (Nat → Int32) × (Nat → Int32) × (Nat → Int32) × (Nat → Int64))
  | 0, _, _, _, _, _, _, _, _ => none
  | n + 1, l3, l4, l5, v_used, v_d, v_n, v_power, v_limbs =>
    (if 0 ≤ l3 then
(if 0 ≤ l5 then
(if l4 < 0 ∨ 7000 ≤ Int32.toNatClampNeg l4 then none else
f_X2_row_L166 FU l3 l4 (v_used - 1) v_used v_d (upd v_n (Int32.toNatClampNeg l4) 0) v_power v_limbs)
      else
((f_X2_times 5 v_used v_limbs).bind fun (v_used_141, v_limbs_141) =>
f_X2_row_L119 n l3 l4 (l5 + 1) v_used_141 v_d v_n v_power v_limbs_141))
    else
(if ((-l3) - (-l3) / 12 * 12) ≤ l5 then
(if l4 < 0 ∨ 7000 ≤ Int32.toNatClampNeg l4 then none else
f_X2_row_L166 FU l3 l4 (v_used - 1) v_used v_d (upd v_n (Int32.toNatClampNeg l4) 0) v_power v_limbs)
      else
((f_X2_times 5 v_used v_limbs).bind fun (v_used_141, v_limbs_141) =>
f_X2_row_L119 n l3 l4 (l5 + 1) v_used_141 v_d v_n v_power v_limbs_141)))
def f_X2_row_L93 : Nat → (Int32) → (Int32) → (Int32) → (Int32) → (Nat → Int32) → (Nat → Int32) → (Nat → Int32) → (Nat → Int64) → Option ((Int32) × (Nat → Int32) × (Nat → Int32) × (Nat → Int32) × (Nat → Int64))
  | 0, _, _, _, _, _, _, _, _ => none
  | n + 1, l3, l4, l5, v_used, v_d, v_n, v_power, v_limbs =>
    (if ((-l3) / 12) ≤ l5 then
f_X2_row_L119 FU l3 l4 0 v_used v_d v_n v_power v_limbs
    else
((f_X2_times 244140625 v_used v_limbs).bind fun (v_used_107, v_limbs_107) =>
f_X2_row_L93 n l3 l4 (l5 + 1) v_used_107 v_d v_n v_power v_limbs_107))
def f_X2_row_L54 : Nat → (Int32) → (Int32) → (Int32) → (Int32) → (Nat → Int32) → (Nat → Int32) → (Nat → Int32) → (Nat → Int64) → Option ((Int32) × (Nat → Int32) × (Nat → Int32) × (Nat → Int32) × (Nat → Int64))
  | 0, _, _, _, _, _, _, _, _ => none
  | n + 1, l3, l4, l5, v_used, v_d, v_n, v_power, v_limbs =>
    (if (l3 / 29) ≤ l5 then
(if l3 ≤ 0 then
f_X2_row_L93 FU l3 l4 0 v_used v_d v_n v_power v_limbs
      else
((f_X2_times (1 <<< (Int32.toInt64 (l3 - l3 / 29 * 29) &&& 63)) v_used v_limbs).bind fun (v_used_87, v_limbs_87) =>
f_X2_row_L93 FU l3 l4 0 v_used_87 v_d v_n v_power v_limbs_87))
    else
((f_X2_times 536870912 v_used v_limbs).bind fun (v_used_67, v_limbs_67) =>
f_X2_row_L54 n l3 l4 (l5 + 1) v_used_67 v_d v_n v_power v_limbs_67))
def f_X2_row_L8 : Nat → (Int32) → (Int32) → (Int64) → (Int32) → (Nat → Int32) → (Nat → Int32) → (Nat → Int32) → (Nat → Int64) → Option ((Int32) × (Nat → Int32) × (Nat → Int32) × (Nat → Int32) × (Nat → Int64))
  | 0, _, _, _, _, _, _, _, _ => none
  | n + 1, l3, l4, l5, v_used, v_d, v_n, v_power, v_limbs =>
    (if (lg_cmp l5 0) ≤ 0 then
f_X2_row_L54 FU l3 l4 0 v_used v_d v_n v_power v_limbs
    else
(if v_used < 0 ∨ 160 ≤ Int32.toNatClampNeg v_used then none else
f_X2_row_L8 n l3 l4 (l5 / 1000000000) (v_used + 1) v_d v_n v_power (vp_updL v_limbs (Int32.toNatClampNeg v_used) (l5 - l5 / 1000000000 * 1000000000))))
def f_X2_row (l1 : Int64) (l3 : Int32) (l4 : Int32) (v_used : Int32) (v_d : Nat → Int32) (v_n : Nat → Int32) (v_power : Nat → Int32) (v_limbs : Nat → Int64) : Option ((Int32) × (Nat → Int32) × (Nat → Int32) × (Nat → Int32) × (Nat → Int64)) :=
    f_X2_row_L8 FU l3 l4 l1 0 v_d v_n v_power v_limbs

abbrev w_X2_whole : List Cond := Cond.code yX2_whole cX2_whole 2 (some .long) :: wsL_law
def f_X2_whole (l0 : Int64) : Option ((Int64)) :=
    (if (lg_cmp ((Int64.toUInt64 l0 >>> (Int64.toUInt64 (Int32.toInt64 52) &&& Int64.toUInt64 63)).toInt64) 0) = 0 then
some l0
  else
some ((l0 &&& 4503599627370495) ||| 4503599627370496))

abbrev w_X2_two : List Cond := Cond.code yX2_two cX2_two 2 (some .int) :: wsL_law
def f_X2_two (l0 : Int64) : Option ((Int32)) :=
    (if (lg_cmp ((Int64.toUInt64 l0 >>> (Int64.toUInt64 (Int32.toInt64 52) &&& Int64.toUInt64 63)).toInt64) 0) = 0 then
some (-1074)
  else
some ((Int64.toInt32 ((Int64.toUInt64 l0 >>> (Int64.toUInt64 (Int32.toInt64 52) &&& Int64.toUInt64 63)).toInt64)) - 1075))

abbrev w_X2_rowOf : List Cond := Cond.code yX2_rowOf cX2_rowOf 4 none :: wsL_law
abbrev wd_X2_rowOf (a_this a_text a_d a_n a_power a_limbs : Nat) (c_d c_n c_power c_limbs : ClassId) (v_thrown : Int32) (v_size : Int32) (v_used : Int32) (v_at : Int32) (v_d : Nat → Int32) (v_n : Nat → Int32) (v_power : Nat → Int32) (v_limbs : Nat → Int64) : va_W := [(a_this, .inr (2, [.int v_thrown, .ref a_text, .int v_size, .ref a_d, .ref a_n, .ref a_power, .ref a_limbs, .int v_used, .int v_at])), (a_d, .inl (c_d, 7000, .inl v_d)), (a_n, .inl (c_n, 7000, .inl v_n)), (a_power, .inl (c_power, 7000, .inl v_power)), (a_limbs, .inl (c_limbs, 160, .inr (.inl v_limbs)))]
def f_X2_rowOf (l1 : Int64) (l3 : Int32) (v_used : Int32) (v_d : Nat → Int32) (v_n : Nat → Int32) (v_power : Nat → Int32) (v_limbs : Nat → Int64) : Option ((Int32) × (Nat → Int32) × (Nat → Int32) × (Nat → Int32) × (Nat → Int64)) :=
    ((f_X2_whole l1).bind fun r2 =>
((f_X2_two l1).bind fun r6 =>
((f_X2_row r2 r6 l3 v_used v_d v_n v_power v_limbs).bind fun (v_used_10, v_d_10, v_n_10, v_power_10, v_limbs_10) =>
some (v_used_10, v_d_10, v_n_10, v_power_10, v_limbs_10))))

abbrev w_X2_is : List Cond := Cond.code yX2_is cX2_is 2 (some .boolean) :: wsL_law
abbrev wd_X2_is (a_this a_text a_d a_n a_power a_limbs : Nat) (c_text : ClassId) (v_thrown : Int32) (v_size : Int32) (v_used : Int32) (v_at : Int32) (v_text : Nat → Int32) : va_W := [(a_this, .inr (2, [.int v_thrown, .ref a_text, .int v_size, .ref a_d, .ref a_n, .ref a_power, .ref a_limbs, .int v_used, .int v_at])), (a_text, .inl (c_text, 400, .inl v_text))]
def f_X2_is (l1 : Int32) (v_size : Int32) (v_at : Int32) (v_text : Nat → Int32) : Option ((Int32)) :=
    (if v_size ≤ v_at then
some 0
  else
(if v_at < 0 ∨ 400 ≤ Int32.toNatClampNeg v_at then none else
(if (v_text (Int32.toNatClampNeg v_at)) = l1 then
some 1
    else
some 0)))

abbrev w_X2_isDigit : List Cond := Cond.code yX2_isDigit cX2_isDigit 1 (some .boolean) :: wsL_law
abbrev wd_X2_isDigit (a_this a_text a_d a_n a_power a_limbs : Nat) (c_text : ClassId) (v_thrown : Int32) (v_size : Int32) (v_used : Int32) (v_at : Int32) (v_text : Nat → Int32) : va_W := [(a_this, .inr (2, [.int v_thrown, .ref a_text, .int v_size, .ref a_d, .ref a_n, .ref a_power, .ref a_limbs, .int v_used, .int v_at])), (a_text, .inl (c_text, 400, .inl v_text))]
def f_X2_isDigit (v_size : Int32) (v_at : Int32) (v_text : Nat → Int32) : Option ((Int32)) :=
    (if v_size ≤ v_at then
some 0
  else
(if v_at < 0 ∨ 400 ≤ Int32.toNatClampNeg v_at then none else
(if (v_text (Int32.toNatClampNeg v_at)) < 48 then
some 0
    else
(if v_at < 0 ∨ 400 ≤ Int32.toNatClampNeg v_at then none else
(if 57 < (v_text (Int32.toNatClampNeg v_at)) then
some 0
      else
some 1)))))

abbrev w_X2_parse : List Cond := Cond.code yX2_parse cX2_parse 4 (some .boolean) :: wsL_law
abbrev wd_X2_parse (a_this a_text a_d a_n a_power a_limbs : Nat) (c_text c_d c_n c_power : ClassId) (v_thrown : Int32) (v_size : Int32) (v_used : Int32) (v_at : Int32) (v_text : Nat → Int32) (v_d : Nat → Int32) (v_n : Nat → Int32) (v_power : Nat → Int32) : va_W := [(a_this, .inr (2, [.int v_thrown, .ref a_text, .int v_size, .ref a_d, .ref a_n, .ref a_power, .ref a_limbs, .int v_used, .int v_at])), (a_text, .inl (c_text, 400, .inl v_text)), (a_d, .inl (c_d, 7000, .inl v_d)), (a_n, .inl (c_n, 7000, .inl v_n)), (a_power, .inl (c_power, 7000, .inl v_power))]
def f_X2_parse_b261 (v_size : Int32) (v_at : Int32) (v_text : Nat → Int32) (v_d : Nat → Int32) (v_n : Nat → Int32) (v_power : Nat → Int32) : Option ((Int32) × (Int32) × (Nat → Int32) × (Nat → Int32) × (Nat → Int32)) :=
    ((f_X2_trim 0 v_d v_n v_power).bind fun (v_d_263, v_n_263, v_power_263) =>
(if v_at = v_size then
some (1, v_at, v_d_263, v_n_263, v_power_263)
  else
some (0, v_at, v_d_263, v_n_263, v_power_263)))
def f_X2_parse_b259 (s1 : Int32) (s2 : Int32) (s3 : Int32) (v_size : Int32) (v_at : Int32) (v_text : Nat → Int32) (v_d : Nat → Int32) (v_n : Nat → Int32) (v_power : Nat → Int32) : Option ((Int32) × (Int32) × (Nat → Int32) × (Nat → Int32) × (Nat → Int32)) :=
    (if s1 < 0 ∨ 7000 ≤ Int32.toNatClampNeg s1 then none else
f_X2_parse_b261  v_size v_at v_text v_d v_n (upd v_power (Int32.toNatClampNeg s1) (s2 + s3)))
def f_X2_parse_b232 (l1 : Int32) (l2 : Int32) (l3 : Int32) (v_size : Int32) (v_at : Int32) (v_text : Nat → Int32) (v_d : Nat → Int32) (v_n : Nat → Int32) (v_power : Nat → Int32) : Option ((Int32) × (Int32) × (Nat → Int32) × (Nat → Int32) × (Nat → Int32)) :=
    (if v_at = l2 then
some (0, v_at, v_d, v_n, v_power)
  else
(if l1 = 0 then
f_X2_parse_b259  0 (v_power (Int32.toNatClampNeg 0)) l3 v_size v_at v_text v_d v_n v_power
    else
f_X2_parse_b259  0 (v_power (Int32.toNatClampNeg 0)) (-l3) v_size v_at v_text v_d v_n v_power))
def f_X2_parse_L184 : Nat → (Int32) → (Int32) → (Int32) → (Int32) → (Int32) → (Nat → Int32) → (Nat → Int32) → (Nat → Int32) → (Nat → Int32) → Option ((Int32) × (Int32) × (Nat → Int32) × (Nat → Int32) × (Nat → Int32))
  | 0, _, _, _, _, _, _, _, _, _ => none
  | n + 1, l1, l2, l3, v_size, v_at, v_text, v_d, v_n, v_power =>
    ((f_X2_isDigit v_size v_at v_text).bind fun r185 =>
(if r185 = 0 then
f_X2_parse_b232  l1 l2 l3 v_size v_at v_text v_d v_n v_power
    else
(if 4 ≤ (v_at - l2) then
f_X2_parse_b232  l1 l2 l3 v_size v_at v_text v_d v_n v_power
      else
(if v_at < 0 ∨ 400 ≤ Int32.toNatClampNeg v_at then none else
f_X2_parse_L184 n l1 l2 (((10 * l3) + (v_text (Int32.toNatClampNeg v_at))) - 48) v_size (v_at + 1) v_text v_d v_n v_power))))
def f_X2_parse_b137 (v_size : Int32) (v_at : Int32) (v_text : Nat → Int32) (v_d : Nat → Int32) (v_n : Nat → Int32) (v_power : Nat → Int32) : Option ((Int32) × (Int32) × (Nat → Int32) × (Nat → Int32) × (Nat → Int32)) :=
    ((f_X2_is 101 v_size v_at v_text).bind fun r140 =>
(if r140 = 0 then
f_X2_parse_b261  v_size v_at v_text v_d v_n v_power
  else
((f_X2_is 45 v_size (v_at + 1) v_text).bind fun r159 =>
(if r159 = 0 then
f_X2_parse_L184 FU r159 (v_at + 1) 0 v_size (v_at + 1) v_text v_d v_n v_power
    else
f_X2_parse_L184 FU r159 ((v_at + 1) + 1) 0 v_size ((v_at + 1) + 1) v_text v_d v_n v_power))))
def f_X2_parse_L100 : Nat → (Int32) → (Int32) → (Nat → Int32) → (Nat → Int32) → (Nat → Int32) → (Nat → Int32) → Option ((Int32) × (Int32) × (Nat → Int32) × (Nat → Int32) × (Nat → Int32))
  | 0, _, _, _, _, _, _ => none
  | n + 1, v_size, v_at, v_text, v_d, v_n, v_power =>
    ((f_X2_isDigit v_size v_at v_text).bind fun r101 =>
(if r101 = 0 then
f_X2_parse_b137  v_size v_at v_text v_d v_n v_power
    else
(if v_at < 0 ∨ 400 ≤ Int32.toNatClampNeg v_at then none else
((f_X2_more 0 ((v_text (Int32.toNatClampNeg v_at)) - 48) v_d v_n).bind fun (v_d_121, v_n_121) =>
f_X2_parse_L100 n v_size (v_at + 1) v_text v_d_121 v_n_121 v_power))))
def f_X2_parse_L23 : Nat → (Int32) → (Int32) → (Nat → Int32) → (Nat → Int32) → (Nat → Int32) → (Nat → Int32) → Option ((Int32) × (Int32) × (Nat → Int32) × (Nat → Int32) × (Nat → Int32))
  | 0, _, _, _, _, _, _ => none
  | n + 1, v_size, v_at, v_text, v_d, v_n, v_power =>
    ((f_X2_isDigit v_size v_at v_text).bind fun r24 =>
(if r24 = 0 then
((f_X2_is 46 v_size v_at v_text).bind fun r75 =>
(if r75 = 0 then
f_X2_parse_b137  v_size v_at v_text v_d v_n (upd v_power (Int32.toNatClampNeg 0) (v_n (Int32.toNatClampNeg 0)))
      else
((f_X2_isDigit v_size (v_at + 1) v_text).bind fun r92 =>
(if r92 = 0 then
some (0, (v_at + 1), v_d, v_n, (upd v_power (Int32.toNatClampNeg 0) (v_n (Int32.toNatClampNeg 0))))
        else
f_X2_parse_L100 FU v_size (v_at + 1) v_text v_d v_n (upd v_power (Int32.toNatClampNeg 0) (v_n (Int32.toNatClampNeg 0)))))))
    else
(if v_at < 0 ∨ 400 ≤ Int32.toNatClampNeg v_at then none else
((f_X2_more 0 ((v_text (Int32.toNatClampNeg v_at)) - 48) v_d v_n).bind fun (v_d_44, v_n_44) =>
f_X2_parse_L23 n v_size (v_at + 1) v_text v_d_44 v_n_44 v_power))))
def f_X2_parse (v_size : Int32) (v_at : Int32) (v_text : Nat → Int32) (v_d : Nat → Int32) (v_n : Nat → Int32) (v_power : Nat → Int32) : Option ((Int32) × (Int32) × (Nat → Int32) × (Nat → Int32) × (Nat → Int32)) :=
    ((f_X2_isDigit v_size v_at v_text).bind fun r15 =>
(if r15 = 0 then
some (0, v_at, v_d, (upd v_n (Int32.toNatClampNeg 0) 0), (upd v_power (Int32.toNatClampNeg 0) 0))
  else
f_X2_parse_L23 FU v_size v_at v_text v_d (upd v_n (Int32.toNatClampNeg 0) 0) (upd v_power (Int32.toNatClampNeg 0) 0)))

abbrev w_X2_nearest : List Cond := Cond.code yX2_nearest cX2_nearest 7 (some .long) :: wsL_law
abbrev wd_X2_nearest (a_this a_text a_d a_n a_power a_limbs : Nat) (c_d c_n c_power c_limbs : ClassId) (v_thrown : Int32) (v_size : Int32) (v_used : Int32) (v_at : Int32) (v_d : Nat → Int32) (v_n : Nat → Int32) (v_power : Nat → Int32) (v_limbs : Nat → Int64) : va_W := [(a_this, .inr (2, [.int v_thrown, .ref a_text, .int v_size, .ref a_d, .ref a_n, .ref a_power, .ref a_limbs, .int v_used, .int v_at])), (a_d, .inl (c_d, 7000, .inl v_d)), (a_n, .inl (c_n, 7000, .inl v_n)), (a_power, .inl (c_power, 7000, .inl v_power)), (a_limbs, .inl (c_limbs, 160, .inr (.inl v_limbs)))]
def f_X2_nearest_L45 : Nat → (Int64) → (Int64) → (Int32) → (Nat → Int32) → (Nat → Int32) → (Nat → Int32) → (Nat → Int64) → Option ((Int64) × (Int32) × (Nat → Int32) × (Nat → Int32) × (Nat → Int32) × (Nat → Int64))
  | 0, _, _, _, _, _, _, _ => none
  | n + 1, l1, l3, v_used, v_d, v_n, v_power, v_limbs =>
    (if 0 ≤ (lg_cmp l1 l3) then
((f_X2_whole l1).bind fun r103 =>
((f_X2_two l1).bind fun r110 =>
((f_X2_row ((2 * r103) + 1) (r110 - 1) 5600 v_used v_d v_n v_power v_limbs).bind fun (v_used_118, v_d_118, v_n_118, v_power_118, v_limbs_118) =>
((f_X2_against 0 5600 v_d_118 v_n_118 v_power_118).bind fun r126 =>
(if r126 < 0 then
some (l1, v_used_118, v_d_118, v_n_118, v_power_118, v_limbs_118)
      else
(if r126 = 0 then
(if (lg_cmp (l1 - l1 / 2 * 2) 0) = 0 then
some (l1, v_used_118, v_d_118, v_n_118, v_power_118, v_limbs_118)
          else
some ((l1 + 1), v_used_118, v_d_118, v_n_118, v_power_118, v_limbs_118))
        else
some ((l1 + 1), v_used_118, v_d_118, v_n_118, v_power_118, v_limbs_118)))))))
    else
((f_X2_rowOf (l1 + (((l3 - l1) + 1) / 2)) 1400 v_used v_d v_n v_power v_limbs).bind fun (v_used_70, v_d_70, v_n_70, v_power_70, v_limbs_70) =>
((f_X2_against 0 1400 v_d_70 v_n_70 v_power_70).bind fun r78 =>
(if r78 < 0 then
f_X2_nearest_L45 n l1 ((l1 + (((l3 - l1) + 1) / 2)) - 1) v_used_70 v_d_70 v_n_70 v_power_70 v_limbs_70
      else
f_X2_nearest_L45 n (l1 + (((l3 - l1) + 1) / 2)) l3 v_used_70 v_d_70 v_n_70 v_power_70 v_limbs_70))))
def f_X2_nearest (v_used : Int32) (v_d : Nat → Int32) (v_n : Nat → Int32) (v_power : Nat → Int32) (v_limbs : Nat → Int64) : Option ((Int64) × (Int32) × (Nat → Int32) × (Nat → Int32) × (Nat → Int32) × (Nat → Int64)) :=
    (if (v_n (Int32.toNatClampNeg 0)) = 0 then
some (0, v_used, v_d, v_n, v_power, v_limbs)
  else
(if (-400) ≤ (v_power (Int32.toNatClampNeg 0)) then
(if (v_power (Int32.toNatClampNeg 0)) ≤ 400 then
f_X2_nearest_L45 FU 0 9218868437227405311 v_used v_d v_n v_power v_limbs
      else
some (9218868437227405312, v_used, v_d, v_n, v_power, v_limbs))
    else
some (0, v_used, v_d, v_n, v_power, v_limbs)))

abbrev w_X2_read : List Cond := Cond.code yX2_read cX2_read 2 (some .long) :: wsL_law
abbrev wd_X2_read (a_this a_text a_d a_n a_power a_limbs : Nat) (c_text c_d c_n c_power c_limbs : ClassId) (v_thrown : Int32) (v_size : Int32) (v_used : Int32) (v_at : Int32) (v_text : Nat → Int32) (v_d : Nat → Int32) (v_n : Nat → Int32) (v_power : Nat → Int32) (v_limbs : Nat → Int64) : va_W := [(a_this, .inr (2, [.int v_thrown, .ref a_text, .int v_size, .ref a_d, .ref a_n, .ref a_power, .ref a_limbs, .int v_used, .int v_at])), (a_text, .inl (c_text, 400, .inl v_text)), (a_d, .inl (c_d, 7000, .inl v_d)), (a_n, .inl (c_n, 7000, .inl v_n)), (a_power, .inl (c_power, 7000, .inl v_power)), (a_limbs, .inl (c_limbs, 160, .inr (.inl v_limbs)))]
def f_X2_read_b39 (l1 : Int32) (s1 : Int32) (v_thrown : Int32) (v_size : Int32) (v_used : Int32) (v_at : Int32) (v_text : Nat → Int32) (v_d : Nat → Int32) (v_n : Nat → Int32) (v_power : Nat → Int32) (v_limbs : Nat → Int64) : Option ((Int64) × (Int32) × (Int32) × (Int32) × (Nat → Int32) × (Nat → Int32) × (Nat → Int32) × (Nat → Int64)) :=
    (if s1 = 0 then
((f_X2_nearest v_used v_d v_n v_power v_limbs).bind fun (r52, v_used_52, v_d_52, v_n_52, v_power_52, v_limbs_52) =>
(if l1 = 0 then
some ((r52 ||| 0), s1, v_used_52, v_at, v_d_52, v_n_52, v_power_52, v_limbs_52)
    else
some ((r52 ||| (-9223372036854775808)), s1, v_used_52, v_at, v_d_52, v_n_52, v_power_52, v_limbs_52)))
  else
some (0, s1, v_used, v_at, v_d, v_n, v_power, v_limbs))
def f_X2_read_b26 (l1 : Int32) (v_thrown : Int32) (v_size : Int32) (v_used : Int32) (v_at : Int32) (v_text : Nat → Int32) (v_d : Nat → Int32) (v_n : Nat → Int32) (v_power : Nat → Int32) (v_limbs : Nat → Int64) : Option ((Int64) × (Int32) × (Int32) × (Int32) × (Nat → Int32) × (Nat → Int32) × (Nat → Int32) × (Nat → Int64)) :=
    ((f_X2_parse v_size v_at v_text v_d v_n v_power).bind fun (r28, v_at_28, v_d_28, v_n_28, v_power_28) =>
(if r28 = 0 then
f_X2_read_b39  l1 1 v_thrown v_size v_used v_at_28 v_text v_d_28 v_n_28 v_power_28 v_limbs
  else
f_X2_read_b39  l1 0 v_thrown v_size v_used v_at_28 v_text v_d_28 v_n_28 v_power_28 v_limbs))
def f_X2_read (v_thrown : Int32) (v_size : Int32) (v_used : Int32) (v_at : Int32) (v_text : Nat → Int32) (v_d : Nat → Int32) (v_n : Nat → Int32) (v_power : Nat → Int32) (v_limbs : Nat → Int64) : Option ((Int64) × (Int32) × (Int32) × (Int32) × (Nat → Int32) × (Nat → Int32) × (Nat → Int32) × (Nat → Int64)) :=
    ((f_X2_is 45 v_size 0 v_text).bind fun r8 =>
(if r8 = 0 then
f_X2_read_b26  r8 v_thrown v_size v_used 0 v_text v_d v_n v_power v_limbs
  else
f_X2_read_b26  r8 v_thrown v_size v_used (0 + 1) v_text v_d v_n v_power v_limbs))

abbrev w_X2_put : List Cond := Cond.code yX2_put cX2_put 2 none :: wsL_law
abbrev wd_X2_put (a_this a_text a_d a_n a_power a_limbs : Nat) (c_text : ClassId) (v_thrown : Int32) (v_size : Int32) (v_used : Int32) (v_at : Int32) (v_text : Nat → Int32) : va_W := [(a_this, .inr (2, [.int v_thrown, .ref a_text, .int v_size, .ref a_d, .ref a_n, .ref a_power, .ref a_limbs, .int v_used, .int v_at])), (a_text, .inl (c_text, 400, .inl v_text))]
def f_X2_put (l1 : Int32) (v_size : Int32) (v_text : Nat → Int32) : Option ((Int32) × (Nat → Int32)) :=
    (if v_size < 0 ∨ 400 ≤ Int32.toNatClampNeg v_size then none else
some ((v_size + 1), (upd v_text (Int32.toNatClampNeg v_size) l1)))

abbrev w_X2_begins : List Cond := Cond.code yX2_begins cX2_begins 3 (some .boolean) :: wsL_law
abbrev wd_X2_begins (a_this a_text a_d a_n a_power a_limbs : Nat) (c_text : ClassId) (v_thrown : Int32) (v_size : Int32) (v_used : Int32) (v_at : Int32) (v_text : Nat → Int32) : va_W := [(a_this, .inr (2, [.int v_thrown, .ref a_text, .int v_size, .ref a_d, .ref a_n, .ref a_power, .ref a_limbs, .int v_used, .int v_at])), (a_text, .inl (c_text, 400, .inl v_text))]
def f_X2_begins (l1 : Int64) (v_size : Int32) (v_text : Nat → Int32) : Option ((Int32) × (Int32) × (Nat → Int32)) :=
    (if (lg_cmp (l1 &&& 9218868437227405312) 9218868437227405312) = 0 then
some (0, v_size, v_text)
  else
(if 0 ≤ (lg_cmp l1 0) then
some (1, 0, v_text)
    else
((f_X2_put 45 0 v_text).bind fun (v_size_28, v_text_28) =>
some (1, v_size_28, v_text_28))))

abbrev w_X2_print : List Cond := Cond.code yX2_print cX2_print 5 (some .int) :: wsL_law
abbrev wd_X2_print (a_this a_text a_d a_n a_power a_limbs : Nat) (c_text c_d c_n c_power c_limbs : ClassId) (v_thrown : Int32) (v_size : Int32) (v_used : Int32) (v_at : Int32) (v_text : Nat → Int32) (v_d : Nat → Int32) (v_n : Nat → Int32) (v_power : Nat → Int32) (v_limbs : Nat → Int64) : va_W := [(a_this, .inr (2, [.int v_thrown, .ref a_text, .int v_size, .ref a_d, .ref a_n, .ref a_power, .ref a_limbs, .int v_used, .int v_at])), (a_text, .inl (c_text, 400, .inl v_text)), (a_d, .inl (c_d, 7000, .inl v_d)), (a_n, .inl (c_n, 7000, .inl v_n)), (a_power, .inl (c_power, 7000, .inl v_power)), (a_limbs, .inl (c_limbs, 160, .inr (.inl v_limbs)))]
def f_X2_print_L146 : Nat → (Int32) → (Int32) → (Int32) → (Int32) → (Int32) → (Nat → Int32) → (Nat → Int32) → (Nat → Int32) → (Nat → Int32) → (Nat → Int64) → Option ((Int32) × (Int32) × (Int32) × (Int32) × (Nat → Int32) × (Nat → Int32) × (Nat → Int32) × (Nat → Int32) × (Nat → Int64))
  | 0, _, _, _, _, _, _, _, _, _, _ => none
  | n + 1, l3, l4, v_thrown, v_size, v_used, v_text, v_d, v_n, v_power, v_limbs =>
    (if l3 ≤ l4 then
some (v_size, v_thrown, v_size, v_used, v_text, v_d, v_n, v_power, v_limbs)
    else
((f_X2_digit 2800 ((v_power (Int32.toNatClampNeg 2800)) + l4) v_d v_n).bind fun r170 =>
((f_X2_put (48 + r170) v_size v_text).bind fun (v_size_174, v_text_174) =>
f_X2_print_L146 n l3 (l4 + 1) v_thrown v_size_174 v_used v_text_174 v_d v_n v_power v_limbs)))
def f_X2_print_b133 (l3 : Int32) (v_thrown : Int32) (v_size : Int32) (v_used : Int32) (v_text : Nat → Int32) (v_d : Nat → Int32) (v_n : Nat → Int32) (v_power : Nat → Int32) (v_limbs : Nat → Int64) : Option ((Int32) × (Int32) × (Int32) × (Int32) × (Nat → Int32) × (Nat → Int32) × (Nat → Int32) × (Nat → Int32) × (Nat → Int64)) :=
    (if l3 ≤ 0 then
f_X2_print_L146 FU l3 0 v_thrown v_size v_used v_text v_d v_n v_power v_limbs
  else
((f_X2_put 46 v_size v_text).bind fun (v_size_140, v_text_140) =>
f_X2_print_L146 FU l3 0 v_thrown v_size_140 v_used v_text_140 v_d v_n v_power v_limbs))
def f_X2_print_L81 : Nat → (Int32) → (Int32) → (Int32) → (Int32) → (Int32) → (Nat → Int32) → (Nat → Int32) → (Nat → Int32) → (Nat → Int32) → (Nat → Int64) → Option ((Int32) × (Int32) × (Int32) × (Int32) × (Nat → Int32) × (Nat → Int32) × (Nat → Int32) × (Nat → Int32) × (Nat → Int64))
  | 0, _, _, _, _, _, _, _, _, _, _ => none
  | n + 1, l3, l4, v_thrown, v_size, v_used, v_text, v_d, v_n, v_power, v_limbs =>
    (if (v_power (Int32.toNatClampNeg 2800)) ≤ l4 then
(if 0 < (v_power (Int32.toNatClampNeg 2800)) then
f_X2_print_b133  l3 v_thrown v_size v_used v_text v_d v_n v_power v_limbs
      else
((f_X2_put 48 v_size v_text).bind fun (v_size_130, v_text_130) =>
f_X2_print_b133  l3 v_thrown v_size_130 v_used v_text_130 v_d v_n v_power v_limbs))
    else
((f_X2_digit 2800 l4 v_d v_n).bind fun r103 =>
((f_X2_put (48 + r103) v_size v_text).bind fun (v_size_107, v_text_107) =>
f_X2_print_L81 n l3 (l4 + 1) v_thrown v_size_107 v_used v_text_107 v_d v_n v_power v_limbs)))
def f_X2_print_b32 (l1 : Int64) (l3 : Int32) (s1 : Int32) (v_thrown : Int32) (v_size : Int32) (v_used : Int32) (v_text : Nat → Int32) (v_d : Nat → Int32) (v_n : Nat → Int32) (v_power : Nat → Int32) (v_limbs : Nat → Int64) : Option ((Int32) × (Int32) × (Int32) × (Int32) × (Nat → Int32) × (Nat → Int32) × (Nat → Int32) × (Nat → Int32) × (Nat → Int64)) :=
    (if s1 = 0 then
((f_X2_begins l1 v_size v_text).bind fun (r44, v_size_44, v_text_44) =>
(if r44 = 0 then
some (0, s1, v_size_44, v_used, v_text_44, v_d, v_n, v_power, v_limbs)
    else
((f_X2_rowOf (l1 &&& 9223372036854775807) 1400 v_used v_d v_n v_power v_limbs).bind fun (v_used_61, v_d_61, v_n_61, v_power_61, v_limbs_61) =>
((f_X2_round ((v_power_61 (Int32.toNatClampNeg 1400)) + l3) v_d_61 v_n_61 v_power_61).bind fun (v_d_75, v_n_75, v_power_75) =>
f_X2_print_L81 FU l3 0 s1 v_size_44 v_used_61 v_text_44 v_d_75 v_n_75 v_power_75 v_limbs_61))))
  else
some (0, s1, v_size, v_used, v_text, v_d, v_n, v_power, v_limbs))
def f_X2_print_b11 (l1 : Int64) (l3 : Int32) (v_thrown : Int32) (v_size : Int32) (v_used : Int32) (v_text : Nat → Int32) (v_d : Nat → Int32) (v_n : Nat → Int32) (v_power : Nat → Int32) (v_limbs : Nat → Int64) : Option ((Int32) × (Int32) × (Int32) × (Int32) × (Nat → Int32) × (Nat → Int32) × (Nat → Int32) × (Nat → Int32) × (Nat → Int64)) :=
    f_X2_print_b32  l1 l3 1 v_thrown v_size v_used v_text v_d v_n v_power v_limbs
def f_X2_print (l1 : Int64) (l3 : Int32) (v_thrown : Int32) (v_size : Int32) (v_used : Int32) (v_text : Nat → Int32) (v_d : Nat → Int32) (v_n : Nat → Int32) (v_power : Nat → Int32) (v_limbs : Nat → Int64) : Option ((Int32) × (Int32) × (Int32) × (Int32) × (Nat → Int32) × (Nat → Int32) × (Nat → Int32) × (Nat → Int32) × (Nat → Int64)) :=
    (if l3 < 0 then
f_X2_print_b11  l1 l3 v_thrown v_size v_used v_text v_d v_n v_power v_limbs
  else
(if l3 ≤ 30 then
(if (lg_cmp (l1 &&& 9218868437227405312) 9218868437227405312) = 0 then
f_X2_print_b32  l1 l3 2 v_thrown v_size v_used v_text v_d v_n v_power v_limbs
      else
f_X2_print_b32  l1 l3 0 v_thrown v_size v_used v_text v_d v_n v_power v_limbs)
    else
f_X2_print_b11  l1 l3 v_thrown v_size v_used v_text v_d v_n v_power v_limbs))

abbrev w_X2_readsAsIt : List Cond := Cond.code yX2_readsAsIt cX2_readsAsIt 5 (some .boolean) :: wsL_law
abbrev wd_X2_readsAsIt (a_this a_text a_d a_n a_power a_limbs : Nat) (c_d c_n c_power : ClassId) (v_thrown : Int32) (v_size : Int32) (v_used : Int32) (v_at : Int32) (v_d : Nat → Int32) (v_n : Nat → Int32) (v_power : Nat → Int32) : va_W := [(a_this, .inr (2, [.int v_thrown, .ref a_text, .int v_size, .ref a_d, .ref a_n, .ref a_power, .ref a_limbs, .int v_used, .int v_at])), (a_d, .inl (c_d, 7000, .inl v_d)), (a_n, .inl (c_n, 7000, .inl v_n)), (a_power, .inl (c_power, 7000, .inl v_power))]
def f_X2_readsAsIt_b40 (l2 : Int32) (l4 : Int32) (v_d : Nat → Int32) (v_n : Nat → Int32) (v_power : Nat → Int32) : Option ((Int32) × (Nat → Int32) × (Nat → Int32) × (Nat → Int32)) :=
    (if l4 < 0 then
some (1, v_d, v_n, v_power)
  else
(if l4 = 0 then
(if l2 = 0 then
some (0, v_d, v_n, v_power)
      else
some (1, v_d, v_n, v_power))
    else
some (0, v_d, v_n, v_power)))
def f_X2_readsAsIt (l1 : Int32) (l2 : Int32) (v_d : Nat → Int32) (v_n : Nat → Int32) (v_power : Nat → Int32) : Option ((Int32) × (Nat → Int32) × (Nat → Int32) × (Nat → Int32)) :=
    ((f_X2_round l1 v_d v_n v_power).bind fun (v_d_2, v_n_2, v_power_2) =>
((f_X2_against 2800 4200 v_d_2 v_n_2 v_power_2).bind fun r12 =>
((f_X2_against 2800 5600 v_d_2 v_n_2 v_power_2).bind fun r23 =>
(if 0 < r12 then
f_X2_readsAsIt_b40  l2 r23 v_d_2 v_n_2 v_power_2
  else
(if r12 = 0 then
(if l2 = 0 then
some (0, v_d_2, v_n_2, v_power_2)
      else
f_X2_readsAsIt_b40  l2 r23 v_d_2 v_n_2 v_power_2)
    else
some (0, v_d_2, v_n_2, v_power_2))))))

abbrev w_X2_shortest : List Cond := Cond.code yX2_shortest cX2_shortest 10 (some .int) :: wsL_law
abbrev wd_X2_shortest (a_this a_text a_d a_n a_power a_limbs : Nat) (c_text c_d c_n c_power c_limbs : ClassId) (v_thrown : Int32) (v_size : Int32) (v_used : Int32) (v_at : Int32) (v_text : Nat → Int32) (v_d : Nat → Int32) (v_n : Nat → Int32) (v_power : Nat → Int32) (v_limbs : Nat → Int64) : va_W := [(a_this, .inr (2, [.int v_thrown, .ref a_text, .int v_size, .ref a_d, .ref a_n, .ref a_power, .ref a_limbs, .int v_used, .int v_at])), (a_text, .inl (c_text, 400, .inl v_text)), (a_d, .inl (c_d, 7000, .inl v_d)), (a_n, .inl (c_n, 7000, .inl v_n)), (a_power, .inl (c_power, 7000, .inl v_power)), (a_limbs, .inl (c_limbs, 160, .inr (.inl v_limbs)))]
def f_X2_shortest_L308 : Nat → (Int32) → (Int32) → (Int32) → (Int32) → (Int32) → (Nat → Int32) → (Nat → Int32) → (Nat → Int32) → (Nat → Int32) → (Nat → Int64) → Option ((Int32) × (Int32) × (Int32) × (Int32) × (Nat → Int32) × (Nat → Int32) × (Nat → Int32) × (Nat → Int32) × (Nat → Int64))
  | 0, _, _, _, _, _, _, _, _, _, _ => none
  | n + 1, l8, l9, v_thrown, v_size, v_used, v_text, v_d, v_n, v_power, v_limbs =>
    (if l9 ≤ 0 then
some (v_size, v_thrown, v_size, v_used, v_text, v_d, v_n, v_power, v_limbs)
    else
(if l9 ≤ l8 then
(if l9 = 0 then none else
((f_X2_put (48 + ((l8 / l9) - (l8 / l9) / 10 * 10)) v_size v_text).bind fun (v_size_338, v_text_338) =>
f_X2_shortest_L308 n l8 (l9 / 10) v_thrown v_size_338 v_used v_text_338 v_d v_n v_power v_limbs))
      else
(if l9 = 1 then
(if l9 = 0 then none else
((f_X2_put (48 + ((l8 / l9) - (l8 / l9) / 10 * 10)) v_size v_text).bind fun (v_size_338, v_text_338) =>
f_X2_shortest_L308 n l8 (l9 / 10) v_thrown v_size_338 v_used v_text_338 v_d v_n v_power v_limbs))
        else
f_X2_shortest_L308 n l8 (l9 / 10) v_thrown v_size v_used v_text v_d v_n v_power v_limbs)))
def f_X2_shortest_b289 (l7 : Int32) (v_thrown : Int32) (v_size : Int32) (v_used : Int32) (v_text : Nat → Int32) (v_d : Nat → Int32) (v_n : Nat → Int32) (v_power : Nat → Int32) (v_limbs : Nat → Int64) : Option ((Int32) × (Int32) × (Int32) × (Int32) × (Nat → Int32) × (Nat → Int32) × (Nat → Int32) × (Nat → Int32) × (Nat → Int64)) :=
    (if 0 ≤ l7 then
f_X2_shortest_L308 FU l7 100 v_thrown v_size v_used v_text v_d v_n v_power v_limbs
  else
f_X2_shortest_L308 FU (-l7) 100 v_thrown v_size v_used v_text v_d v_n v_power v_limbs)
def f_X2_shortest_L231 : Nat → (Int32) → (Int32) → (Int32) → (Int32) → (Int32) → (Nat → Int32) → (Nat → Int32) → (Nat → Int32) → (Nat → Int32) → (Nat → Int64) → Option ((Int32) × (Int32) × (Int32) × (Int32) × (Nat → Int32) × (Nat → Int32) × (Nat → Int32) × (Nat → Int32) × (Nat → Int64))
  | 0, _, _, _, _, _, _, _, _, _, _ => none
  | n + 1, l6, l7, v_thrown, v_size, v_used, v_text, v_d, v_n, v_power, v_limbs =>
    (if l6 ≤ l7 then
((f_X2_put 101 v_size v_text).bind fun (v_size_263, v_text_263) =>
(if 0 ≤ ((v_power (Int32.toNatClampNeg 2800)) - 1) then
f_X2_shortest_b289  ((v_power (Int32.toNatClampNeg 2800)) - 1) v_thrown v_size_263 v_used v_text_263 v_d v_n v_power v_limbs
      else
((f_X2_put 45 v_size_263 v_text_263).bind fun (v_size_286, v_text_286) =>
f_X2_shortest_b289  ((v_power (Int32.toNatClampNeg 2800)) - 1) v_thrown v_size_286 v_used v_text_286 v_d v_n v_power v_limbs)))
    else
((f_X2_digit 2800 l7 v_d v_n).bind fun r247 =>
((f_X2_put (48 + r247) v_size v_text).bind fun (v_size_251, v_text_251) =>
f_X2_shortest_L231 n l6 (l7 + 1) v_thrown v_size_251 v_used v_text_251 v_d v_n v_power v_limbs)))
def f_X2_shortest_L171 : Nat → (Int64) → (Int32) → (Int32) → (Int32) → (Int32) → (Nat → Int32) → (Nat → Int32) → (Nat → Int32) → (Nat → Int32) → (Nat → Int64) → Option ((Int32) × (Int32) × (Int32) × (Int32) × (Nat → Int32) × (Nat → Int32) × (Nat → Int32) × (Nat → Int32) × (Nat → Int64))
  | 0, _, _, _, _, _, _, _, _, _, _ => none
  | n + 1, l3, l6, v_thrown, v_size, v_used, v_text, v_d, v_n, v_power, v_limbs =>
    (if (lg_cmp (l3 - l3 / 2 * 2) 0) = 0 then
((f_X2_readsAsIt l6 1 v_d v_n v_power).bind fun (r189, v_d_189, v_n_189, v_power_189) =>
(if r189 = 0 then
f_X2_shortest_L171 n l3 (l6 + 1) v_thrown v_size v_used v_text v_d_189 v_n_189 v_power_189 v_limbs
      else
((f_X2_digit 2800 0 v_d_189 v_n_189).bind fun r209 =>
((f_X2_put (48 + r209) v_size v_text).bind fun (v_size_213, v_text_213) =>
(if l6 ≤ 1 then
f_X2_shortest_L231 FU l6 1 v_thrown v_size_213 v_used v_text_213 v_d_189 v_n_189 v_power_189 v_limbs
        else
((f_X2_put 46 v_size_213 v_text_213).bind fun (v_size_225, v_text_225) =>
f_X2_shortest_L231 FU l6 1 v_thrown v_size_225 v_used v_text_225 v_d_189 v_n_189 v_power_189 v_limbs))))))
    else
((f_X2_readsAsIt l6 0 v_d v_n v_power).bind fun (r189, v_d_189, v_n_189, v_power_189) =>
(if r189 = 0 then
f_X2_shortest_L171 n l3 (l6 + 1) v_thrown v_size v_used v_text v_d_189 v_n_189 v_power_189 v_limbs
      else
((f_X2_digit 2800 0 v_d_189 v_n_189).bind fun r209 =>
((f_X2_put (48 + r209) v_size v_text).bind fun (v_size_213, v_text_213) =>
(if l6 ≤ 1 then
f_X2_shortest_L231 FU l6 1 v_thrown v_size_213 v_used v_text_213 v_d_189 v_n_189 v_power_189 v_limbs
        else
((f_X2_put 46 v_size_213 v_text_213).bind fun (v_size_225, v_text_225) =>
f_X2_shortest_L231 FU l6 1 v_thrown v_size_225 v_used v_text_225 v_d_189 v_n_189 v_power_189 v_limbs)))))))
def f_X2_shortest_b138 (l3 : Int64) (s1 : Int64) (s2 : Int32) (s3 : Int32) (v_thrown : Int32) (v_size : Int32) (v_used : Int32) (v_text : Nat → Int32) (v_d : Nat → Int32) (v_n : Nat → Int32) (v_power : Nat → Int32) (v_limbs : Nat → Int64) : Option ((Int32) × (Int32) × (Int32) × (Int32) × (Nat → Int32) × (Nat → Int32) × (Nat → Int32) × (Nat → Int32) × (Nat → Int64)) :=
    ((f_X2_row s1 (s2 - s3) 4200 v_used v_d v_n v_power v_limbs).bind fun (v_used_142, v_d_142, v_n_142, v_power_142, v_limbs_142) =>
((f_X2_whole l3).bind fun r150 =>
((f_X2_two l3).bind fun r157 =>
((f_X2_row ((2 * r150) + 1) (r157 - 1) 5600 v_used_142 v_d_142 v_n_142 v_power_142 v_limbs_142).bind fun (v_used_165, v_d_165, v_n_165, v_power_165, v_limbs_165) =>
f_X2_shortest_L171 FU l3 1 v_thrown v_size v_used_165 v_text v_d_165 v_n_165 v_power_165 v_limbs_165))))
def f_X2_shortest_b124 (l3 : Int64) (l5 : Int32) (s1 : Int64) (v_thrown : Int32) (v_size : Int32) (v_used : Int32) (v_text : Nat → Int32) (v_d : Nat → Int32) (v_n : Nat → Int32) (v_power : Nat → Int32) (v_limbs : Nat → Int64) : Option ((Int32) × (Int32) × (Int32) × (Int32) × (Nat → Int32) × (Nat → Int32) × (Nat → Int32) × (Nat → Int32) × (Nat → Int64)) :=
    ((f_X2_two l3).bind fun r125 =>
(if l5 = 0 then
f_X2_shortest_b138  l3 s1 r125 1 v_thrown v_size v_used v_text v_d v_n v_power v_limbs
  else
f_X2_shortest_b138  l3 s1 r125 2 v_thrown v_size v_used v_text v_d v_n v_power v_limbs))
def f_X2_shortest_b93 (l3 : Int64) (s0 : Int32) (v_thrown : Int32) (v_size : Int32) (v_used : Int32) (v_text : Nat → Int32) (v_d : Nat → Int32) (v_n : Nat → Int32) (v_power : Nat → Int32) (v_limbs : Nat → Int64) : Option ((Int32) × (Int32) × (Int32) × (Int32) × (Nat → Int32) × (Nat → Int32) × (Nat → Int32) × (Nat → Int32) × (Nat → Int64)) :=
    (if s0 = 0 then
((f_X2_whole l3).bind fun r118 =>
f_X2_shortest_b124  l3 s0 ((2 * r118) - 1) v_thrown v_size v_used v_text v_d v_n v_power v_limbs)
  else
((f_X2_whole l3).bind fun r105 =>
f_X2_shortest_b124  l3 s0 ((4 * r105) - 1) v_thrown v_size v_used v_text v_d v_n v_power v_limbs))
def f_X2_shortest_b92 (l3 : Int64) (v_thrown : Int32) (v_size : Int32) (v_used : Int32) (v_text : Nat → Int32) (v_d : Nat → Int32) (v_n : Nat → Int32) (v_power : Nat → Int32) (v_limbs : Nat → Int64) : Option ((Int32) × (Int32) × (Int32) × (Int32) × (Nat → Int32) × (Nat → Int32) × (Nat → Int32) × (Nat → Int32) × (Nat → Int64)) :=
    f_X2_shortest_b93  l3 0 v_thrown v_size v_used v_text v_d v_n v_power v_limbs
def f_X2_shortest_b14 (l1 : Int64) (s1 : Int32) (v_thrown : Int32) (v_size : Int32) (v_used : Int32) (v_text : Nat → Int32) (v_d : Nat → Int32) (v_n : Nat → Int32) (v_power : Nat → Int32) (v_limbs : Nat → Int64) : Option ((Int32) × (Int32) × (Int32) × (Int32) × (Nat → Int32) × (Nat → Int32) × (Nat → Int32) × (Nat → Int32) × (Nat → Int64)) :=
    (if s1 = 0 then
(if (lg_cmp (l1 &&& 9223372036854775807) 0) = 0 then
((f_X2_put 48 v_size v_text).bind fun (v_size_41, v_text_41) =>
((f_X2_put 101 v_size_41 v_text_41).bind fun (v_size_47, v_text_47) =>
((f_X2_put 48 v_size_47 v_text_47).bind fun (v_size_53, v_text_53) =>
some (v_size_53, s1, v_size_53, v_used, v_text_53, v_d, v_n, v_power, v_limbs))))
    else
((f_X2_rowOf (l1 &&& 9223372036854775807) 1400 v_used v_d v_n v_power v_limbs).bind fun (v_used_66, v_d_66, v_n_66, v_power_66, v_limbs_66) =>
(if (lg_cmp ((l1 &&& 9223372036854775807) &&& 4503599627370495) 0) = 0 then
(if (lg_cmp ((Int64.toUInt64 (l1 &&& 9223372036854775807) >>> (Int64.toUInt64 (Int32.toInt64 52) &&& Int64.toUInt64 63)).toInt64) 1) ≤ 0 then
f_X2_shortest_b92  (l1 &&& 9223372036854775807) s1 v_size v_used_66 v_text v_d_66 v_n_66 v_power_66 v_limbs_66
        else
f_X2_shortest_b93  (l1 &&& 9223372036854775807) 1 s1 v_size v_used_66 v_text v_d_66 v_n_66 v_power_66 v_limbs_66)
      else
f_X2_shortest_b92  (l1 &&& 9223372036854775807) s1 v_size v_used_66 v_text v_d_66 v_n_66 v_power_66 v_limbs_66)))
  else
some (0, s1, v_size, v_used, v_text, v_d, v_n, v_power, v_limbs))
def f_X2_shortest (l1 : Int64) (v_thrown : Int32) (v_size : Int32) (v_used : Int32) (v_text : Nat → Int32) (v_d : Nat → Int32) (v_n : Nat → Int32) (v_power : Nat → Int32) (v_limbs : Nat → Int64) : Option ((Int32) × (Int32) × (Int32) × (Int32) × (Nat → Int32) × (Nat → Int32) × (Nat → Int32) × (Nat → Int32) × (Nat → Int64)) :=
    ((f_X2_begins l1 v_size v_text).bind fun (r3, v_size_3, v_text_3) =>
(if r3 = 0 then
f_X2_shortest_b14  l1 1 v_thrown v_size_3 v_used v_text_3 v_d v_n v_power v_limbs
  else
f_X2_shortest_b14  l1 0 v_thrown v_size_3 v_used v_text_3 v_d v_n v_power v_limbs))

abbrev w_X2_letter : List Cond := Cond.code yX2_letter cX2_letter 2 (some .int) :: wsL_law
abbrev wd_X2_letter (a_this a_text a_d a_n a_power a_limbs : Nat) (c_text : ClassId) (v_thrown : Int32) (v_size : Int32) (v_used : Int32) (v_at : Int32) (v_text : Nat → Int32) : va_W := [(a_this, .inr (2, [.int v_thrown, .ref a_text, .int v_size, .ref a_d, .ref a_n, .ref a_power, .ref a_limbs, .int v_used, .int v_at])), (a_text, .inl (c_text, 400, .inl v_text))]
def f_X2_letter_b18 (l1 : Int32) (s1 : Int32) (v_thrown : Int32) (v_size : Int32) (v_text : Nat → Int32) : Option ((Int32) × (Int32)) :=
    (if s1 = 0 then
(if l1 < 0 ∨ 400 ≤ Int32.toNatClampNeg l1 then none else
some ((v_text (Int32.toNatClampNeg l1)), s1))
  else
some (0, s1))
def f_X2_letter_b13 (l1 : Int32) (v_thrown : Int32) (v_size : Int32) (v_text : Nat → Int32) : Option ((Int32) × (Int32)) :=
    f_X2_letter_b18  l1 1 v_thrown v_size v_text
def f_X2_letter (l1 : Int32) (v_thrown : Int32) (v_size : Int32) (v_text : Nat → Int32) : Option ((Int32) × (Int32)) :=
    (if l1 < 0 then
f_X2_letter_b13  l1 v_thrown v_size v_text
  else
(if l1 < v_size then
f_X2_letter_b18  l1 0 v_thrown v_size v_text
    else
f_X2_letter_b13  l1 v_thrown v_size v_text))
end
section
/-! exceptions: what a throwing method needs beside the words -/
def exn (k : Nat) : String := if k = 1 then "java/lang/IllegalArgumentException" else if k = 2 then "java/lang/IllegalStateException" else "java/util/NoSuchElementException"
abbrev exNames : List String := ["java/lang/RuntimeException", "java/lang/Exception"]
def exNG (E : String) : List Cond := [.declares (Bundle.init0 "java/lang/RuntimeException"), .declares (Bundle.init0 "java/lang/Exception"), .declares (Bundle.init0 "java/lang/Throwable"), .castable E E]
def EX (A : Nat → Prop) (U : State) (H : Heap) : Prop :=
  (vx_Zq Bundle.tN "UNASSIGNED_STACK" Bundle.steD A U H ∧ vx_Zq Bundle.tN "SUPPRESSED_SENTINEL" Bundle.listD A U H) ∧
  (va_Nw (.declares (Bundle.init0 "java/lang/RuntimeException")) U ∧ va_Nw (.declares (Bundle.init0 "java/lang/Exception")) U ∧ va_Nw (.declares (Bundle.init0 "java/lang/Throwable")) U) ∧
  (va_Nw (.castable "java/lang/IllegalArgumentException" "java/lang/IllegalArgumentException") U ∧ va_Nw (.castable "java/lang/IllegalStateException" "java/lang/IllegalStateException") U ∧ va_Nw (.castable "java/util/NoSuchElementException" "java/util/NoSuchElementException") U) ∧
  va_Nc "java/lang/IllegalStateException" "java/lang/IllegalArgumentException" U
theorem EX.kept {A : Nat → Prop} {U : State} {H H1 : Heap} (h : EX A U H) (hq : ∀ a : Nat, a < H.size → ¬ A a → H1[a]? = H[a]?) : EX A U H1 := ⟨⟨h.1.1.kept hq, h.1.2.kept hq⟩, h.2⟩
theorem EX.narrow {A B : Nat → Prop} {U : State} {H : Heap} (h : EX A U H) (hAB : ∀ q, B q → A q) : EX B U H := ⟨⟨h.1.1.narrow hAB, h.1.2.narrow hAB⟩, h.2⟩
theorem EX.warm {A : Nat → Prop} {u U : State} {H : Heap} (hW : u.WarmedH U.vm) (h : EX A u H) : EX A U H :=
  ⟨⟨h.1.1.moved hW.alike, h.1.2.moved hW.alike⟩, ⟨va_Nw.warmD hW h.2.1.1, va_Nw.warmD hW h.2.1.2.1, va_Nw.warmD hW h.2.1.2.2⟩, ⟨va_Nw.warmC hW h.2.2.1.1, va_Nw.warmC hW h.2.2.1.2.1, va_Nw.warmC hW h.2.2.1.2.2⟩, h.2.2.2.moved hW.alike⟩
theorem EX.same {A : Nat → Prop} {u U : State} {H : Heap} (hvm : u.vm = U.vm) (h : EX A u H) : EX A U H :=
  ⟨⟨h.1.1.moved (by rw [← hvm]; exact Vm.Alike.refl _), h.1.2.moved (by rw [← hvm]; exact Vm.Alike.refl _)⟩, ⟨va_Nw.same rfl hvm h.2.1.1, va_Nw.same rfl hvm h.2.1.2.1, va_Nw.same rfl hvm h.2.1.2.2⟩, ⟨va_Nw.same rfl hvm h.2.2.1.1, va_Nw.same rfl hvm h.2.2.1.2.1, va_Nw.same rfl hvm h.2.2.1.2.2⟩, h.2.2.2.moved (by rw [← hvm]; exact Vm.Alike.refl _)⟩
theorem EX.ng {A : Nat → Prop} {s : State} {H : Heap} {args : Array Value} (h : EX A s H) {E : String} (hE : va_Nw (.castable E E) s) : ∀ w ∈ exNG E, w.before args s = true := by
  unfold exNG
  exact vx_c (va_Nw.use rfl h.2.1.1) (vx_c (va_Nw.use rfl h.2.1.2.1) (vx_c (va_Nw.use rfl h.2.1.2.2) (vx_c (va_Nw.use rfl hE) vx_n)))
theorem ex_ng1 : ∀ w ∈ (vx_at0 RX1 35 "java/lang/IllegalArgumentException" exNames).filter (fun w => !goodWord w), w ∈ exNG "java/lang/IllegalArgumentException" := by decide +kernel
theorem ex_ng2 : ∀ w ∈ (vx_at0 RX1 38 "java/lang/IllegalStateException" exNames).filter (fun w => !goodWord w), w ∈ exNG "java/lang/IllegalStateException" := by decide +kernel
theorem ex_ng3 : ∀ w ∈ (vx_at0 RX1 103 "java/util/NoSuchElementException" exNames).filter (fun w => !goodWord w), w ∈ exNG "java/util/NoSuchElementException" := by decide +kernel
theorem ex_at1 {A : Nat → Prop} {s : State} {H : Heap} {args : Array Value} (h : EX A s H) (hws : ∀ w ∈ wsL_law, w.before args s = true) : ∀ w ∈ vx_at0 RX1 35 "java/lang/IllegalArgumentException" exNames, w.before args s = true :=
  vx_hat (fun w hw => hws w (List.mem_append_left _ (List.mem_append_left _ (List.mem_append_right _ hw)))) ex_ng1 (h.ng h.2.2.1.1)
theorem ex_at2 {A : Nat → Prop} {s : State} {H : Heap} {args : Array Value} (h : EX A s H) (hws : ∀ w ∈ wsL_law, w.before args s = true) : ∀ w ∈ vx_at0 RX1 38 "java/lang/IllegalStateException" exNames, w.before args s = true :=
  vx_hat (fun w hw => hws w (List.mem_append_left _ (List.mem_append_right _ hw))) ex_ng2 (h.ng h.2.2.1.2.1)
theorem ex_at3 {A : Nat → Prop} {s : State} {H : Heap} {args : Array Value} (h : EX A s H) (hws : ∀ w ∈ wsL_law, w.before args s = true) : ∀ w ∈ vx_at0 RX1 103 "java/util/NoSuchElementException" exNames, w.before args s = true :=
  vx_hat (fun w hw => hws w (List.mem_append_right _ hw)) ex_ng3 (h.ng h.2.2.1.2.2)
theorem ex_g1 : ∀ w ∈ Cond.classLink RX1 33 "java/lang/IllegalArgumentException" :: Cond.initialized "java/lang/IllegalArgumentException" :: vx_at0 RX1 35 "java/lang/IllegalArgumentException" exNames, vx_ot w = true := by decide +kernel
theorem ex_g2 : ∀ w ∈ Cond.classLink RX1 36 "java/lang/IllegalStateException" :: Cond.initialized "java/lang/IllegalStateException" :: vx_at0 RX1 38 "java/lang/IllegalStateException" exNames, vx_ot w = true := by decide +kernel
theorem ex_g3 : ∀ w ∈ Cond.classLink RX1 101 "java/util/NoSuchElementException" :: Cond.initialized "java/util/NoSuchElementException" :: vx_at0 RX1 103 "java/util/NoSuchElementException" exNames, vx_ot w = true := by decide +kernel
end
section
abbrev w_X0_init : List Cond := Cond.code yX0_init cX0_init 1 none :: wsL_law
set_option maxHeartbeats 4000000 in
set_option maxRecDepth 100000 in
theorem c_X0_init (l : Launch) (dC : Nat → ClassId) (dI : Nat → Nat → Nat) (a_this : Nat) (sz : Nat) : Met l yX0_init w_X0_init ({ frames := 1, cells := 1, slots := 160, locals := 20 } : Room) (va_Pc [.ref a_this] (fun U => U.heap.size = sz ∧ va_P (dC, dI) vwCl [(a_this, .inr (0, [.null, .int 0, .int 0]))] U.heap ∧ va_K (dC, dI) vwCl [] U ∧ va_D (fun _ => True) [(a_this, .inr (0, [.null, .int 0, .int 0]))])) (va_Qv (fun (_ : Unit) => True) (fun _ t => ∃ (q1 : Nat) (k1 : ClassId), va_P (dC, dI) vwCl [(a_this, .inr (0, [.ref q1, .int 160, .int (-1)])), (q1, .inl (k1, 160, .inr (.inl (fun _ => 0))))] t.heap ∧ va_K (dC, dI) vwCl [(k1, .long)] t ∧ va_D (va_A [(a_this, .inr (0, [.null, .int 0, .int 0]))] sz) [(a_this, .inr (0, [.ref q1, .int 160, .int (-1)])), (q1, .inl (k1, 160, .inr (.inl (fun _ => 0))))]) (va_A [(a_this, .inr (0, [.null, .int 0, .int 0]))] sz)) 1 160 (va_A [(a_this, .inr (0, [.null, .int 0, .int 0]))] sz) := by
  refine Met.ofW (cc := cX0_init) (maxL := 1) (ret := none) (by decide) rfl ?_
  intro p e s m args below meth c s₁ B hml hv
  obtain ⟨rfl, hsz, hP, hK, hD0⟩ := hv
  have hx := B.exec
  have hb := B.bytes
  have hr := B.returns
  have hws : ∀ w ∈ wsL_law, w.before _ s = true := fun w hw => atoms_spec (ws := w_X0_init) B.pre w (List.mem_cons_of_mem _ hw)
  have hown : s.vm.findClass RX0 = some m.cls := findClass_of_methodNamed B.named
  have hlocks := B.notSynchronized
  have hin : meth.name = "<init>" := (name_of_methodNamed B.named B.method).1
  subst hsz
  have hD := hD0.self (sz := s.heap.size)
  generalize hAe : va_A [(a_this, .inr (0, [.null, .int 0, .int 0]))] s.heap.size = A at hD ⊢
  have hA : ∀ q : Nat, s.heap.size ≤ q → A q := fun q h => by rw [← hAe]; exact Or.inr h
  have hS : va_S A s.heap s.heap [] := va_S.rf
  have hl := lv_entry ([.ref a_this]) (n := 1) (Nat.le_of_ble_eq_true rfl)
  rw [lg_entry_eq]
  generalize (lg_sl ([.ref a_this]) ++ List.replicate (1 - (lg_sl ([.ref a_this])).length) Slot.unset).toArray = ls at hl ⊢
  have hl : lv_has ls 1 [(0, .ref a_this)] := hl
  refine lv_aload_n hx hb dX0_init_0 rfl (lv_at hl 0 rfl) ?_
  refine W.objInit hx hb hown (hws _ ww_26) (hws _ ww_12) (hws _ ww_13) rfl (by rw [hml]; exact hl.1) rfl dX0_init_1 (Nat.le_of_ble_eq_true rfl) (Nat.le_of_ble_eq_true rfl) ?_
  refine W.eq (g2 := F0 m 4 ls []) rfl ?_
  refine lv_aload_n hx hb dX0_init_4 rfl (lv_at hl 0 rfl) ?_
  refine lv_sipush (v := 160) hx hb dX0_init_5 (by decide) ?_
  refine va_newa (atype := .long) (ty := .long) (n := 160) (a0 := (160, .inr (.inl (fun _ => 0)))) (N' := 160) hx hb (hws _ ww_6) rfl hK hP hD hS hA (fun _ => rfl) (by decide) (by decide) (by decide) (Nat.le_of_ble_eq_true rfl) (Nat.le_of_ble_eq_true rfl) dX0_init_8 (fun q1 k1 H hK hP hD hS => ?_)
  have hP : va_P (dC, dI) vwCl [(a_this, .inr (0, [.null, .int 0, .int 0])), (q1, .inl (k1, 160, .inr (.inl (fun _ => 0))))] H := hP
  have hD : va_D A [(a_this, .inr (0, [.null, .int 0, .int 0])), (q1, .inl (k1, 160, .inr (.inl (fun _ => 0))))] := hD
  have hK : va_K (dC, dI) vwCl [(k1, .long)] s := hK
  refine W.widen (k := 1) (n := 160) (by decide) (by decide) ?_
  refine va_putF (D := (dC, dI)) (ci := 0) (v := .ref q1) (ty := (.array .long)) (C := RX0) (T := TX0) (N := 3) hx hb hws inlX0 tyX0 tyX0_ok nmX0 hown hK hP hD hS 0 rfl rfl 0 (by decide) (hws _ ww_27) (fun _ h9 => h9) rfl hin rfl (by decide +kernel) rfl rfl (Nat.le_of_ble_eq_true rfl) dX0_init_10 (fun H locs hP hD hS => ?_)
  have hP : va_P (dC, dI) vwCl [(a_this, .inr (0, [.ref q1, .int 0, .int 0])), (q1, .inl (k1, 160, .inr (.inl (fun _ => 0))))] H := hP
  have hD : va_D A [(a_this, .inr (0, [.ref q1, .int 0, .int 0])), (q1, .inl (k1, 160, .inr (.inl (fun _ => 0))))] := hD
  refine lv_aload_n hx hb dX0_init_13 rfl (lv_at hl 0 rfl) ?_
  refine lv_sipush (v := 160) hx hb dX0_init_14 (by decide) ?_
  refine va_put (D := (dC, dI)) (ci := 0) (v := .int 160) (ty := .int) (C := RX0) (T := TX0) (N := 3) hx hb hws inlX0 tyX0 tyX0_ok nmX0 hown hK hP hD hS 0 rfl rfl 1 (by decide) (hws _ ww_28) (fun _ h9 => h9) rfl (by decide +kernel) rfl rfl (Nat.le_of_ble_eq_true rfl) dX0_init_17 (fun H locs hP hD hS => ?_)
  have hP : va_P (dC, dI) vwCl [(a_this, .inr (0, [.ref q1, .int 160, .int 0])), (q1, .inl (k1, 160, .inr (.inl (fun _ => 0))))] H := hP
  have hD : va_D A [(a_this, .inr (0, [.ref q1, .int 160, .int 0])), (q1, .inl (k1, 160, .inr (.inl (fun _ => 0))))] := hD
  refine lv_aload_n hx hb dX0_init_20 rfl (lv_at hl 0 rfl) ?_
  refine lv_iconst (v := (-1)) hx hb dX0_init_21 (by decide) ?_
  refine va_put (D := (dC, dI)) (ci := 0) (v := .int (-1)) (ty := .int) (C := RX0) (T := TX0) (N := 3) hx hb hws inlX0 tyX0 tyX0_ok nmX0 hown hK hP hD hS 0 rfl rfl 2 (by decide) (hws _ ww_29) (fun _ h9 => h9) rfl (by decide +kernel) rfl rfl (Nat.le_of_ble_eq_true rfl) dX0_init_22 (fun H locs hP hD hS => ?_)
  have hP : va_P (dC, dI) vwCl [(a_this, .inr (0, [.ref q1, .int 160, .int (-1)])), (q1, .inl (k1, 160, .inr (.inl (fun _ => 0))))] H := hP
  have hD : va_D A [(a_this, .inr (0, [.ref q1, .int 160, .int (-1)])), (q1, .inl (k1, 160, .inr (.inl (fun _ => 0))))] := hD
  exact W.vret hx hb hr (fun t ht hW => ⟨⟨(), rfl, trivial, q1, k1, by rw [ht]; exact hP, va_K.moved hW.alike hK, hD⟩, hS.F ht⟩) hS.2.2 dX0_init_25
abbrev w_X1_init : List Cond := Cond.code yX1_init cX1_init 1 none :: wsL_law
set_option maxHeartbeats 4000000 in
set_option maxRecDepth 100000 in
theorem c_X1_init (l : Launch) (dC : Nat → ClassId) (dI : Nat → Nat → Nat) (a_this : Nat) (sz : Nat) : Met l yX1_init w_X1_init ({ frames := 2, cells := 9, slots := 1052, locals := 40 } : Room) (va_Pc [.ref a_this] (fun U => U.heap.size = sz ∧ va_P (dC, dI) vwCl [(a_this, .inr (1, [.null, .int 0, .int 0, .int 0, .int 0, .int 0, .null, .null, .null, .null]))] U.heap ∧ va_K (dC, dI) vwCl [] U ∧ va_D (fun _ => True) [(a_this, .inr (1, [.null, .int 0, .int 0, .int 0, .int 0, .int 0, .null, .null, .null, .null]))])) (va_Qv (fun (_ : Unit) => True) (fun _ t => ∃ (q1 q2 q2l q3 q3l q4 q4l q5 q5l : Nat) (k1 k2 k3 k4 k5 : ClassId), va_P (dC, dI) vwCl [(a_this, .inr (1, [.ref q1, .int 0, .int 0, .int 0, .int 0, .int 0, .ref q2, .ref q3, .ref q4, .ref q5])), (q1, .inl (k1, 400, .inl (fun _ => 0))), (q2, .inr (0, [.ref q2l, .int 160, .int (-1)])), (q2l, .inl (k2, 160, .inr (.inl (fun _ => 0)))), (q3, .inr (0, [.ref q3l, .int 160, .int (-1)])), (q3l, .inl (k3, 160, .inr (.inl (fun _ => 0)))), (q4, .inr (0, [.ref q4l, .int 160, .int (-1)])), (q4l, .inl (k4, 160, .inr (.inl (fun _ => 0)))), (q5, .inr (0, [.ref q5l, .int 160, .int (-1)])), (q5l, .inl (k5, 160, .inr (.inl (fun _ => 0))))] t.heap ∧ va_K (dC, dI) vwCl [(k1, .int), (k2, .long), (k3, .long), (k4, .long), (k5, .long)] t ∧ va_D (va_A [(a_this, .inr (1, [.null, .int 0, .int 0, .int 0, .int 0, .int 0, .null, .null, .null, .null]))] sz) [(a_this, .inr (1, [.ref q1, .int 0, .int 0, .int 0, .int 0, .int 0, .ref q2, .ref q3, .ref q4, .ref q5])), (q1, .inl (k1, 400, .inl (fun _ => 0))), (q2, .inr (0, [.ref q2l, .int 160, .int (-1)])), (q2l, .inl (k2, 160, .inr (.inl (fun _ => 0)))), (q3, .inr (0, [.ref q3l, .int 160, .int (-1)])), (q3l, .inl (k3, 160, .inr (.inl (fun _ => 0)))), (q4, .inr (0, [.ref q4l, .int 160, .int (-1)])), (q4l, .inl (k4, 160, .inr (.inl (fun _ => 0)))), (q5, .inr (0, [.ref q5l, .int 160, .int (-1)])), (q5l, .inl (k5, 160, .inr (.inl (fun _ => 0))))]) (va_A [(a_this, .inr (1, [.null, .int 0, .int 0, .int 0, .int 0, .int 0, .null, .null, .null, .null]))] sz)) 9 1052 (va_A [(a_this, .inr (1, [.null, .int 0, .int 0, .int 0, .int 0, .int 0, .null, .null, .null, .null]))] sz) := by
  refine Met.ofW (cc := cX1_init) (maxL := 1) (ret := none) (by decide) rfl ?_
  intro p e s m args below meth c s₁ B hml hv
  obtain ⟨rfl, hsz, hP, hK, hD0⟩ := hv
  have hx := B.exec
  have hb := B.bytes
  have hr := B.returns
  have hws : ∀ w ∈ wsL_law, w.before _ s = true := fun w hw => atoms_spec (ws := w_X1_init) B.pre w (List.mem_cons_of_mem _ hw)
  have hown : s.vm.findClass RX1 = some m.cls := findClass_of_methodNamed B.named
  have hlocks := B.notSynchronized
  have hin : meth.name = "<init>" := (name_of_methodNamed B.named B.method).1
  subst hsz
  have hD := hD0.self (sz := s.heap.size)
  generalize hAe : va_A [(a_this, .inr (1, [.null, .int 0, .int 0, .int 0, .int 0, .int 0, .null, .null, .null, .null]))] s.heap.size = A at hD ⊢
  have hA : ∀ q : Nat, s.heap.size ≤ q → A q := fun q h => by rw [← hAe]; exact Or.inr h
  have hS : va_S A s.heap s.heap [] := va_S.rf
  have hl := lv_entry ([.ref a_this]) (n := 1) (Nat.le_of_ble_eq_true rfl)
  rw [lg_entry_eq]
  generalize (lg_sl ([.ref a_this]) ++ List.replicate (1 - (lg_sl ([.ref a_this])).length) Slot.unset).toArray = ls at hl ⊢
  have hl : lv_has ls 1 [(0, .ref a_this)] := hl
  refine lv_aload_n hx hb dX1_init_0 rfl (lv_at hl 0 rfl) ?_
  refine W.objInit hx hb hown (hws _ ww_11) (hws _ ww_12) (hws _ ww_13) rfl (by rw [hml]; exact hl.1) rfl dX1_init_1 (Nat.le_of_ble_eq_true rfl) (Nat.le_of_ble_eq_true rfl) ?_
  refine W.eq (g2 := F0 m 4 ls []) rfl ?_
  refine lv_aload_n hx hb dX1_init_4 rfl (lv_at hl 0 rfl) ?_
  refine lv_sipush (v := 400) hx hb dX1_init_5 (by decide) ?_
  refine va_newa (atype := .int) (ty := .int) (n := 400) (a0 := (400, .inl (fun _ => 0))) (N' := 400) hx hb (hws _ ww_14) rfl hK hP hD hS hA (fun _ => rfl) (by decide) (by decide) (by decide) (Nat.le_of_ble_eq_true rfl) (Nat.le_of_ble_eq_true rfl) dX1_init_8 (fun q1 k1 H hK hP hD hS => ?_)
  have hP : va_P (dC, dI) vwCl [(a_this, .inr (1, [.null, .int 0, .int 0, .int 0, .int 0, .int 0, .null, .null, .null, .null])), (q1, .inl (k1, 400, .inl (fun _ => 0)))] H := hP
  have hD : va_D A [(a_this, .inr (1, [.null, .int 0, .int 0, .int 0, .int 0, .int 0, .null, .null, .null, .null])), (q1, .inl (k1, 400, .inl (fun _ => 0)))] := hD
  have hK : va_K (dC, dI) vwCl [(k1, .int)] s := hK
  refine W.widen (k := 1) (n := 400) (by decide) (by decide) ?_
  refine va_putF (D := (dC, dI)) (ci := 1) (v := .ref q1) (ty := (.array .int)) (C := RX1) (T := TX1) (N := 10) hx hb hws inlX1 tyX1 tyX1_ok nmX1 hown hK hP hD hS 0 rfl rfl 0 (by decide) (hws _ ww_15) (fun _ h9 => h9) rfl hin rfl (by decide +kernel) rfl rfl (Nat.le_of_ble_eq_true rfl) dX1_init_10 (fun H locs hP hD hS => ?_)
  have hP : va_P (dC, dI) vwCl [(a_this, .inr (1, [.ref q1, .int 0, .int 0, .int 0, .int 0, .int 0, .null, .null, .null, .null])), (q1, .inl (k1, 400, .inl (fun _ => 0)))] H := hP
  have hD : va_D A [(a_this, .inr (1, [.ref q1, .int 0, .int 0, .int 0, .int 0, .int 0, .null, .null, .null, .null])), (q1, .inl (k1, 400, .inl (fun _ => 0)))] := hD
  refine lv_aload_n hx hb dX1_init_13 rfl (lv_at hl 0 rfl) ?_
  refine va_new (ci := 0) (fs := [.null, .int 0, .int 0]) (C := RX0) (T := TX0) (N := 3) hx hb hws inlX0 tyX0 tyX0_ok hown (hws _ ww_16) (hws _ ww_17) (hws _ ww_18) hK hP hD hS hA rfl (fun j hj => by rcases (show j = 0 ∨ j = 1 ∨ j = 2 by omega) with rfl | rfl | rfl <;> rfl) (Nat.le_of_ble_eq_true rfl) (Nat.le_of_ble_eq_true rfl) dX1_init_14 (fun q2 H hP hD hS => ?_)
  have hP : va_P (dC, dI) vwCl [(a_this, .inr (1, [.ref q1, .int 0, .int 0, .int 0, .int 0, .int 0, .null, .null, .null, .null])), (q1, .inl (k1, 400, .inl (fun _ => 0))), (q2, .inr (0, [.null, .int 0, .int 0]))] H := hP
  have hD : va_D A [(a_this, .inr (1, [.ref q1, .int 0, .int 0, .int 0, .int 0, .int 0, .null, .null, .null, .null])), (q1, .inl (k1, 400, .inl (fun _ => 0))), (q2, .inr (0, [.null, .int 0, .int 0]))] := hD
  refine W.widen (k := 2) (n := 403) (by decide) (by decide) ?_
  refine lv_dup hx hb dX1_init_17 rfl ?_
  have hPc := hP.sub (ws' := [(q2, .inr (0, [.null, .int 0, .int 0]))]) [2] rfl
  have hDc := hD.sub (ws' := [(q2, .inr (0, [.null, .int 0, .int 0]))]) [2] (by decide) rfl
  have hKc := hK.sub (tys' := []) [] rfl
  have hFc := va_free (wc := [(q2, .inr (0, [.null, .int 0, .int 0]))]) hD hS hA [2] rfl
  refine va_callv (va_runI (As := []) (rest := [.ref q2, .ref a_this]) ⟨hx, hb, hml, hown, hws⟩ (c_X0_init l dC dI q2 (Array.size H)) (cwI 0 hws (gI ww_25) rfl rfl rfl (hws _ ww_18) (hws _ ww_23) (hws _ ww_24) rfl (by decide +kernel) ⟨Nat.le_of_ble_eq_true rfl, Nat.le_of_ble_eq_true rfl⟩) ⟨fun a U g mk q => by obtain ⟨q0, q1, qP, qK, qD⟩ := q; exact ⟨q0, q1, qP, va_K.moved (u := U) (U := U.calling g mk a) (Vm.Alike.refl U.vm) qK, qD⟩, fun U hU hW => ⟨rfl, by rw [hU], by rw [hU]; exact hPc, va_K.moved hW.alike hKc, hDc.weaken (fun _ _ _ _ => trivial)⟩⟩ rfl rfl hl.1 rfl (lv_room (Nat.le_of_ble_eq_true rfl)) dX1_init_18 ⟨Nat.le_of_ble_eq_true rfl, Nat.le_of_ble_eq_true rfl⟩) hS (fun q _ h => hFc q h) hFc (fun u9 t H1 locs ht hvm hw hB hz1 hk1 hS => ?_)
  obtain ⟨q2l, k2, hP1, hK1, hD1⟩ := hB
  rw [ht] at hP1
  have hK1 := va_K.moved hvm.symm hK1
  obtain ⟨hP, hD⟩ := va_join (wr := [(a_this, .inr (1, [.ref q1, .int 0, .int 0, .int 0, .int 0, .int 0, .null, .null, .null, .null])), (q1, .inl (k1, 400, .inl (fun _ => 0)))]) (w1 := [(q2, .inr (0, [.ref q2l, .int 160, .int (-1)])), (q2l, .inl (k2, 160, .inr (.inl (fun _ => 0))))]) hP hD [2] [0, 1] rfl rfl (by decide) (by decide) hk1 hFc hP1 hD1
  have hK := (hK.sub (tys' := [(k1, .int)]) [0] rfl).app hK1
  generalize H1 = H at hP hS ⊢
  have hP : va_P (dC, dI) vwCl [(a_this, .inr (1, [.ref q1, .int 0, .int 0, .int 0, .int 0, .int 0, .null, .null, .null, .null])), (q1, .inl (k1, 400, .inl (fun _ => 0))), (q2, .inr (0, [.ref q2l, .int 160, .int (-1)])), (q2l, .inl (k2, 160, .inr (.inl (fun _ => 0))))] H := hP
  have hD : va_D A [(a_this, .inr (1, [.ref q1, .int 0, .int 0, .int 0, .int 0, .int 0, .null, .null, .null, .null])), (q1, .inl (k1, 400, .inl (fun _ => 0))), (q2, .inr (0, [.ref q2l, .int 160, .int (-1)])), (q2l, .inl (k2, 160, .inr (.inl (fun _ => 0))))] := hD
  have hK : va_K (dC, dI) vwCl [(k1, .int), (k2, .long)] s := hK
  refine W.widen (k := 3) (n := 563) (by decide) (by decide) ?_
  refine va_putF (D := (dC, dI)) (ci := 1) (v := .ref q2) (ty := (.object "DoubleText$Decimal")) (C := RX1) (T := TX1) (N := 10) hx hb hws inlX1 tyX1 tyX1_ok nmX1 hown hK hP hD hS 0 rfl rfl 6 (by decide) (hws _ ww_19) (fun _ h9 => h9) rfl hin rfl (by decide +kernel) rfl rfl (Nat.le_of_ble_eq_true rfl) dX1_init_21 (fun H locs hP hD hS => ?_)
  have hP : va_P (dC, dI) vwCl [(a_this, .inr (1, [.ref q1, .int 0, .int 0, .int 0, .int 0, .int 0, .ref q2, .null, .null, .null])), (q1, .inl (k1, 400, .inl (fun _ => 0))), (q2, .inr (0, [.ref q2l, .int 160, .int (-1)])), (q2l, .inl (k2, 160, .inr (.inl (fun _ => 0))))] H := hP
  have hD : va_D A [(a_this, .inr (1, [.ref q1, .int 0, .int 0, .int 0, .int 0, .int 0, .ref q2, .null, .null, .null])), (q1, .inl (k1, 400, .inl (fun _ => 0))), (q2, .inr (0, [.ref q2l, .int 160, .int (-1)])), (q2l, .inl (k2, 160, .inr (.inl (fun _ => 0))))] := hD
  refine lv_aload_n hx hb dX1_init_24 rfl (lv_at hl 0 rfl) ?_
  refine va_new (ci := 0) (fs := [.null, .int 0, .int 0]) (C := RX0) (T := TX0) (N := 3) hx hb hws inlX0 tyX0 tyX0_ok hown (hws _ ww_16) (hws _ ww_17) (hws _ ww_18) hK hP hD hS hA rfl (fun j hj => by rcases (show j = 0 ∨ j = 1 ∨ j = 2 by omega) with rfl | rfl | rfl <;> rfl) (Nat.le_of_ble_eq_true rfl) (Nat.le_of_ble_eq_true rfl) dX1_init_25 (fun q3 H hP hD hS => ?_)
  have hP : va_P (dC, dI) vwCl [(a_this, .inr (1, [.ref q1, .int 0, .int 0, .int 0, .int 0, .int 0, .ref q2, .null, .null, .null])), (q1, .inl (k1, 400, .inl (fun _ => 0))), (q2, .inr (0, [.ref q2l, .int 160, .int (-1)])), (q2l, .inl (k2, 160, .inr (.inl (fun _ => 0)))), (q3, .inr (0, [.null, .int 0, .int 0]))] H := hP
  have hD : va_D A [(a_this, .inr (1, [.ref q1, .int 0, .int 0, .int 0, .int 0, .int 0, .ref q2, .null, .null, .null])), (q1, .inl (k1, 400, .inl (fun _ => 0))), (q2, .inr (0, [.ref q2l, .int 160, .int (-1)])), (q2l, .inl (k2, 160, .inr (.inl (fun _ => 0)))), (q3, .inr (0, [.null, .int 0, .int 0]))] := hD
  refine W.widen (k := 4) (n := 566) (by decide) (by decide) ?_
  refine lv_dup hx hb dX1_init_28 rfl ?_
  have hPc := hP.sub (ws' := [(q3, .inr (0, [.null, .int 0, .int 0]))]) [4] rfl
  have hDc := hD.sub (ws' := [(q3, .inr (0, [.null, .int 0, .int 0]))]) [4] (by decide) rfl
  have hKc := hK.sub (tys' := []) [] rfl
  have hFc := va_free (wc := [(q3, .inr (0, [.null, .int 0, .int 0]))]) hD hS hA [4] rfl
  refine va_callv (va_runI (As := []) (rest := [.ref q3, .ref a_this]) ⟨hx, hb, hml, hown, hws⟩ (c_X0_init l dC dI q3 (Array.size H)) (cwI 0 hws (gI ww_25) rfl rfl rfl (hws _ ww_18) (hws _ ww_23) (hws _ ww_24) rfl (by decide +kernel) ⟨Nat.le_of_ble_eq_true rfl, Nat.le_of_ble_eq_true rfl⟩) ⟨fun a U g mk q => by obtain ⟨q0, q1, qP, qK, qD⟩ := q; exact ⟨q0, q1, qP, va_K.moved (u := U) (U := U.calling g mk a) (Vm.Alike.refl U.vm) qK, qD⟩, fun U hU hW => ⟨rfl, by rw [hU], by rw [hU]; exact hPc, va_K.moved hW.alike hKc, hDc.weaken (fun _ _ _ _ => trivial)⟩⟩ rfl rfl hl.1 rfl (lv_room (Nat.le_of_ble_eq_true rfl)) dX1_init_29 ⟨Nat.le_of_ble_eq_true rfl, Nat.le_of_ble_eq_true rfl⟩) hS (fun q _ h => hFc q h) hFc (fun u9 t H1 locs ht hvm hw hB hz1 hk1 hS => ?_)
  obtain ⟨q3l, k3, hP1, hK1, hD1⟩ := hB
  rw [ht] at hP1
  have hK1 := va_K.moved hvm.symm hK1
  obtain ⟨hP, hD⟩ := va_join (wr := [(a_this, .inr (1, [.ref q1, .int 0, .int 0, .int 0, .int 0, .int 0, .ref q2, .null, .null, .null])), (q1, .inl (k1, 400, .inl (fun _ => 0))), (q2, .inr (0, [.ref q2l, .int 160, .int (-1)])), (q2l, .inl (k2, 160, .inr (.inl (fun _ => 0))))]) (w1 := [(q3, .inr (0, [.ref q3l, .int 160, .int (-1)])), (q3l, .inl (k3, 160, .inr (.inl (fun _ => 0))))]) hP hD [4] [0, 1, 2, 3] rfl rfl (by decide) (by decide) hk1 hFc hP1 hD1
  have hK := (hK.sub (tys' := [(k1, .int), (k2, .long)]) [0, 1] rfl).app hK1
  generalize H1 = H at hP hS ⊢
  have hP : va_P (dC, dI) vwCl [(a_this, .inr (1, [.ref q1, .int 0, .int 0, .int 0, .int 0, .int 0, .ref q2, .null, .null, .null])), (q1, .inl (k1, 400, .inl (fun _ => 0))), (q2, .inr (0, [.ref q2l, .int 160, .int (-1)])), (q2l, .inl (k2, 160, .inr (.inl (fun _ => 0)))), (q3, .inr (0, [.ref q3l, .int 160, .int (-1)])), (q3l, .inl (k3, 160, .inr (.inl (fun _ => 0))))] H := hP
  have hD : va_D A [(a_this, .inr (1, [.ref q1, .int 0, .int 0, .int 0, .int 0, .int 0, .ref q2, .null, .null, .null])), (q1, .inl (k1, 400, .inl (fun _ => 0))), (q2, .inr (0, [.ref q2l, .int 160, .int (-1)])), (q2l, .inl (k2, 160, .inr (.inl (fun _ => 0)))), (q3, .inr (0, [.ref q3l, .int 160, .int (-1)])), (q3l, .inl (k3, 160, .inr (.inl (fun _ => 0))))] := hD
  have hK : va_K (dC, dI) vwCl [(k1, .int), (k2, .long), (k3, .long)] s := hK
  refine W.widen (k := 5) (n := 726) (by decide) (by decide) ?_
  refine va_putF (D := (dC, dI)) (ci := 1) (v := .ref q3) (ty := (.object "DoubleText$Decimal")) (C := RX1) (T := TX1) (N := 10) hx hb hws inlX1 tyX1 tyX1_ok nmX1 hown hK hP hD hS 0 rfl rfl 7 (by decide) (hws _ ww_20) (fun _ h9 => h9) rfl hin rfl (by decide +kernel) rfl rfl (Nat.le_of_ble_eq_true rfl) dX1_init_32 (fun H locs hP hD hS => ?_)
  have hP : va_P (dC, dI) vwCl [(a_this, .inr (1, [.ref q1, .int 0, .int 0, .int 0, .int 0, .int 0, .ref q2, .ref q3, .null, .null])), (q1, .inl (k1, 400, .inl (fun _ => 0))), (q2, .inr (0, [.ref q2l, .int 160, .int (-1)])), (q2l, .inl (k2, 160, .inr (.inl (fun _ => 0)))), (q3, .inr (0, [.ref q3l, .int 160, .int (-1)])), (q3l, .inl (k3, 160, .inr (.inl (fun _ => 0))))] H := hP
  have hD : va_D A [(a_this, .inr (1, [.ref q1, .int 0, .int 0, .int 0, .int 0, .int 0, .ref q2, .ref q3, .null, .null])), (q1, .inl (k1, 400, .inl (fun _ => 0))), (q2, .inr (0, [.ref q2l, .int 160, .int (-1)])), (q2l, .inl (k2, 160, .inr (.inl (fun _ => 0)))), (q3, .inr (0, [.ref q3l, .int 160, .int (-1)])), (q3l, .inl (k3, 160, .inr (.inl (fun _ => 0))))] := hD
  refine lv_aload_n hx hb dX1_init_35 rfl (lv_at hl 0 rfl) ?_
  refine va_new (ci := 0) (fs := [.null, .int 0, .int 0]) (C := RX0) (T := TX0) (N := 3) hx hb hws inlX0 tyX0 tyX0_ok hown (hws _ ww_16) (hws _ ww_17) (hws _ ww_18) hK hP hD hS hA rfl (fun j hj => by rcases (show j = 0 ∨ j = 1 ∨ j = 2 by omega) with rfl | rfl | rfl <;> rfl) (Nat.le_of_ble_eq_true rfl) (Nat.le_of_ble_eq_true rfl) dX1_init_36 (fun q4 H hP hD hS => ?_)
  have hP : va_P (dC, dI) vwCl [(a_this, .inr (1, [.ref q1, .int 0, .int 0, .int 0, .int 0, .int 0, .ref q2, .ref q3, .null, .null])), (q1, .inl (k1, 400, .inl (fun _ => 0))), (q2, .inr (0, [.ref q2l, .int 160, .int (-1)])), (q2l, .inl (k2, 160, .inr (.inl (fun _ => 0)))), (q3, .inr (0, [.ref q3l, .int 160, .int (-1)])), (q3l, .inl (k3, 160, .inr (.inl (fun _ => 0)))), (q4, .inr (0, [.null, .int 0, .int 0]))] H := hP
  have hD : va_D A [(a_this, .inr (1, [.ref q1, .int 0, .int 0, .int 0, .int 0, .int 0, .ref q2, .ref q3, .null, .null])), (q1, .inl (k1, 400, .inl (fun _ => 0))), (q2, .inr (0, [.ref q2l, .int 160, .int (-1)])), (q2l, .inl (k2, 160, .inr (.inl (fun _ => 0)))), (q3, .inr (0, [.ref q3l, .int 160, .int (-1)])), (q3l, .inl (k3, 160, .inr (.inl (fun _ => 0)))), (q4, .inr (0, [.null, .int 0, .int 0]))] := hD
  refine W.widen (k := 6) (n := 729) (by decide) (by decide) ?_
  refine lv_dup hx hb dX1_init_39 rfl ?_
  have hPc := hP.sub (ws' := [(q4, .inr (0, [.null, .int 0, .int 0]))]) [6] rfl
  have hDc := hD.sub (ws' := [(q4, .inr (0, [.null, .int 0, .int 0]))]) [6] (by decide) rfl
  have hKc := hK.sub (tys' := []) [] rfl
  have hFc := va_free (wc := [(q4, .inr (0, [.null, .int 0, .int 0]))]) hD hS hA [6] rfl
  refine va_callv (va_runI (As := []) (rest := [.ref q4, .ref a_this]) ⟨hx, hb, hml, hown, hws⟩ (c_X0_init l dC dI q4 (Array.size H)) (cwI 0 hws (gI ww_25) rfl rfl rfl (hws _ ww_18) (hws _ ww_23) (hws _ ww_24) rfl (by decide +kernel) ⟨Nat.le_of_ble_eq_true rfl, Nat.le_of_ble_eq_true rfl⟩) ⟨fun a U g mk q => by obtain ⟨q0, q1, qP, qK, qD⟩ := q; exact ⟨q0, q1, qP, va_K.moved (u := U) (U := U.calling g mk a) (Vm.Alike.refl U.vm) qK, qD⟩, fun U hU hW => ⟨rfl, by rw [hU], by rw [hU]; exact hPc, va_K.moved hW.alike hKc, hDc.weaken (fun _ _ _ _ => trivial)⟩⟩ rfl rfl hl.1 rfl (lv_room (Nat.le_of_ble_eq_true rfl)) dX1_init_40 ⟨Nat.le_of_ble_eq_true rfl, Nat.le_of_ble_eq_true rfl⟩) hS (fun q _ h => hFc q h) hFc (fun u9 t H1 locs ht hvm hw hB hz1 hk1 hS => ?_)
  obtain ⟨q4l, k4, hP1, hK1, hD1⟩ := hB
  rw [ht] at hP1
  have hK1 := va_K.moved hvm.symm hK1
  obtain ⟨hP, hD⟩ := va_join (wr := [(a_this, .inr (1, [.ref q1, .int 0, .int 0, .int 0, .int 0, .int 0, .ref q2, .ref q3, .null, .null])), (q1, .inl (k1, 400, .inl (fun _ => 0))), (q2, .inr (0, [.ref q2l, .int 160, .int (-1)])), (q2l, .inl (k2, 160, .inr (.inl (fun _ => 0)))), (q3, .inr (0, [.ref q3l, .int 160, .int (-1)])), (q3l, .inl (k3, 160, .inr (.inl (fun _ => 0))))]) (w1 := [(q4, .inr (0, [.ref q4l, .int 160, .int (-1)])), (q4l, .inl (k4, 160, .inr (.inl (fun _ => 0))))]) hP hD [6] [0, 1, 2, 3, 4, 5] rfl rfl (by decide) (by decide) hk1 hFc hP1 hD1
  have hK := (hK.sub (tys' := [(k1, .int), (k2, .long), (k3, .long)]) [0, 1, 2] rfl).app hK1
  generalize H1 = H at hP hS ⊢
  have hP : va_P (dC, dI) vwCl [(a_this, .inr (1, [.ref q1, .int 0, .int 0, .int 0, .int 0, .int 0, .ref q2, .ref q3, .null, .null])), (q1, .inl (k1, 400, .inl (fun _ => 0))), (q2, .inr (0, [.ref q2l, .int 160, .int (-1)])), (q2l, .inl (k2, 160, .inr (.inl (fun _ => 0)))), (q3, .inr (0, [.ref q3l, .int 160, .int (-1)])), (q3l, .inl (k3, 160, .inr (.inl (fun _ => 0)))), (q4, .inr (0, [.ref q4l, .int 160, .int (-1)])), (q4l, .inl (k4, 160, .inr (.inl (fun _ => 0))))] H := hP
  have hD : va_D A [(a_this, .inr (1, [.ref q1, .int 0, .int 0, .int 0, .int 0, .int 0, .ref q2, .ref q3, .null, .null])), (q1, .inl (k1, 400, .inl (fun _ => 0))), (q2, .inr (0, [.ref q2l, .int 160, .int (-1)])), (q2l, .inl (k2, 160, .inr (.inl (fun _ => 0)))), (q3, .inr (0, [.ref q3l, .int 160, .int (-1)])), (q3l, .inl (k3, 160, .inr (.inl (fun _ => 0)))), (q4, .inr (0, [.ref q4l, .int 160, .int (-1)])), (q4l, .inl (k4, 160, .inr (.inl (fun _ => 0))))] := hD
  have hK : va_K (dC, dI) vwCl [(k1, .int), (k2, .long), (k3, .long), (k4, .long)] s := hK
  refine W.widen (k := 7) (n := 889) (by decide) (by decide) ?_
  refine va_putF (D := (dC, dI)) (ci := 1) (v := .ref q4) (ty := (.object "DoubleText$Decimal")) (C := RX1) (T := TX1) (N := 10) hx hb hws inlX1 tyX1 tyX1_ok nmX1 hown hK hP hD hS 0 rfl rfl 8 (by decide) (hws _ ww_21) (fun _ h9 => h9) rfl hin rfl (by decide +kernel) rfl rfl (Nat.le_of_ble_eq_true rfl) dX1_init_43 (fun H locs hP hD hS => ?_)
  have hP : va_P (dC, dI) vwCl [(a_this, .inr (1, [.ref q1, .int 0, .int 0, .int 0, .int 0, .int 0, .ref q2, .ref q3, .ref q4, .null])), (q1, .inl (k1, 400, .inl (fun _ => 0))), (q2, .inr (0, [.ref q2l, .int 160, .int (-1)])), (q2l, .inl (k2, 160, .inr (.inl (fun _ => 0)))), (q3, .inr (0, [.ref q3l, .int 160, .int (-1)])), (q3l, .inl (k3, 160, .inr (.inl (fun _ => 0)))), (q4, .inr (0, [.ref q4l, .int 160, .int (-1)])), (q4l, .inl (k4, 160, .inr (.inl (fun _ => 0))))] H := hP
  have hD : va_D A [(a_this, .inr (1, [.ref q1, .int 0, .int 0, .int 0, .int 0, .int 0, .ref q2, .ref q3, .ref q4, .null])), (q1, .inl (k1, 400, .inl (fun _ => 0))), (q2, .inr (0, [.ref q2l, .int 160, .int (-1)])), (q2l, .inl (k2, 160, .inr (.inl (fun _ => 0)))), (q3, .inr (0, [.ref q3l, .int 160, .int (-1)])), (q3l, .inl (k3, 160, .inr (.inl (fun _ => 0)))), (q4, .inr (0, [.ref q4l, .int 160, .int (-1)])), (q4l, .inl (k4, 160, .inr (.inl (fun _ => 0))))] := hD
  refine lv_aload_n hx hb dX1_init_46 rfl (lv_at hl 0 rfl) ?_
  refine va_new (ci := 0) (fs := [.null, .int 0, .int 0]) (C := RX0) (T := TX0) (N := 3) hx hb hws inlX0 tyX0 tyX0_ok hown (hws _ ww_16) (hws _ ww_17) (hws _ ww_18) hK hP hD hS hA rfl (fun j hj => by rcases (show j = 0 ∨ j = 1 ∨ j = 2 by omega) with rfl | rfl | rfl <;> rfl) (Nat.le_of_ble_eq_true rfl) (Nat.le_of_ble_eq_true rfl) dX1_init_47 (fun q5 H hP hD hS => ?_)
  have hP : va_P (dC, dI) vwCl [(a_this, .inr (1, [.ref q1, .int 0, .int 0, .int 0, .int 0, .int 0, .ref q2, .ref q3, .ref q4, .null])), (q1, .inl (k1, 400, .inl (fun _ => 0))), (q2, .inr (0, [.ref q2l, .int 160, .int (-1)])), (q2l, .inl (k2, 160, .inr (.inl (fun _ => 0)))), (q3, .inr (0, [.ref q3l, .int 160, .int (-1)])), (q3l, .inl (k3, 160, .inr (.inl (fun _ => 0)))), (q4, .inr (0, [.ref q4l, .int 160, .int (-1)])), (q4l, .inl (k4, 160, .inr (.inl (fun _ => 0)))), (q5, .inr (0, [.null, .int 0, .int 0]))] H := hP
  have hD : va_D A [(a_this, .inr (1, [.ref q1, .int 0, .int 0, .int 0, .int 0, .int 0, .ref q2, .ref q3, .ref q4, .null])), (q1, .inl (k1, 400, .inl (fun _ => 0))), (q2, .inr (0, [.ref q2l, .int 160, .int (-1)])), (q2l, .inl (k2, 160, .inr (.inl (fun _ => 0)))), (q3, .inr (0, [.ref q3l, .int 160, .int (-1)])), (q3l, .inl (k3, 160, .inr (.inl (fun _ => 0)))), (q4, .inr (0, [.ref q4l, .int 160, .int (-1)])), (q4l, .inl (k4, 160, .inr (.inl (fun _ => 0)))), (q5, .inr (0, [.null, .int 0, .int 0]))] := hD
  refine W.widen (k := 8) (n := 892) (by decide) (by decide) ?_
  refine lv_dup hx hb dX1_init_50 rfl ?_
  have hPc := hP.sub (ws' := [(q5, .inr (0, [.null, .int 0, .int 0]))]) [8] rfl
  have hDc := hD.sub (ws' := [(q5, .inr (0, [.null, .int 0, .int 0]))]) [8] (by decide) rfl
  have hKc := hK.sub (tys' := []) [] rfl
  have hFc := va_free (wc := [(q5, .inr (0, [.null, .int 0, .int 0]))]) hD hS hA [8] rfl
  refine va_callv (va_runI (As := []) (rest := [.ref q5, .ref a_this]) ⟨hx, hb, hml, hown, hws⟩ (c_X0_init l dC dI q5 (Array.size H)) (cwI 0 hws (gI ww_25) rfl rfl rfl (hws _ ww_18) (hws _ ww_23) (hws _ ww_24) rfl (by decide +kernel) ⟨Nat.le_of_ble_eq_true rfl, Nat.le_of_ble_eq_true rfl⟩) ⟨fun a U g mk q => by obtain ⟨q0, q1, qP, qK, qD⟩ := q; exact ⟨q0, q1, qP, va_K.moved (u := U) (U := U.calling g mk a) (Vm.Alike.refl U.vm) qK, qD⟩, fun U hU hW => ⟨rfl, by rw [hU], by rw [hU]; exact hPc, va_K.moved hW.alike hKc, hDc.weaken (fun _ _ _ _ => trivial)⟩⟩ rfl rfl hl.1 rfl (lv_room (Nat.le_of_ble_eq_true rfl)) dX1_init_51 ⟨Nat.le_of_ble_eq_true rfl, Nat.le_of_ble_eq_true rfl⟩) hS (fun q _ h => hFc q h) hFc (fun u9 t H1 locs ht hvm hw hB hz1 hk1 hS => ?_)
  obtain ⟨q5l, k5, hP1, hK1, hD1⟩ := hB
  rw [ht] at hP1
  have hK1 := va_K.moved hvm.symm hK1
  obtain ⟨hP, hD⟩ := va_join (wr := [(a_this, .inr (1, [.ref q1, .int 0, .int 0, .int 0, .int 0, .int 0, .ref q2, .ref q3, .ref q4, .null])), (q1, .inl (k1, 400, .inl (fun _ => 0))), (q2, .inr (0, [.ref q2l, .int 160, .int (-1)])), (q2l, .inl (k2, 160, .inr (.inl (fun _ => 0)))), (q3, .inr (0, [.ref q3l, .int 160, .int (-1)])), (q3l, .inl (k3, 160, .inr (.inl (fun _ => 0)))), (q4, .inr (0, [.ref q4l, .int 160, .int (-1)])), (q4l, .inl (k4, 160, .inr (.inl (fun _ => 0))))]) (w1 := [(q5, .inr (0, [.ref q5l, .int 160, .int (-1)])), (q5l, .inl (k5, 160, .inr (.inl (fun _ => 0))))]) hP hD [8] [0, 1, 2, 3, 4, 5, 6, 7] rfl rfl (by decide) (by decide) hk1 hFc hP1 hD1
  have hK := (hK.sub (tys' := [(k1, .int), (k2, .long), (k3, .long), (k4, .long)]) [0, 1, 2, 3] rfl).app hK1
  generalize H1 = H at hP hS ⊢
  have hP : va_P (dC, dI) vwCl [(a_this, .inr (1, [.ref q1, .int 0, .int 0, .int 0, .int 0, .int 0, .ref q2, .ref q3, .ref q4, .null])), (q1, .inl (k1, 400, .inl (fun _ => 0))), (q2, .inr (0, [.ref q2l, .int 160, .int (-1)])), (q2l, .inl (k2, 160, .inr (.inl (fun _ => 0)))), (q3, .inr (0, [.ref q3l, .int 160, .int (-1)])), (q3l, .inl (k3, 160, .inr (.inl (fun _ => 0)))), (q4, .inr (0, [.ref q4l, .int 160, .int (-1)])), (q4l, .inl (k4, 160, .inr (.inl (fun _ => 0)))), (q5, .inr (0, [.ref q5l, .int 160, .int (-1)])), (q5l, .inl (k5, 160, .inr (.inl (fun _ => 0))))] H := hP
  have hD : va_D A [(a_this, .inr (1, [.ref q1, .int 0, .int 0, .int 0, .int 0, .int 0, .ref q2, .ref q3, .ref q4, .null])), (q1, .inl (k1, 400, .inl (fun _ => 0))), (q2, .inr (0, [.ref q2l, .int 160, .int (-1)])), (q2l, .inl (k2, 160, .inr (.inl (fun _ => 0)))), (q3, .inr (0, [.ref q3l, .int 160, .int (-1)])), (q3l, .inl (k3, 160, .inr (.inl (fun _ => 0)))), (q4, .inr (0, [.ref q4l, .int 160, .int (-1)])), (q4l, .inl (k4, 160, .inr (.inl (fun _ => 0)))), (q5, .inr (0, [.ref q5l, .int 160, .int (-1)])), (q5l, .inl (k5, 160, .inr (.inl (fun _ => 0))))] := hD
  have hK : va_K (dC, dI) vwCl [(k1, .int), (k2, .long), (k3, .long), (k4, .long), (k5, .long)] s := hK
  refine W.widen (k := 9) (n := 1052) (by decide) (by decide) ?_
  refine va_putF (D := (dC, dI)) (ci := 1) (v := .ref q5) (ty := (.object "DoubleText$Decimal")) (C := RX1) (T := TX1) (N := 10) hx hb hws inlX1 tyX1 tyX1_ok nmX1 hown hK hP hD hS 0 rfl rfl 9 (by decide) (hws _ ww_22) (fun _ h9 => h9) rfl hin rfl (by decide +kernel) rfl rfl (Nat.le_of_ble_eq_true rfl) dX1_init_54 (fun H locs hP hD hS => ?_)
  have hP : va_P (dC, dI) vwCl [(a_this, .inr (1, [.ref q1, .int 0, .int 0, .int 0, .int 0, .int 0, .ref q2, .ref q3, .ref q4, .ref q5])), (q1, .inl (k1, 400, .inl (fun _ => 0))), (q2, .inr (0, [.ref q2l, .int 160, .int (-1)])), (q2l, .inl (k2, 160, .inr (.inl (fun _ => 0)))), (q3, .inr (0, [.ref q3l, .int 160, .int (-1)])), (q3l, .inl (k3, 160, .inr (.inl (fun _ => 0)))), (q4, .inr (0, [.ref q4l, .int 160, .int (-1)])), (q4l, .inl (k4, 160, .inr (.inl (fun _ => 0)))), (q5, .inr (0, [.ref q5l, .int 160, .int (-1)])), (q5l, .inl (k5, 160, .inr (.inl (fun _ => 0))))] H := hP
  have hD : va_D A [(a_this, .inr (1, [.ref q1, .int 0, .int 0, .int 0, .int 0, .int 0, .ref q2, .ref q3, .ref q4, .ref q5])), (q1, .inl (k1, 400, .inl (fun _ => 0))), (q2, .inr (0, [.ref q2l, .int 160, .int (-1)])), (q2l, .inl (k2, 160, .inr (.inl (fun _ => 0)))), (q3, .inr (0, [.ref q3l, .int 160, .int (-1)])), (q3l, .inl (k3, 160, .inr (.inl (fun _ => 0)))), (q4, .inr (0, [.ref q4l, .int 160, .int (-1)])), (q4l, .inl (k4, 160, .inr (.inl (fun _ => 0)))), (q5, .inr (0, [.ref q5l, .int 160, .int (-1)])), (q5l, .inl (k5, 160, .inr (.inl (fun _ => 0))))] := hD
  exact W.vret hx hb hr (fun t ht hW => ⟨⟨(), rfl, trivial, q1, q2, q2l, q3, q3l, q4, q4l, q5, q5l, k1, k2, k3, k4, k5, by rw [ht]; exact hP, va_K.moved hW.alike hK, hD⟩, hS.F ht⟩) hS.2.2 dX1_init_57
abbrev w_X2_init : List Cond := Cond.code yX2_init cX2_init 1 none :: wsL_law
set_option maxHeartbeats 4000000 in
set_option maxRecDepth 100000 in
theorem c_X2_init (l : Launch) (dC : Nat → ClassId) (dI : Nat → Nat → Nat) (a_this : Nat) (sz : Nat) : Met l yX2_init w_X2_init ({ frames := 1, cells := 5, slots := 21560, locals := 20 } : Room) (va_Pc [.ref a_this] (fun U => U.heap.size = sz ∧ va_P (dC, dI) vwCl [(a_this, .inr (2, [.int 0, .null, .int 0, .null, .null, .null, .null, .int 0, .int 0]))] U.heap ∧ va_K (dC, dI) vwCl [] U ∧ va_D (fun _ => True) [(a_this, .inr (2, [.int 0, .null, .int 0, .null, .null, .null, .null, .int 0, .int 0]))])) (va_Qv (fun (_ : Unit) => True) (fun _ t => ∃ (q1 q2 q3 q4 q5 : Nat) (k1 k2 k3 k4 k5 : ClassId), va_P (dC, dI) vwCl [(a_this, .inr (2, [.int 0, .ref q1, .int 0, .ref q2, .ref q3, .ref q4, .ref q5, .int 0, .int 0])), (q1, .inl (k1, 400, .inl (fun _ => 0))), (q2, .inl (k2, 7000, .inl (fun _ => 0))), (q3, .inl (k3, 7000, .inl (fun _ => 0))), (q4, .inl (k4, 7000, .inl (fun _ => 0))), (q5, .inl (k5, 160, .inr (.inl (fun _ => 0))))] t.heap ∧ va_K (dC, dI) vwCl [(k1, .int), (k2, .int), (k3, .int), (k4, .int), (k5, .long)] t ∧ va_D (va_A [(a_this, .inr (2, [.int 0, .null, .int 0, .null, .null, .null, .null, .int 0, .int 0]))] sz) [(a_this, .inr (2, [.int 0, .ref q1, .int 0, .ref q2, .ref q3, .ref q4, .ref q5, .int 0, .int 0])), (q1, .inl (k1, 400, .inl (fun _ => 0))), (q2, .inl (k2, 7000, .inl (fun _ => 0))), (q3, .inl (k3, 7000, .inl (fun _ => 0))), (q4, .inl (k4, 7000, .inl (fun _ => 0))), (q5, .inl (k5, 160, .inr (.inl (fun _ => 0))))]) (va_A [(a_this, .inr (2, [.int 0, .null, .int 0, .null, .null, .null, .null, .int 0, .int 0]))] sz)) 5 21560 (va_A [(a_this, .inr (2, [.int 0, .null, .int 0, .null, .null, .null, .null, .int 0, .int 0]))] sz) := by
  refine Met.ofW (cc := cX2_init) (maxL := 1) (ret := none) (by decide) rfl ?_
  intro p e s m args below meth c s₁ B hml hv
  obtain ⟨rfl, hsz, hP, hK, hD0⟩ := hv
  have hx := B.exec
  have hb := B.bytes
  have hr := B.returns
  have hws : ∀ w ∈ wsL_law, w.before _ s = true := fun w hw => atoms_spec (ws := w_X2_init) B.pre w (List.mem_cons_of_mem _ hw)
  have hown : s.vm.findClass RX2 = some m.cls := findClass_of_methodNamed B.named
  have hlocks := B.notSynchronized
  have hin : meth.name = "<init>" := (name_of_methodNamed B.named B.method).1
  subst hsz
  have hD := hD0.self (sz := s.heap.size)
  generalize hAe : va_A [(a_this, .inr (2, [.int 0, .null, .int 0, .null, .null, .null, .null, .int 0, .int 0]))] s.heap.size = A at hD ⊢
  have hA : ∀ q : Nat, s.heap.size ≤ q → A q := fun q h => by rw [← hAe]; exact Or.inr h
  have hS : va_S A s.heap s.heap [] := va_S.rf
  have hl := lv_entry ([.ref a_this]) (n := 1) (Nat.le_of_ble_eq_true rfl)
  rw [lg_entry_eq]
  generalize (lg_sl ([.ref a_this]) ++ List.replicate (1 - (lg_sl ([.ref a_this])).length) Slot.unset).toArray = ls at hl ⊢
  have hl : lv_has ls 1 [(0, .ref a_this)] := hl
  refine lv_aload_n hx hb dX2_init_0 rfl (lv_at hl 0 rfl) ?_
  refine W.objInit hx hb hown (hws _ ww_33) (hws _ ww_12) (hws _ ww_13) rfl (by rw [hml]; exact hl.1) rfl dX2_init_1 (Nat.le_of_ble_eq_true rfl) (Nat.le_of_ble_eq_true rfl) ?_
  refine W.eq (g2 := F0 m 4 ls []) rfl ?_
  refine lv_aload_n hx hb dX2_init_4 rfl (lv_at hl 0 rfl) ?_
  refine lv_sipush (v := 400) hx hb dX2_init_5 (by decide) ?_
  refine va_newa (atype := .int) (ty := .int) (n := 400) (a0 := (400, .inl (fun _ => 0))) (N' := 400) hx hb (hws _ ww_14) rfl hK hP hD hS hA (fun _ => rfl) (by decide) (by decide) (by decide) (Nat.le_of_ble_eq_true rfl) (Nat.le_of_ble_eq_true rfl) dX2_init_8 (fun q1 k1 H hK hP hD hS => ?_)
  have hP : va_P (dC, dI) vwCl [(a_this, .inr (2, [.int 0, .null, .int 0, .null, .null, .null, .null, .int 0, .int 0])), (q1, .inl (k1, 400, .inl (fun _ => 0)))] H := hP
  have hD : va_D A [(a_this, .inr (2, [.int 0, .null, .int 0, .null, .null, .null, .null, .int 0, .int 0])), (q1, .inl (k1, 400, .inl (fun _ => 0)))] := hD
  have hK : va_K (dC, dI) vwCl [(k1, .int)] s := hK
  refine W.widen (k := 1) (n := 400) (by decide) (by decide) ?_
  refine va_putF (D := (dC, dI)) (ci := 2) (v := .ref q1) (ty := (.array .int)) (C := RX2) (T := TX2) (N := 9) hx hb hws inlX2 tyX2 tyX2_ok nmX2 hown hK hP hD hS 0 rfl rfl 1 (by decide) (hws _ ww_34) (fun _ h9 => h9) rfl hin rfl (by decide +kernel) rfl rfl (Nat.le_of_ble_eq_true rfl) dX2_init_10 (fun H locs hP hD hS => ?_)
  have hP : va_P (dC, dI) vwCl [(a_this, .inr (2, [.int 0, .ref q1, .int 0, .null, .null, .null, .null, .int 0, .int 0])), (q1, .inl (k1, 400, .inl (fun _ => 0)))] H := hP
  have hD : va_D A [(a_this, .inr (2, [.int 0, .ref q1, .int 0, .null, .null, .null, .null, .int 0, .int 0])), (q1, .inl (k1, 400, .inl (fun _ => 0)))] := hD
  refine lv_aload_n hx hb dX2_init_13 rfl (lv_at hl 0 rfl) ?_
  refine lv_sipush (v := 7000) hx hb dX2_init_14 (by decide) ?_
  refine va_newa (atype := .int) (ty := .int) (n := 7000) (a0 := (7000, .inl (fun _ => 0))) (N' := 7000) hx hb (hws _ ww_14) rfl hK hP hD hS hA (fun _ => rfl) (by decide) (by decide) (by decide) (Nat.le_of_ble_eq_true rfl) (Nat.le_of_ble_eq_true rfl) dX2_init_17 (fun q2 k2 H hK hP hD hS => ?_)
  have hP : va_P (dC, dI) vwCl [(a_this, .inr (2, [.int 0, .ref q1, .int 0, .null, .null, .null, .null, .int 0, .int 0])), (q1, .inl (k1, 400, .inl (fun _ => 0))), (q2, .inl (k2, 7000, .inl (fun _ => 0)))] H := hP
  have hD : va_D A [(a_this, .inr (2, [.int 0, .ref q1, .int 0, .null, .null, .null, .null, .int 0, .int 0])), (q1, .inl (k1, 400, .inl (fun _ => 0))), (q2, .inl (k2, 7000, .inl (fun _ => 0)))] := hD
  have hK : va_K (dC, dI) vwCl [(k1, .int), (k2, .int)] s := hK
  refine W.widen (k := 2) (n := 7400) (by decide) (by decide) ?_
  refine va_putF (D := (dC, dI)) (ci := 2) (v := .ref q2) (ty := (.array .int)) (C := RX2) (T := TX2) (N := 9) hx hb hws inlX2 tyX2 tyX2_ok nmX2 hown hK hP hD hS 0 rfl rfl 3 (by decide) (hws _ ww_35) (fun _ h9 => h9) rfl hin rfl (by decide +kernel) rfl rfl (Nat.le_of_ble_eq_true rfl) dX2_init_19 (fun H locs hP hD hS => ?_)
  have hP : va_P (dC, dI) vwCl [(a_this, .inr (2, [.int 0, .ref q1, .int 0, .ref q2, .null, .null, .null, .int 0, .int 0])), (q1, .inl (k1, 400, .inl (fun _ => 0))), (q2, .inl (k2, 7000, .inl (fun _ => 0)))] H := hP
  have hD : va_D A [(a_this, .inr (2, [.int 0, .ref q1, .int 0, .ref q2, .null, .null, .null, .int 0, .int 0])), (q1, .inl (k1, 400, .inl (fun _ => 0))), (q2, .inl (k2, 7000, .inl (fun _ => 0)))] := hD
  refine lv_aload_n hx hb dX2_init_22 rfl (lv_at hl 0 rfl) ?_
  refine lv_sipush (v := 7000) hx hb dX2_init_23 (by decide) ?_
  refine va_newa (atype := .int) (ty := .int) (n := 7000) (a0 := (7000, .inl (fun _ => 0))) (N' := 7000) hx hb (hws _ ww_14) rfl hK hP hD hS hA (fun _ => rfl) (by decide) (by decide) (by decide) (Nat.le_of_ble_eq_true rfl) (Nat.le_of_ble_eq_true rfl) dX2_init_26 (fun q3 k3 H hK hP hD hS => ?_)
  have hP : va_P (dC, dI) vwCl [(a_this, .inr (2, [.int 0, .ref q1, .int 0, .ref q2, .null, .null, .null, .int 0, .int 0])), (q1, .inl (k1, 400, .inl (fun _ => 0))), (q2, .inl (k2, 7000, .inl (fun _ => 0))), (q3, .inl (k3, 7000, .inl (fun _ => 0)))] H := hP
  have hD : va_D A [(a_this, .inr (2, [.int 0, .ref q1, .int 0, .ref q2, .null, .null, .null, .int 0, .int 0])), (q1, .inl (k1, 400, .inl (fun _ => 0))), (q2, .inl (k2, 7000, .inl (fun _ => 0))), (q3, .inl (k3, 7000, .inl (fun _ => 0)))] := hD
  have hK : va_K (dC, dI) vwCl [(k1, .int), (k2, .int), (k3, .int)] s := hK
  refine W.widen (k := 3) (n := 14400) (by decide) (by decide) ?_
  refine va_putF (D := (dC, dI)) (ci := 2) (v := .ref q3) (ty := (.array .int)) (C := RX2) (T := TX2) (N := 9) hx hb hws inlX2 tyX2 tyX2_ok nmX2 hown hK hP hD hS 0 rfl rfl 4 (by decide) (hws _ ww_36) (fun _ h9 => h9) rfl hin rfl (by decide +kernel) rfl rfl (Nat.le_of_ble_eq_true rfl) dX2_init_28 (fun H locs hP hD hS => ?_)
  have hP : va_P (dC, dI) vwCl [(a_this, .inr (2, [.int 0, .ref q1, .int 0, .ref q2, .ref q3, .null, .null, .int 0, .int 0])), (q1, .inl (k1, 400, .inl (fun _ => 0))), (q2, .inl (k2, 7000, .inl (fun _ => 0))), (q3, .inl (k3, 7000, .inl (fun _ => 0)))] H := hP
  have hD : va_D A [(a_this, .inr (2, [.int 0, .ref q1, .int 0, .ref q2, .ref q3, .null, .null, .int 0, .int 0])), (q1, .inl (k1, 400, .inl (fun _ => 0))), (q2, .inl (k2, 7000, .inl (fun _ => 0))), (q3, .inl (k3, 7000, .inl (fun _ => 0)))] := hD
  refine lv_aload_n hx hb dX2_init_31 rfl (lv_at hl 0 rfl) ?_
  refine lv_sipush (v := 7000) hx hb dX2_init_32 (by decide) ?_
  refine va_newa (atype := .int) (ty := .int) (n := 7000) (a0 := (7000, .inl (fun _ => 0))) (N' := 7000) hx hb (hws _ ww_14) rfl hK hP hD hS hA (fun _ => rfl) (by decide) (by decide) (by decide) (Nat.le_of_ble_eq_true rfl) (Nat.le_of_ble_eq_true rfl) dX2_init_35 (fun q4 k4 H hK hP hD hS => ?_)
  have hP : va_P (dC, dI) vwCl [(a_this, .inr (2, [.int 0, .ref q1, .int 0, .ref q2, .ref q3, .null, .null, .int 0, .int 0])), (q1, .inl (k1, 400, .inl (fun _ => 0))), (q2, .inl (k2, 7000, .inl (fun _ => 0))), (q3, .inl (k3, 7000, .inl (fun _ => 0))), (q4, .inl (k4, 7000, .inl (fun _ => 0)))] H := hP
  have hD : va_D A [(a_this, .inr (2, [.int 0, .ref q1, .int 0, .ref q2, .ref q3, .null, .null, .int 0, .int 0])), (q1, .inl (k1, 400, .inl (fun _ => 0))), (q2, .inl (k2, 7000, .inl (fun _ => 0))), (q3, .inl (k3, 7000, .inl (fun _ => 0))), (q4, .inl (k4, 7000, .inl (fun _ => 0)))] := hD
  have hK : va_K (dC, dI) vwCl [(k1, .int), (k2, .int), (k3, .int), (k4, .int)] s := hK
  refine W.widen (k := 4) (n := 21400) (by decide) (by decide) ?_
  refine va_putF (D := (dC, dI)) (ci := 2) (v := .ref q4) (ty := (.array .int)) (C := RX2) (T := TX2) (N := 9) hx hb hws inlX2 tyX2 tyX2_ok nmX2 hown hK hP hD hS 0 rfl rfl 5 (by decide) (hws _ ww_37) (fun _ h9 => h9) rfl hin rfl (by decide +kernel) rfl rfl (Nat.le_of_ble_eq_true rfl) dX2_init_37 (fun H locs hP hD hS => ?_)
  have hP : va_P (dC, dI) vwCl [(a_this, .inr (2, [.int 0, .ref q1, .int 0, .ref q2, .ref q3, .ref q4, .null, .int 0, .int 0])), (q1, .inl (k1, 400, .inl (fun _ => 0))), (q2, .inl (k2, 7000, .inl (fun _ => 0))), (q3, .inl (k3, 7000, .inl (fun _ => 0))), (q4, .inl (k4, 7000, .inl (fun _ => 0)))] H := hP
  have hD : va_D A [(a_this, .inr (2, [.int 0, .ref q1, .int 0, .ref q2, .ref q3, .ref q4, .null, .int 0, .int 0])), (q1, .inl (k1, 400, .inl (fun _ => 0))), (q2, .inl (k2, 7000, .inl (fun _ => 0))), (q3, .inl (k3, 7000, .inl (fun _ => 0))), (q4, .inl (k4, 7000, .inl (fun _ => 0)))] := hD
  refine lv_aload_n hx hb dX2_init_40 rfl (lv_at hl 0 rfl) ?_
  refine lv_sipush (v := 160) hx hb dX2_init_41 (by decide) ?_
  refine va_newa (atype := .long) (ty := .long) (n := 160) (a0 := (160, .inr (.inl (fun _ => 0)))) (N' := 160) hx hb (hws _ ww_6) rfl hK hP hD hS hA (fun _ => rfl) (by decide) (by decide) (by decide) (Nat.le_of_ble_eq_true rfl) (Nat.le_of_ble_eq_true rfl) dX2_init_44 (fun q5 k5 H hK hP hD hS => ?_)
  have hP : va_P (dC, dI) vwCl [(a_this, .inr (2, [.int 0, .ref q1, .int 0, .ref q2, .ref q3, .ref q4, .null, .int 0, .int 0])), (q1, .inl (k1, 400, .inl (fun _ => 0))), (q2, .inl (k2, 7000, .inl (fun _ => 0))), (q3, .inl (k3, 7000, .inl (fun _ => 0))), (q4, .inl (k4, 7000, .inl (fun _ => 0))), (q5, .inl (k5, 160, .inr (.inl (fun _ => 0))))] H := hP
  have hD : va_D A [(a_this, .inr (2, [.int 0, .ref q1, .int 0, .ref q2, .ref q3, .ref q4, .null, .int 0, .int 0])), (q1, .inl (k1, 400, .inl (fun _ => 0))), (q2, .inl (k2, 7000, .inl (fun _ => 0))), (q3, .inl (k3, 7000, .inl (fun _ => 0))), (q4, .inl (k4, 7000, .inl (fun _ => 0))), (q5, .inl (k5, 160, .inr (.inl (fun _ => 0))))] := hD
  have hK : va_K (dC, dI) vwCl [(k1, .int), (k2, .int), (k3, .int), (k4, .int), (k5, .long)] s := hK
  refine W.widen (k := 5) (n := 21560) (by decide) (by decide) ?_
  refine va_putF (D := (dC, dI)) (ci := 2) (v := .ref q5) (ty := (.array .long)) (C := RX2) (T := TX2) (N := 9) hx hb hws inlX2 tyX2 tyX2_ok nmX2 hown hK hP hD hS 0 rfl rfl 6 (by decide) (hws _ ww_38) (fun _ h9 => h9) rfl hin rfl (by decide +kernel) rfl rfl (Nat.le_of_ble_eq_true rfl) dX2_init_46 (fun H locs hP hD hS => ?_)
  have hP : va_P (dC, dI) vwCl [(a_this, .inr (2, [.int 0, .ref q1, .int 0, .ref q2, .ref q3, .ref q4, .ref q5, .int 0, .int 0])), (q1, .inl (k1, 400, .inl (fun _ => 0))), (q2, .inl (k2, 7000, .inl (fun _ => 0))), (q3, .inl (k3, 7000, .inl (fun _ => 0))), (q4, .inl (k4, 7000, .inl (fun _ => 0))), (q5, .inl (k5, 160, .inr (.inl (fun _ => 0))))] H := hP
  have hD : va_D A [(a_this, .inr (2, [.int 0, .ref q1, .int 0, .ref q2, .ref q3, .ref q4, .ref q5, .int 0, .int 0])), (q1, .inl (k1, 400, .inl (fun _ => 0))), (q2, .inl (k2, 7000, .inl (fun _ => 0))), (q3, .inl (k3, 7000, .inl (fun _ => 0))), (q4, .inl (k4, 7000, .inl (fun _ => 0))), (q5, .inl (k5, 160, .inr (.inl (fun _ => 0))))] := hD
  exact W.vret hx hb hr (fun t ht hW => ⟨⟨(), rfl, trivial, q1, q2, q3, q4, q5, k1, k2, k3, k4, k5, by rw [ht]; exact hP, va_K.moved hW.alike hK, hD⟩, hS.F ht⟩) hS.2.2 dX2_init_49
end
section
theorem zz_last : True := trivial
end
