theorem in_by {big : List Cond} (ws : List Cond) (ps : List Nat) (hp : ws = ps.filterMap (fun i => big[i]?)) : ∀ w ∈ ws, w ∈ big := by
  intro w hw
  rw [hp] at hw
  obtain ⟨i, -, hi⟩ := List.mem_filterMap.mp hw
  first | exact List.mem_of_getElem? hi | exact List.getElem?_mem hi
set_option maxRecDepth 100000 in
theorem wi_1 : ∀ w ∈ wsL_law0_r1, w ∈ lw_tbl := in_by _ [53, 54, 41, 439, 440, 43, 78, 581, 55, 56, 57, 58, 59, 60, 77, 79, 61, 62, 42, 85, 86, 87, 88, 63] rfl
set_option maxRecDepth 100000 in
theorem wi_2 : ∀ w ∈ wsL_law0_r2, w ∈ lw_tbl := in_by _ [64, 65, 66, 67, 68, 69, 441, 442, 443, 444, 446, 448, 449, 450, 451, 110, 111, 112, 113, 80, 477, 478, 479, 480] rfl
set_option maxRecDepth 100000 in
theorem wi_3 : ∀ w ∈ wsL_law0_r3, w ∈ lw_tbl := in_by _ [445, 447, 114, 115, 40, 116, 117, 118, 119, 120, 121, 122, 123, 47, 186, 48, 201, 203, 1, 204, 481, 482, 483, 484] rfl
set_option maxRecDepth 100000 in
theorem wi_4 : ∀ w ∈ wsL_law0_r4, w ∈ lw_tbl := in_by _ [473, 474, 475, 476, 205, 206, 207, 208, 209, 210, 211, 338, 212, 214, 2, 215, 81, 82, 83, 84, 216, 218, 3, 219] rfl
set_option maxRecDepth 100000 in
theorem wi_5 : ∀ w ∈ wsL_law0_r5, w ∈ lw_tbl := in_by _ [220, 222, 4, 223, 224, 226, 5, 227, 228, 230, 6, 231, 240, 232, 234, 7, 235, 236, 238, 8, 239, 241, 242, 243] rfl
set_option maxRecDepth 100000 in
theorem wi_6 : ∀ w ∈ wsL_law0_r6, w ∈ lw_tbl := in_by _ [244, 245, 246, 247, 248, 263, 264, 49, 265, 266, 267, 268, 249, 250, 251, 252, 253, 49, 254, 255, 256, 257, 258, 260] rfl
set_option maxRecDepth 100000 in
theorem wi_7 : ∀ w ∈ wsL_law0_r7, w ∈ lw_tbl := in_by _ [261, 262, 269, 271, 9, 272, 273, 274, 275, 276, 277, 278, 279, 280, 281, 283, 10, 284, 285, 286, 288, 11, 289, 290] rfl
set_option maxRecDepth 100000 in
theorem wi_8 : ∀ w ∈ wsL_law0_r8, w ∈ lw_tbl := in_by _ [292, 12, 293, 294, 296, 13, 297, 309, 298, 299, 300, 301, 302, 303, 50, 304, 305, 306, 51, 307, 308, 310, 311, 312] rfl
set_option maxRecDepth 100000 in
theorem wi_9 : ∀ w ∈ wsL_law0_r9, w ∈ lw_tbl := in_by _ [313, 314, 315, 317, 14, 318, 327, 319, 321, 15, 322, 323, 325, 16, 326, 328, 329, 330, 331, 333, 17, 334, 335, 336] rfl
set_option maxRecDepth 100000 in
theorem wi_10 : ∀ w ∈ wsL_law0_r10, w ∈ lw_tbl := in_by _ [337, 485, 486, 487, 488, 453, 550, 489, 491, 25, 492, 493, 495, 26, 496, 497, 499, 27, 500, 501, 503, 28, 504, 505] rfl
set_option maxRecDepth 100000 in
theorem wi_11 : ∀ w ∈ wsL_law0_r11, w ∈ lw_tbl := in_by _ [507, 29, 508, 509, 511, 30, 512, 513, 514, 515, 516, 518, 31, 519, 520, 521, 522, 523, 524, 525, 526, 527, 528, 530] rfl
set_option maxRecDepth 100000 in
theorem wi_12 : ∀ w ∈ wsL_law0_r12, w ∈ lw_tbl := in_by _ [32, 531, 452, 532, 533, 538, 539, 540, 541, 534, 536, 33, 537, 542, 544, 34, 545, 546, 548, 35, 549, 339, 340, 341] rfl
set_option maxRecDepth 100000 in
theorem wi_13 : ∀ w ∈ wsL_law0_r13, w ∈ lw_tbl := in_by _ [342, 343, 344, 345, 357, 346, 347, 348, 349, 350, 351, 352, 353, 354, 355, 356, 358, 359, 360, 361, 362, 363, 365, 18] rfl
set_option maxRecDepth 100000 in
theorem wi_14 : ∀ w ∈ wsL_law0_r14, w ∈ lw_tbl := in_by _ [366, 367, 368, 369, 370, 371, 373, 19, 374, 375, 376, 377, 378, 379, 551, 552, 553, 554, 563, 555, 557, 36, 558, 559] rfl
set_option maxRecDepth 100000 in
theorem wi_15 : ∀ w ∈ wsL_law0_r15, w ∈ lw_tbl := in_by _ [561, 37, 562, 564, 566, 38, 567, 380, 381, 382, 383, 384, 385, 386, 387, 389, 20, 390, 391, 392, 393, 394, 396, 21] rfl
set_option maxRecDepth 100000 in
theorem wi_16 : ∀ w ∈ wsL_law0_r16, w ∈ lw_tbl := in_by _ [397, 403, 398, 400, 22, 401, 402, 404, 406, 23, 407, 408, 410, 24, 411, 412, 413, 414, 415, 568, 569, 570, 571, 572] rfl
set_option maxRecDepth 100000 in
theorem wi_17 : ∀ w ∈ wsL_law0_r17, w ∈ lw_tbl := in_by _ [573, 575, 39, 576, 416, 417, 418, 419, 420, 421, 422, 423, 424, 52, 577, 578, 579, 580] rfl
set_option maxRecDepth 100000 in
theorem wf_X1 : ∀ w ∈ wsX10, w ∈ lw_tbl := in_by _ [89, 91, 93, 95, 97, 99, 101, 103, 105, 107] rfl
set_option maxRecDepth 100000 in
theorem wf_X2 : ∀ w ∈ wsX20, w ∈ lw_tbl := in_by _ [454, 456, 458, 460, 462, 464, 466, 468, 470] rfl
set_option maxRecDepth 100000 in
theorem wf_X0 : ∀ w ∈ wsX00, w ∈ lw_tbl := in_by _ [70, 72, 74] rfl
set_option maxRecDepth 100000 in
theorem wx_1 : ∀ w ∈ (vx_at0 RX1 35 "java/lang/IllegalArgumentException" ["java/lang/RuntimeException", "java/lang/Exception"]).filter goodWord, w ∈ lw_tbl := by decide +kernel
set_option maxRecDepth 100000 in
theorem wx_2 : ∀ w ∈ (vx_at0 RX1 38 "java/lang/IllegalStateException" ["java/lang/RuntimeException", "java/lang/Exception"]).filter goodWord, w ∈ lw_tbl := by decide +kernel
set_option maxRecDepth 100000 in
theorem wx_3 : ∀ w ∈ (vx_at0 RX1 103 "java/util/NoSuchElementException" ["java/lang/RuntimeException", "java/lang/Exception"]).filter goodWord, w ∈ lw_tbl := by decide +kernel
theorem mem_app {big a b : List Cond} (ha : ∀ w ∈ a, w ∈ big) (hb : ∀ w ∈ b, w ∈ big) : ∀ w ∈ a ++ b, w ∈ big := fun w h => (List.mem_append.mp h).elim (ha w) (hb w)
theorem wsL_in0 : ∀ w ∈ wsL_law0, w ∈ lw_tbl := mem_app (mem_app (mem_app (mem_app (mem_app wi_1 (mem_app wi_2 (mem_app wi_3 (mem_app wi_4 (mem_app wi_5 (mem_app wi_6 (mem_app wi_7 (mem_app wi_8 (mem_app wi_9 (mem_app wi_10 (mem_app wi_11 (mem_app wi_12 (mem_app wi_13 (mem_app wi_14 (mem_app wi_15 (mem_app wi_16 wi_17)))))))))))))))) wf_X1) wf_X2) wf_X0) (fun _ h => absurd h List.not_mem_nil)
theorem wsL_in : ∀ w ∈ wsL_law, w ∈ lw_tbl := mem_app (mem_app (mem_app wsL_in0 wx_1) wx_2) wx_3

set_option maxRecDepth 100000 in
theorem tw_1 : Cond.laysStatic "java/lang/Throwable" "UNASSIGNED_STACK" "[Ljava/lang/StackTraceElement;" ∈ lw_tbl := List.mem_of_getElem? (i := 150) rfl
set_option maxRecDepth 100000 in
theorem tw_2 : Cond.laysStatic "java/lang/Throwable" "SUPPRESSED_SENTINEL" "Ljava/util/List;" ∈ lw_tbl := List.mem_of_getElem? (i := 152) rfl
set_option maxRecDepth 100000 in
theorem tw_3 : Cond.laysStatic "DoubleText$Decimal" "TENS" "[J" ∈ lw_tbl := List.mem_of_getElem? (i := 259) rfl
set_option maxRecDepth 100000 in
theorem tw_4 : Cond.initialized "java/lang/Throwable" ∈ lw_tbl := List.mem_of_getElem? (i := 44) rfl
set_option maxRecDepth 100000 in
theorem tw_5 : Cond.initialized "DoubleText$Decimal" ∈ lw_tbl := List.mem_of_getElem? (i := 42) rfl
set_option maxRecDepth 100000 in
theorem tw_6 : Cond.declares (Bundle.init0 "java/lang/RuntimeException") ∈ lw_tbl := List.mem_of_getElem? (i := 126) rfl
set_option maxRecDepth 100000 in
theorem tw_7 : Cond.declares (Bundle.init0 "java/lang/Exception") ∈ lw_tbl := List.mem_of_getElem? (i := 128) rfl
set_option maxRecDepth 100000 in
theorem tw_8 : Cond.declares (Bundle.init0 "java/lang/Throwable") ∈ lw_tbl := List.mem_of_getElem? (i := 130) rfl
set_option maxRecDepth 100000 in
theorem tw_9 : Cond.castable "java/lang/IllegalArgumentException" "java/lang/IllegalArgumentException" ∈ lw_tbl := List.mem_of_getElem? (i := 125) rfl
set_option maxRecDepth 100000 in
theorem tw_10 : Cond.castable "java/lang/IllegalStateException" "java/lang/IllegalStateException" ∈ lw_tbl := List.mem_of_getElem? (i := 188) rfl
set_option maxRecDepth 100000 in
theorem tw_11 : Cond.castable "java/util/NoSuchElementException" "java/util/NoSuchElementException" ∈ lw_tbl := List.mem_of_getElem? (i := 426) rfl
