theorem rn_cons {big : List Cond} {c : Cond} {b : List Cond} (hc : c ∈ big) (hb : ∀ w ∈ b, w ∈ big) : ∀ w ∈ c :: b, w ∈ big := fun w h => (List.mem_cons.mp h).elim (fun e => e ▸ hc) (hb w)
theorem rn_by_places {big : List Cond} (ws : List Cond) (ps : List Nat) (hp : ws = ps.filterMap (fun i => big[i]?)) : ∀ w ∈ ws, w ∈ big := by
  intro w hw
  rw [hp] at hw
  obtain ⟨i, -, hi⟩ := List.mem_filterMap.mp hw
  exact List.mem_of_getElem? hi
theorem rn_app {big a b : List Cond} (ha : ∀ w ∈ a, w ∈ big) (hb : ∀ w ∈ b, w ∈ big) : ∀ w ∈ a ++ b, w ∈ big := fun w h => (List.mem_append.mp h).elim (ha w) (hb w)
set_option maxRecDepth 20000 in
theorem wsL_law0_r1_in : ∀ w ∈ wsL_law0_r1, w ∈ lw_tbl := fun w h => rn_by_places wsL_law0_r1 [19, 20, 8, 21, 22, 23, 24, 25, 26, 27, 28, 9, 75, 76, 53, 77, 55, 10, 78, 73, 79, 80, 81, 82] (by decide +kernel) w h
set_option maxRecDepth 20000 in
theorem wsL_law0_r2_in : ∀ w ∈ wsL_law0_r2, w ∈ lw_tbl := fun w h => rn_by_places wsL_law0_r2 [83, 29, 30, 31, 32, 33, 35, 38, 41, 56, 57, 58, 59, 60, 62, 64, 103, 104, 7, 105, 106, 107, 108, 109] (by decide +kernel) w h
set_option maxRecDepth 20000 in
theorem wsL_law0_r3_h0 : Cond.code yL_refuses cL_refuses 12 (some .boolean) ∈ lw_tbl := List.mem_of_getElem? (i := 110) rfl
set_option maxRecDepth 20000 in
theorem wsL_law0_r3_in : ∀ w ∈ wsL_law0_r3, w ∈ lw_tbl := (rn_cons wsL_law0_r3_h0 (fun w h => rn_by_places [Cond.constant RL 15 (-2000000001), Cond.constant RL 25 (-2000000002), Cond.constant RL 18 (-2000000003), Cond.methodLink RL 78 yX4_rooms, Cond.instanceMethod yX4_rooms, Cond.selects RX4 yX4_rooms yX4_rooms, Cond.code yX4_rooms cX4_rooms 1 (some .int), Cond.methodLink RL 82 yX4_processes, Cond.instanceMethod yX4_processes, Cond.selects RX4 yX4_processes yX4_processes, Cond.code yX4_processes cX4_processes 1 (some .int), Cond.methodLink RL 85 yX4_files, Cond.instanceMethod yX4_files, Cond.selects RX4 yX4_files yX4_files, Cond.code yX4_files cX4_files 1 (some .int), Cond.methodLink RL 88 yX4_refusals, Cond.instanceMethod yX4_refusals, Cond.selects RX4 yX4_refusals yX4_refusals, Cond.code yX4_refusals cX4_refusals 1 (some .int), Cond.methodLink RL 91 yL_makes, Cond.static yL_makes, Cond.codeWith yL_makes cL_makes 3 (some .int) [(0, 5, 6, 13), (0, 5, 10, 16)], Cond.classLink RL 13 "java/lang/IndexOutOfBoundsException"] [228, 288, 229, 111, 112, 113, 114, 115, 116, 117, 118, 119, 120, 121, 122, 123, 124, 125, 126, 127, 128, 129, 130] (by decide +kernel) w h))
set_option maxRecDepth 20000 in
theorem wsL_law0_r4_in : ∀ w ∈ wsL_law0_r4, w ∈ lw_tbl := fun w h => rn_by_places wsL_law0_r4 [131, 132, 133, 134, 135, 208, 15, 61, 63, 34, 136, 138, 0, 139, 140, 14, 224, 225, 226, 227, 230, 231, 232, 233] (by decide +kernel) w h
set_option maxRecDepth 20000 in
theorem wsL_law0_r5_in : ∀ w ∈ wsL_law0_r5, w ∈ lw_tbl := fun w h => rn_by_places wsL_law0_r5 [234, 235, 236, 237, 241, 16, 262, 263, 17, 238, 239, 240, 258, 259, 260, 278, 264, 265, 266, 267, 268, 270, 273, 276] (by decide +kernel) w h
set_option maxRecDepth 20000 in
theorem wsL_law0_r6_in : ∀ w ∈ wsL_law0_r6, w ∈ lw_tbl := fun w h => rn_by_places wsL_law0_r6 [289, 290, 291, 292, 293, 294, 295, 36, 42, 39, 272, 296, 298, 2, 299, 302, 304, 3, 305, 306, 307, 308, 309, 310] (by decide +kernel) w h
set_option maxRecDepth 20000 in
theorem wsL_law0_r7_in : ∀ w ∈ wsL_law0_r7, w ∈ lw_tbl := fun w h => rn_by_places wsL_law0_r7 [311, 312, 313, 314, 315, 316, 317, 318, 275, 319, 320, 321, 322, 323, 324, 325, 269, 274, 271, 277, 326, 327, 328, 329] (by decide +kernel) w h
set_option maxRecDepth 20000 in
theorem wsL_law0_r8_in : ∀ w ∈ wsL_law0_r8, w ∈ lw_tbl := fun w h => rn_by_places wsL_law0_r8 [330, 331, 332, 333, 334, 335, 336, 337, 338, 340, 4, 341, 37, 40, 343, 344, 345, 346, 347, 348, 349, 350, 351, 352] (by decide +kernel) w h
set_option maxRecDepth 20000 in
theorem wsL_law0_r9_in : ∀ w ∈ wsL_law0_r9, w ∈ lw_tbl := fun w h => rn_by_places wsL_law0_r9 [353, 354, 355, 356, 357, 358, 359, 360, 361, 362, 363, 364, 365, 366, 367, 368, 369, 371, 5, 372, 373, 374, 375, 376] (by decide +kernel) w h
set_option maxRecDepth 20000 in
theorem wsL_law0_r10_in : ∀ w ∈ wsL_law0_r10, w ∈ lw_tbl := fun w h => rn_by_places wsL_law0_r10 [377, 378, 379, 380, 381, 382, 383, 384, 385, 386, 387, 388, 389, 390, 391, 65, 393, 394, 395, 396, 397, 398, 399, 401] (by decide +kernel) w h
set_option maxRecDepth 20000 in
theorem wsL_law0_r11_in : ∀ w ∈ wsL_law0_r11, w ∈ lw_tbl := fun w h => rn_by_places wsL_law0_r11 [402, 403, 404, 405, 406, 407, 408, 409, 410, 411, 412, 413, 414, 415, 416, 417, 418, 419, 420, 421, 422, 423, 424, 425] (by decide +kernel) w h
set_option maxRecDepth 20000 in
theorem wsL_law0_r12_in : ∀ w ∈ wsL_law0_r12, w ∈ lw_tbl := fun w h => rn_by_places wsL_law0_r12 [426, 427, 428, 429, 430, 431, 432, 433, 434, 435, 436, 437, 438, 439, 440, 441, 442, 443, 446, 18, 447, 448, 449, 450] (by decide +kernel) w h
set_option maxRecDepth 20000 in
theorem wsL_law0_r13_in : ∀ w ∈ wsL_law0_r13, w ∈ lw_tbl := fun w h => rn_by_places wsL_law0_r13 [451, 453, 459, 460, 461, 462, 463, 464, 465, 452, 466, 468, 6, 469, 471, 472, 473, 474, 475, 476, 477, 478, 479, 480] (by decide +kernel) w h
set_option maxRecDepth 20000 in
theorem wsL_law0_r14_h23 : Cond.code yL_ends cL_ends 12 (some .boolean) ∈ lw_tbl := List.mem_of_getElem? (i := 504) rfl
set_option maxRecDepth 20000 in
theorem wsL_law0_r14_h20 : Cond.code yL_holds cL_holds 9 (some .boolean) ∈ lw_tbl := List.mem_of_getElem? (i := 501) rfl
set_option maxRecDepth 20000 in
theorem wsL_law0_r14_h13 : Cond.code yL_alike cL_alike 6 (some .boolean) ∈ lw_tbl := List.mem_of_getElem? (i := 494) rfl
set_option maxRecDepth 20000 in
theorem wsL_law0_r14_h10 : Cond.code yL_act cL_act 6 (some .int) ∈ lw_tbl := List.mem_of_getElem? (i := 491) rfl
set_option maxRecDepth 20000 in
theorem wsL_law0_r14_in : ∀ w ∈ wsL_law0_r14, w ∈ lw_tbl := (rn_app (fun w h => rn_by_places [Cond.code yX0_allows cX0_allows 5 (some .boolean), Cond.methodLink RL 147 yL_owner, Cond.static yL_owner, Cond.codeWith yL_owner cL_owner 4 (some .int) [(0, 6, 7, 13)], Cond.methodLink RL 73 yX4_ownerSeenBy, Cond.instanceMethod yX4_ownerSeenBy, Cond.selects RX4 yX4_ownerSeenBy yX4_ownerSeenBy, Cond.code yX4_ownerSeenBy cX4_ownerSeenBy 4 (some .int), Cond.methodLink RL 162 yL_act, Cond.static yL_act] [481, 482, 483, 484, 485, 486, 487, 488, 489, 490] (by decide +kernel) w h) (rn_cons wsL_law0_r14_h10 (rn_app (fun w h => rn_by_places [Cond.methodLink RL 165 yL_alike, Cond.static yL_alike] [492, 493] (by decide +kernel) w h) (rn_cons wsL_law0_r14_h13 (rn_app (fun w h => rn_by_places [Cond.methodLink RL 150 yX4_lastRefusal, Cond.instanceMethod yX4_lastRefusal, Cond.selects RX4 yX4_lastRefusal yX4_lastRefusal, Cond.code yX4_lastRefusal cX4_lastRefusal 1 (some .int), Cond.methodLink RL 169 yL_holds, Cond.static yL_holds] [495, 496, 497, 498, 499, 500] (by decide +kernel) w h) (rn_cons wsL_law0_r14_h20 (rn_app (fun w h => rn_by_places [Cond.methodLink RL 172 yL_ends, Cond.static yL_ends] [502, 503] (by decide +kernel) w h) (rn_cons wsL_law0_r14_h23 (fun w h => rn_by_places [] [] (by decide +kernel) w h)))))))))
set_option maxRecDepth 20000 in
theorem wsX00_inT : ∀ w ∈ wsX00, w ∈ lw_tbl := fun w h => rn_by_places wsX00 [454, 456] (by decide +kernel) w h
set_option maxRecDepth 20000 in
theorem wsX10_inT : ∀ w ∈ wsX10, w ∈ lw_tbl := fun w h => rn_by_places wsX10 [66, 68, 70] (by decide +kernel) w h
set_option maxRecDepth 20000 in
theorem wsX20_inT : ∀ w ∈ wsX20, w ∈ lw_tbl := fun w h => rn_by_places wsX20 [279, 281, 283, 285] (by decide +kernel) w h
set_option maxRecDepth 20000 in
theorem wsX30_inT : ∀ w ∈ wsX30, w ∈ lw_tbl := fun w h => rn_by_places wsX30 [43, 45, 47, 49] (by decide +kernel) w h
set_option maxRecDepth 20000 in
theorem wsX40_inT : ∀ w ∈ wsX40, w ∈ lw_tbl := fun w h => rn_by_places wsX40 [84, 86, 88, 90, 92, 94, 96, 98, 100] (by decide +kernel) w h
set_option maxRecDepth 20000 in
theorem wsX50_inT : ∀ w ∈ wsX50, w ∈ lw_tbl := fun w h => rn_by_places wsX50 [] (by decide +kernel) w h
theorem wsL_law_in0 : ∀ w ∈ wsL_law0, w ∈ lw_tbl := rn_app (rn_app (rn_app (rn_app (rn_app (rn_app (rn_app wsL_law0_r1_in (rn_app wsL_law0_r2_in (rn_app wsL_law0_r3_in (rn_app wsL_law0_r4_in (rn_app wsL_law0_r5_in (rn_app wsL_law0_r6_in (rn_app wsL_law0_r7_in (rn_app wsL_law0_r8_in (rn_app wsL_law0_r9_in (rn_app wsL_law0_r10_in (rn_app wsL_law0_r11_in (rn_app wsL_law0_r12_in (rn_app wsL_law0_r13_in (wsL_law0_r14_in)))))))))))))) wsX40_inT) wsX30_inT) wsX10_inT) wsX20_inT) wsX00_inT) (fun _ h => nomatch h)
theorem wsL_law_x0 : ∀ w ∈ (vx_atS RX4 61 "java/lang/IllegalStateException" ["java/lang/RuntimeException", "java/lang/Exception"]).filter goodWord, w ∈ lw_tbl := by decide +kernel
theorem wsL_law_x1 : ∀ w ∈ (vx_atS RX4 107 "java/lang/IndexOutOfBoundsException" ["java/lang/RuntimeException", "java/lang/Exception"]).filter goodWord, w ∈ lw_tbl := by decide +kernel
theorem wsL_law_x2 : ∀ w ∈ (vx_atS RX4 84 "java/lang/IllegalArgumentException" ["java/lang/RuntimeException", "java/lang/Exception"]).filter goodWord, w ∈ lw_tbl := by decide +kernel
theorem wsL_law_in : ∀ w ∈ wsL_law, w ∈ lw_tbl := fun w h => (List.mem_append.mp h).elim (fun h => (List.mem_append.mp h).elim (fun h => (List.mem_append.mp h).elim (fun h => wsL_law_in0 w h) (fun h => wsL_law_x0 w h)) (fun h => wsL_law_x1 w h)) (fun h => wsL_law_x2 w h)
theorem inlX0 : ∀ w ∈ wsX00, w ∈ wsL_law := fun _ h => List.mem_append_left _ (List.mem_append_left _ (List.mem_append_left _ (List.mem_append_left _ (List.mem_append_right _ h))))
theorem inX0 : ∀ w ∈ wsX00, w ∈ lw_tbl := fun w h => wsL_law_in w (inlX0 w h)
theorem inlX1 : ∀ w ∈ wsX10, w ∈ wsL_law := fun _ h => List.mem_append_left _ (List.mem_append_left _ (List.mem_append_left _ (List.mem_append_left _ (List.mem_append_left _ (List.mem_append_left _ (List.mem_append_right _ h))))))
theorem inX1 : ∀ w ∈ wsX10, w ∈ lw_tbl := fun w h => wsL_law_in w (inlX1 w h)
theorem inlX2 : ∀ w ∈ wsX20, w ∈ wsL_law := fun _ h => List.mem_append_left _ (List.mem_append_left _ (List.mem_append_left _ (List.mem_append_left _ (List.mem_append_left _ (List.mem_append_right _ h)))))
theorem inX2 : ∀ w ∈ wsX20, w ∈ lw_tbl := fun w h => wsL_law_in w (inlX2 w h)
theorem inlX3 : ∀ w ∈ wsX30, w ∈ wsL_law := fun _ h => List.mem_append_left _ (List.mem_append_left _ (List.mem_append_left _ (List.mem_append_left _ (List.mem_append_left _ (List.mem_append_left _ (List.mem_append_left _ (List.mem_append_right _ h)))))))
theorem inX3 : ∀ w ∈ wsX30, w ∈ lw_tbl := fun w h => wsL_law_in w (inlX3 w h)
theorem inlX4 : ∀ w ∈ wsX40, w ∈ wsL_law := fun _ h => List.mem_append_left _ (List.mem_append_left _ (List.mem_append_left _ (List.mem_append_left _ (List.mem_append_left _ (List.mem_append_left _ (List.mem_append_left _ (List.mem_append_left _ (List.mem_append_right _ h))))))))
theorem inX4 : ∀ w ∈ wsX40, w ∈ lw_tbl := fun w h => wsL_law_in w (inlX4 w h)
theorem inX5 : ∀ w ∈ wsX50, w ∈ lw_tbl := by decide +kernel
theorem inJ0 : ∀ w ∈ wsJ00, w ∈ lw_tbl := by decide +kernel
