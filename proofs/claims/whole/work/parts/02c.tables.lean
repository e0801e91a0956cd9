theorem rn_by_places {big : List Cond} (ws : List Cond) (ps : List Nat) (hp : ws = ps.filterMap (fun i => big[i]?)) : ∀ w ∈ ws, w ∈ big := by
  intro w hw
  rw [hp] at hw
  obtain ⟨i, -, hi⟩ := List.mem_filterMap.mp hw
  exact List.mem_of_getElem? hi
theorem rn_app {big a b : List Cond} (ha : ∀ w ∈ a, w ∈ big) (hb : ∀ w ∈ b, w ∈ big) : ∀ w ∈ a ++ b, w ∈ big := fun w h => (List.mem_append.mp h).elim (ha w) (hb w)
set_option maxRecDepth 20000 in
theorem wsL_law0_r1_in : ∀ w ∈ wsL_law0_r1, w ∈ lw_tbl := fun w h => rn_by_places wsL_law0_r1 [36, 37, 24, 499, 500, 27, 731, 38, 39, 40, 41, 42, 43, 44, 45, 25, 92, 93, 70, 94, 72, 26, 95, 90] (by decide +kernel) w h
set_option maxRecDepth 20000 in
theorem wsL_law0_r2_in : ∀ w ∈ wsL_law0_r2, w ∈ lw_tbl := fun w h => rn_by_places wsL_law0_r2 [96, 97, 98, 99, 100, 46, 47, 48, 49, 50, 52, 55, 58, 73, 74, 75, 76, 77, 79, 81, 501, 502, 503, 504] (by decide +kernel) w h
set_option maxRecDepth 20000 in
theorem wsL_law0_r3_in : ∀ w ∈ wsL_law0_r3, w ∈ lw_tbl := fun w h => rn_by_places wsL_law0_r3 [506, 560, 507, 508, 509, 510, 511, 512, 514, 515, 516, 517, 519, 520, 140, 141, 23, 142, 143, 144, 145, 146, 147, 148] (by decide +kernel) w h
set_option maxRecDepth 20000 in
theorem wsL_law0_r4_in : ∀ w ∈ wsL_law0_r4, w ∈ lw_tbl := fun w h => rn_by_places wsL_law0_r4 [221, 32, 78, 80, 51, 149, 151, 0, 152, 153, 31, 237, 238, 239, 240, 565, 566, 567, 568, 569, 571, 7, 572, 573] (by decide +kernel) w h
set_option maxRecDepth 20000 in
theorem wsL_law0_r5_in : ∀ w ∈ wsL_law0_r5, w ∈ lw_tbl := fun w h => rn_by_places wsL_law0_r5 [574, 575, 576, 578, 8, 579, 505, 561, 562, 563, 564, 241, 242, 243, 244, 245, 246, 247, 248, 252, 33, 273, 274, 34] (by decide +kernel) w h
set_option maxRecDepth 20000 in
theorem wsL_law0_r6_in : ∀ w ∈ wsL_law0_r6, w ∈ lw_tbl := fun w h => rn_by_places wsL_law0_r6 [249, 250, 251, 269, 270, 271, 289, 275, 276, 277, 278, 279, 281, 284, 287, 580, 581, 582, 583, 513, 584, 585, 586, 299] (by decide +kernel) w h
set_option maxRecDepth 20000 in
theorem wsL_law0_r7_in : ∀ w ∈ wsL_law0_r7, w ∈ lw_tbl := fun w h => rn_by_places wsL_law0_r7 [300, 301, 302, 303, 304, 305, 53, 59, 56, 283, 306, 308, 2, 309, 312, 314, 3, 315, 316, 317, 318, 319, 320, 321] (by decide +kernel) w h
set_option maxRecDepth 20000 in
theorem wsL_law0_r8_in : ∀ w ∈ wsL_law0_r8, w ∈ lw_tbl := fun w h => rn_by_places wsL_law0_r8 [322, 323, 324, 325, 326, 327, 328, 286, 329, 330, 331, 332, 333, 334, 335, 280, 285, 282, 288, 336, 337, 338, 339, 340] (by decide +kernel) w h
set_option maxRecDepth 20000 in
theorem wsL_law0_r9_in : ∀ w ∈ wsL_law0_r9, w ∈ lw_tbl := fun w h => rn_by_places wsL_law0_r9 [341, 342, 343, 344, 345, 346, 347, 348, 350, 4, 351, 54, 57, 353, 354, 587, 588, 589, 590, 591, 593, 9, 594, 595] (by decide +kernel) w h
set_option maxRecDepth 20000 in
theorem wsL_law0_r10_in : ∀ w ∈ wsL_law0_r10, w ∈ lw_tbl := fun w h => rn_by_places wsL_law0_r10 [597, 10, 598, 599, 600, 601, 602, 604, 11, 605, 606, 608, 12, 609, 610, 612, 13, 613, 614, 616, 14, 617, 618, 620] (by decide +kernel) w h
set_option maxRecDepth 20000 in
theorem wsL_law0_r11_in : ∀ w ∈ wsL_law0_r11, w ∈ lw_tbl := fun w h => rn_by_places wsL_law0_r11 [15, 621, 622, 624, 16, 625, 626, 628, 17, 629, 521, 522, 120, 121, 122, 123, 630, 631, 632, 633, 634, 636, 18, 637] (by decide +kernel) w h
set_option maxRecDepth 20000 in
theorem wsL_law0_r12_in : ∀ w ∈ wsL_law0_r12, w ∈ lw_tbl := fun w h => rn_by_places wsL_law0_r12 [355, 356, 357, 358, 359, 360, 361, 362, 363, 364, 638, 639, 640, 641, 365, 366, 367, 368, 369, 370, 371, 642, 643, 644] (by decide +kernel) w h
set_option maxRecDepth 20000 in
theorem wsL_law0_r13_in : ∀ w ∈ wsL_law0_r13, w ∈ lw_tbl := fun w h => rn_by_places wsL_law0_r13 [645, 646, 648, 19, 649, 372, 373, 374, 375, 376, 377, 378, 379, 381, 5, 382, 383, 384, 385, 386, 387, 650, 651, 652] (by decide +kernel) w h
set_option maxRecDepth 20000 in
theorem wsL_law0_r14_in : ∀ w ∈ wsL_law0_r14, w ∈ lw_tbl := fun w h => rn_by_places wsL_law0_r14 [653, 654, 656, 20, 657, 388, 389, 390, 391, 392, 393, 394, 658, 659, 660, 661, 662, 395, 396, 397, 398, 399, 400, 401] (by decide +kernel) w h
set_option maxRecDepth 20000 in
theorem wsL_law0_r15_in : ∀ w ∈ wsL_law0_r15, w ∈ lw_tbl := fun w h => rn_by_places wsL_law0_r15 [82, 663, 664, 665, 666, 403, 404, 405, 406, 407, 408, 409, 667, 668, 669, 670, 411, 412, 413, 414, 415, 416, 417, 671] (by decide +kernel) w h
set_option maxRecDepth 20000 in
theorem wsL_law0_r16_in : ∀ w ∈ wsL_law0_r16, w ∈ lw_tbl := fun w h => rn_by_places wsL_law0_r16 [672, 673, 674, 418, 419, 420, 421, 422, 423, 424, 675, 676, 677, 678, 124, 125, 126, 127, 679, 680, 681, 682, 425, 426] (by decide +kernel) w h
set_option maxRecDepth 20000 in
theorem wsL_law0_r17_in : ∀ w ∈ wsL_law0_r17, w ∈ lw_tbl := fun w h => rn_by_places wsL_law0_r17 [427, 428, 429, 430, 431, 683, 684, 685, 686, 687, 689, 21, 690, 432, 433, 434, 435, 436, 437, 438, 691, 692, 693, 694] (by decide +kernel) w h
set_option maxRecDepth 20000 in
theorem wsL_law0_r18_in : ∀ w ∈ wsL_law0_r18, w ∈ lw_tbl := fun w h => rn_by_places wsL_law0_r18 [439, 440, 441, 442, 443, 444, 445, 446, 695, 696, 697, 698, 447, 448, 449, 450, 451, 452, 453, 456, 35, 457, 458, 459] (by decide +kernel) w h
set_option maxRecDepth 20000 in
theorem wsL_law0_r19_in : ∀ w ∈ wsL_law0_r19, w ∈ lw_tbl := fun w h => rn_by_places wsL_law0_r19 [460, 461, 463, 699, 700, 701, 702, 518, 469, 470, 471, 472, 473, 474, 475, 462, 476, 478, 6, 479, 703, 704, 705, 706] (by decide +kernel) w h
set_option maxRecDepth 20000 in
theorem wsL_law0_r20_in : ∀ w ∈ wsL_law0_r20, w ∈ lw_tbl := fun w h => rn_by_places wsL_law0_r20 [707, 709, 22, 710, 481, 482, 483, 484, 485, 486, 487, 488, 489, 490, 491, 711, 712, 713, 714, 492, 493, 494, 495, 496] (by decide +kernel) w h
set_option maxRecDepth 20000 in
theorem wsL_law0_r21_in : ∀ w ∈ wsL_law0_r21, w ∈ lw_tbl := fun w h => rn_by_places wsL_law0_r21 [497, 498, 715, 716, 717, 718, 128, 129, 130, 131, 719, 720, 721, 722, 132, 133, 134, 135, 723, 724, 725, 726, 136, 137] (by decide +kernel) w h
set_option maxRecDepth 20000 in
theorem wsL_law0_r22_in : ∀ w ∈ wsL_law0_r22, w ∈ lw_tbl := fun w h => rn_by_places wsL_law0_r22 [138, 139, 727, 728, 729, 730] (by decide +kernel) w h
set_option maxRecDepth 20000 in
theorem wsX00_inT : ∀ w ∈ wsX00, w ∈ lw_tbl := fun w h => rn_by_places wsX00 [464, 466] (by decide +kernel) w h
set_option maxRecDepth 20000 in
theorem wsX10_inT : ∀ w ∈ wsX10, w ∈ lw_tbl := fun w h => rn_by_places wsX10 [83, 85, 87] (by decide +kernel) w h
set_option maxRecDepth 20000 in
theorem wsX20_inT : ∀ w ∈ wsX20, w ∈ lw_tbl := fun w h => rn_by_places wsX20 [290, 292, 294, 296] (by decide +kernel) w h
set_option maxRecDepth 20000 in
theorem wsX30_inT : ∀ w ∈ wsX30, w ∈ lw_tbl := fun w h => rn_by_places wsX30 [60, 62, 64, 66] (by decide +kernel) w h
set_option maxRecDepth 20000 in
theorem wsX40_inT : ∀ w ∈ wsX40, w ∈ lw_tbl := fun w h => rn_by_places wsX40 [101, 103, 105, 107, 109, 111, 113, 115, 117] (by decide +kernel) w h
set_option maxRecDepth 20000 in
theorem wsX50_inT : ∀ w ∈ wsX50, w ∈ lw_tbl := fun w h => rn_by_places wsX50 [523, 525, 527, 529, 531, 533, 535, 537, 539, 541, 543, 545, 547, 549, 551, 553, 555, 557] (by decide +kernel) w h
theorem wsL_law_in0 : ∀ w ∈ wsL_law0, w ∈ lw_tbl := rn_app (rn_app (rn_app (rn_app (rn_app (rn_app (rn_app (rn_app wsL_law0_r1_in (rn_app wsL_law0_r2_in (rn_app wsL_law0_r3_in (rn_app wsL_law0_r4_in (rn_app wsL_law0_r5_in (rn_app wsL_law0_r6_in (rn_app wsL_law0_r7_in (rn_app wsL_law0_r8_in (rn_app wsL_law0_r9_in (rn_app wsL_law0_r10_in (rn_app wsL_law0_r11_in (rn_app wsL_law0_r12_in (rn_app wsL_law0_r13_in (rn_app wsL_law0_r14_in (rn_app wsL_law0_r15_in (rn_app wsL_law0_r16_in (rn_app wsL_law0_r17_in (rn_app wsL_law0_r18_in (rn_app wsL_law0_r19_in (rn_app wsL_law0_r20_in (rn_app wsL_law0_r21_in (wsL_law0_r22_in)))))))))))))))))))))) wsX40_inT) wsX50_inT) wsX30_inT) wsX10_inT) wsX20_inT) wsX00_inT) (fun _ h => nomatch h)
theorem wsL_law_x0 : ∀ w ∈ (vx_atS RX4 61 "java/lang/IllegalStateException" ["java/lang/RuntimeException", "java/lang/Exception"]).filter goodWord, w ∈ lw_tbl := by decide +kernel
theorem wsL_law_x1 : ∀ w ∈ (vx_atS RX4 107 "java/lang/IndexOutOfBoundsException" ["java/lang/RuntimeException", "java/lang/Exception"]).filter goodWord, w ∈ lw_tbl := by decide +kernel
theorem wsL_law_x2 : ∀ w ∈ (vx_atS RX4 84 "java/lang/IllegalArgumentException" ["java/lang/RuntimeException", "java/lang/Exception"]).filter goodWord, w ∈ lw_tbl := by decide +kernel
theorem wsL_law_in : ∀ w ∈ wsL_law, w ∈ lw_tbl := fun w h => (List.mem_append.mp h).elim (fun h => (List.mem_append.mp h).elim (fun h => (List.mem_append.mp h).elim (fun h => wsL_law_in0 w h) (fun h => wsL_law_x0 w h)) (fun h => wsL_law_x1 w h)) (fun h => wsL_law_x2 w h)
theorem inlX0 : ∀ w ∈ wsX00, w ∈ wsL_law := fun _ h => List.mem_append_left _ (List.mem_append_left _ (List.mem_append_left _ (List.mem_append_left _ (List.mem_append_right _ h))))
theorem inX0 : ∀ w ∈ wsX00, w ∈ lw_tbl := fun w h => wsL_law_in w (inlX0 w h)
theorem inlX1 : ∀ w ∈ wsX10, w ∈ wsL_law := fun _ h => List.mem_append_left _ (List.mem_append_left _ (List.mem_append_left _ (List.mem_append_left _ (List.mem_append_left _ (List.mem_append_left _ (List.mem_append_right _ h))))))
theorem inX1 : ∀ w ∈ wsX10, w ∈ lw_tbl := fun w h => wsL_law_in w (inlX1 w h)
theorem inlX2 : ∀ w ∈ wsX20, w ∈ wsL_law := fun _ h => List.mem_append_left _ (List.mem_append_left _ (List.mem_append_left _ (List.mem_append_left _ (List.mem_append_left _ (List.mem_append_right _ h)))))
theorem inX2 : ∀ w ∈ wsX20, w ∈ lw_tbl := fun w h => wsL_law_in w (inlX2 w h)
theorem inlX3 : ∀ w ∈ wsX30, w ∈ wsL_law := fun _ h => List.mem_append_left _ (List.mem_append_left _ (List.mem_append_left _ (List.mem_append_left _ (List.mem_append_left _ (List.mem_append_left _ (List.mem_append_left _ (List.mem_append_right _ h)))))))
theorem inX3 : ∀ w ∈ wsX30, w ∈ lw_tbl := fun w h => wsL_law_in w (inlX3 w h)
theorem inlX4 : ∀ w ∈ wsX40, w ∈ wsL_law := fun _ h => List.mem_append_left _ (List.mem_append_left _ (List.mem_append_left _ (List.mem_append_left _ (List.mem_append_left _ (List.mem_append_left _ (List.mem_append_left _ (List.mem_append_left _ (List.mem_append_left _ (List.mem_append_right _ h)))))))))
theorem inX4 : ∀ w ∈ wsX40, w ∈ lw_tbl := fun w h => wsL_law_in w (inlX4 w h)
theorem inlX5 : ∀ w ∈ wsX50, w ∈ wsL_law := fun _ h => List.mem_append_left _ (List.mem_append_left _ (List.mem_append_left _ (List.mem_append_left _ (List.mem_append_left _ (List.mem_append_left _ (List.mem_append_left _ (List.mem_append_left _ (List.mem_append_right _ h))))))))
theorem inX5 : ∀ w ∈ wsX50, w ∈ lw_tbl := fun w h => wsL_law_in w (inlX5 w h)
theorem inJ0 : ∀ w ∈ wsJ00, w ∈ lw_tbl := by decide +kernel
