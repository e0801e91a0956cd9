set_option maxRecDepth 20000 in
theorem ggL_law_X4_init : GoodIn wsL_law wsX4_init := goodIn_r _ [9, 10, 11, 12, 13, 14, 15, 16, 17, 18, 19, 20, 21, 22, 23, 24, 25, 26, 27, 28, 29, 30, 31, 32, 33, 34, 35, 36, 37, 38, 39, 40, 41, 42, 43, 537, 538, 539, 540, 510, 511, 512, 513, 514, 515, 516, 517, 518, 541, 542, 543] (by decide +kernel) (by decide +kernel)
set_option maxRecDepth 20000 in
theorem gL_law_X4_init : GoodIn wsL_law (wsX4_init) := ggL_law_X4_init
set_option maxRecDepth 20000 in
theorem ggL_law_X5_init : GoodIn wsL_law wsX5_init := goodIn_r _ [46, 47, 11, 12, 48, 49, 50, 51, 52, 53, 54, 55, 56, 57, 58, 59, 60, 61, 519, 520, 521, 522, 523, 524, 525, 526, 527, 528, 529, 530, 531, 532, 533, 534, 535, 536] (by decide +kernel) (by decide +kernel)
set_option maxRecDepth 20000 in
theorem gL_law_X5_init : GoodIn wsL_law (wsX5_init) := ggL_law_X5_init
set_option maxRecDepth 20000 in
theorem ggL_law_L_makeRoom : GoodIn wsL_law wsL_makeRoom := goodIn_ca (goodIn_ca (goodIn_r _ [65, 66, 67, 68, 69, 70, 2, 71, 72, 73, 17, 16, 13, 14, 15, 74, 75, 76, 77, 78, 79, 80, 81, 82, 19, 29, 30, 31, 32, 11, 12, 33, 34, 35, 36, 83, 84, 85, 21, 86, 41, 43, 510, 511, 512, 513, 514, 515, 516, 517, 518, 537, 538, 539, 540, 541, 542, 543] (by decide +kernel) (by decide +kernel)) (goodIn_sub (fun _ h => List.mem_append_left _ (List.mem_append_left _ (List.mem_append_right _ h))) (by decide +kernel))) (goodIn_sub (fun _ h => List.mem_append_left _ (List.mem_append_right _ h)) (by decide +kernel))
set_option maxRecDepth 20000 in
theorem gL_law_L_makeRoom : GoodIn wsL_law (va_wsS RL 77 yL_makeRoom wsL_makeRoom) := goodIn_app (goodIn_of _ (by decide +kernel)) ggL_law_L_makeRoom
set_option maxRecDepth 20000 in
theorem ggL_law_X5_makeRoom : GoodIn wsL_law wsX5_makeRoom := goodIn_r _ [90, 48, 50, 57, 51, 58, 59, 91, 92, 93, 5, 94, 56, 95, 96, 97, 98, 99, 100, 101, 102, 519, 520, 521, 522, 523, 524, 525, 526, 527, 528, 529, 530, 531, 532, 533, 534, 535, 536] (by decide +kernel) (by decide +kernel)
set_option maxRecDepth 20000 in
theorem gL_law_X5_makeRoom : GoodIn wsL_law (wsV RL 82 RX5 yX5_makeRoom wsX5_makeRoom) := goodIn_app (goodIn_of _ (by decide +kernel)) ggL_law_X5_makeRoom
set_option maxRecDepth 20000 in
theorem ggL_law_X5_thrown : GoodIn wsL_law wsX5_thrown := goodIn_r _ [106, 102, 519, 520, 521, 522, 523, 524, 525, 526, 527, 528, 529, 530, 531, 532, 533, 534, 535, 536] (by decide +kernel) (by decide +kernel)
set_option maxRecDepth 20000 in
theorem gL_law_X5_thrown : GoodIn wsL_law (wsV RL 83 RX5 yX5_thrown wsX5_thrown) := goodIn_app (goodIn_of _ (by decide +kernel)) ggL_law_X5_thrown
set_option maxRecDepth 20000 in
theorem ggL_law_L_line : GoodIn wsL_law wsL_line := goodIn_ca (goodIn_ca (goodIn_r _ [109, 110, 67, 111, 112, 113, 2, 114, 115, 116, 72, 73, 26, 117, 118, 119, 120, 121, 122, 123, 124, 125, 126, 127, 128, 129, 130, 11, 12, 131, 132, 133, 134, 510, 511, 512, 513, 514, 515, 516, 517, 518, 544, 545, 546, 547] (by decide +kernel) (by decide +kernel)) (goodIn_sub (fun _ h => List.mem_append_right _ h) (by decide +kernel))) (goodIn_sub (fun _ h => List.mem_append_left _ (List.mem_append_left _ (List.mem_append_right _ h))) (by decide +kernel))
set_option maxRecDepth 20000 in
theorem gL_law_L_line : GoodIn wsL_law (va_wsS RL 87 yL_line wsL_line) := goodIn_app (goodIn_of _ (by decide +kernel)) ggL_law_L_line
set_option maxRecDepth 20000 in
theorem ggL_law_X5_line : GoodIn wsL_law wsX5_line := goodIn_r _ [138, 139, 53, 54, 55, 140, 141, 5, 142, 95, 96, 97, 98, 99, 100, 101, 102, 519, 520, 521, 522, 523, 524, 525, 526, 527, 528, 529, 530, 531, 532, 533, 534, 535, 536] (by decide +kernel) (by decide +kernel)
set_option maxRecDepth 20000 in
theorem gL_law_X5_line : GoodIn wsL_law (wsV RL 90 RX5 yX5_line wsX5_line) := goodIn_app (goodIn_of _ (by decide +kernel)) ggL_law_X5_line
set_option maxRecDepth 20000 in
theorem ggL_law_L_writeMap : GoodIn wsL_law wsL_writeMap := goodIn_ca (goodIn_r _ [145, 66, 146, 147, 148, 2, 149, 81, 82, 150, 26, 151, 75, 152, 153, 77, 78, 79, 80, 19, 154, 155, 156, 157, 16, 158, 159, 160, 161, 27, 28, 162, 163, 164, 126, 165, 166, 167, 119, 168, 131, 133, 132, 169, 170, 171, 172, 173, 174, 175, 176, 177, 178, 179, 180, 181, 15, 182, 34, 36, 183, 184, 185, 186, 187, 188, 189, 190, 134, 191, 192, 193, 21, 194, 195, 196, 197, 198, 41, 43, 199, 200, 201, 202, 203, 204, 42, 205, 206, 123, 124, 125, 537, 538, 539, 540, 510, 511, 512, 513, 514, 515, 516, 517, 518, 541, 542, 543, 544, 545, 546, 547] (by decide +kernel) (by decide +kernel)) (goodIn_sub (fun _ h => List.mem_append_left _ (List.mem_append_right _ h)) (by decide +kernel))
set_option maxRecDepth 20000 in
theorem gL_law_L_writeMap : GoodIn wsL_law (va_wsS RL 91 yL_writeMap wsL_writeMap) := goodIn_app (goodIn_of _ (by decide +kernel)) ggL_law_L_writeMap
set_option maxRecDepth 20000 in
theorem ggL_law_X5_writeMap : GoodIn wsL_law wsX5_writeMap := goodIn_r _ [210, 52, 50, 139, 53, 54, 55, 91, 92, 93, 5, 94, 56, 95, 96, 97, 211, 212, 213, 214, 48, 98, 99, 100, 101, 102, 215, 216, 217, 218, 219, 220, 221, 222, 223, 224, 225, 226, 227, 228, 229, 230, 231, 232, 233, 234, 235, 236, 237, 58, 51, 238, 239, 240, 241, 57, 59, 242, 243, 244, 245, 246, 247, 248, 249, 250, 251, 519, 520, 521, 522, 523, 524, 525, 526, 527, 528, 529, 530, 531, 532, 533, 534, 535, 536] (by decide +kernel) (by decide +kernel)
set_option maxRecDepth 20000 in
theorem gL_law_X5_writeMap : GoodIn wsL_law (wsV RL 94 RX5 yX5_writeMap wsX5_writeMap) := goodIn_app (goodIn_of _ (by decide +kernel)) ggL_law_X5_writeMap
set_option maxRecDepth 20000 in
theorem ggL_law_X4_rooms : GoodIn wsL_law wsX4_rooms := goodIn_r _ [255, 17, 510, 511, 512, 513, 514, 515, 516, 517, 518] (by decide +kernel) (by decide +kernel)
set_option maxRecDepth 20000 in
theorem gL_law_X4_rooms : GoodIn wsL_law (wsV RL 95 RX4 yX4_rooms wsX4_rooms) := goodIn_app (goodIn_of _ (by decide +kernel)) ggL_law_X4_rooms
set_option maxRecDepth 20000 in
theorem ggL_law_X5_rooms : GoodIn wsL_law wsX5_rooms := goodIn_r _ [259, 48, 260, 261, 262, 5, 263, 102, 519, 520, 521, 522, 523, 524, 525, 526, 527, 528, 529, 530, 531, 532, 533, 534, 535, 536] (by decide +kernel) (by decide +kernel)
set_option maxRecDepth 20000 in
theorem gL_law_X5_rooms : GoodIn wsL_law (wsV RL 98 RX5 yX5_rooms wsX5_rooms) := goodIn_app (goodIn_of _ (by decide +kernel)) ggL_law_X5_rooms
set_option maxRecDepth 20000 in
theorem ggL_law_L_outerOf : GoodIn wsL_law wsL_outerOf := goodIn_ca (goodIn_r _ [266, 66, 267, 268, 269, 2, 270, 150, 154, 155, 156, 157, 81, 82, 16, 271, 272, 273, 76, 537, 538, 539, 540, 510, 511, 512, 513, 514, 515, 516, 517, 518] (by decide +kernel) (by decide +kernel)) (goodIn_sub (fun _ h => List.mem_append_left _ (List.mem_append_right _ h)) (by decide +kernel))
set_option maxRecDepth 20000 in
theorem gL_law_L_outerOf : GoodIn wsL_law (va_wsS RL 99 yL_outerOf wsL_outerOf) := goodIn_app (goodIn_of _ (by decide +kernel)) ggL_law_L_outerOf
set_option maxRecDepth 20000 in
theorem ggL_law_X5_outerOf : GoodIn wsL_law wsX5_outerOf := goodIn_r _ [277, 50, 211, 212, 213, 5, 214, 48, 95, 96, 97, 98, 99, 100, 101, 102, 519, 520, 521, 522, 523, 524, 525, 526, 527, 528, 529, 530, 531, 532, 533, 534, 535, 536] (by decide +kernel) (by decide +kernel)
set_option maxRecDepth 20000 in
theorem gL_law_X5_outerOf : GoodIn wsL_law (wsV RL 101 RX5 yX5_outerOf wsX5_outerOf) := goodIn_app (goodIn_of _ (by decide +kernel)) ggL_law_X5_outerOf
set_option maxRecDepth 20000 in
theorem ggL_law_L_leadsTo : GoodIn wsL_law wsL_leadsTo := goodIn_ca (goodIn_ca (goodIn_r _ [280, 66, 110, 281, 282, 283, 2, 284, 154, 155, 156, 157, 81, 82, 16, 120, 121, 122, 115, 116, 176, 177, 178, 150, 179, 180, 181, 15, 182, 34, 36, 183, 184, 185, 186, 510, 511, 512, 513, 514, 515, 516, 517, 518, 537, 538, 539, 540, 544, 545, 546, 547] (by decide +kernel) (by decide +kernel)) (goodIn_sub (fun _ h => List.mem_append_left _ (List.mem_append_right _ h)) (by decide +kernel))) (goodIn_sub (fun _ h => List.mem_append_right _ h) (by decide +kernel))
set_option maxRecDepth 20000 in
theorem gL_law_L_leadsTo : GoodIn wsL_law (va_wsS RL 102 yL_leadsTo wsL_leadsTo) := goodIn_app (goodIn_of _ (by decide +kernel)) ggL_law_L_leadsTo
set_option maxRecDepth 20000 in
theorem ggL_law_X5_leadsTo : GoodIn wsL_law wsX5_leadsTo := goodIn_r _ [288, 289, 290, 291, 5, 292, 211, 212, 213, 214, 48, 95, 96, 97, 140, 141, 142, 98, 99, 100, 101, 102, 226, 227, 228, 229, 50, 230, 231, 232, 233, 52, 53, 55, 54, 519, 520, 521, 522, 523, 524, 525, 526, 527, 528, 529, 530, 531, 532, 533, 534, 535, 536] (by decide +kernel) (by decide +kernel)
set_option maxRecDepth 20000 in
theorem gL_law_X5_leadsTo : GoodIn wsL_law (wsV RL 104 RX5 yX5_leadsTo wsX5_leadsTo) := goodIn_app (goodIn_of _ (by decide +kernel)) ggL_law_X5_leadsTo
set_option maxRecDepth 20000 in
theorem ggL_law_L_seenAs : GoodIn wsL_law wsL_seenAs := goodIn_ca (goodIn_ca (goodIn_r _ [295, 66, 110, 296, 297, 298, 2, 299, 154, 155, 156, 157, 81, 82, 16, 120, 121, 122, 115, 116, 300, 301, 302, 303, 304, 205, 206, 150, 305, 306, 307, 15, 308, 34, 36, 185, 184, 183, 186, 510, 511, 512, 513, 514, 515, 516, 517, 518, 537, 538, 539, 540, 544, 545, 546, 547] (by decide +kernel) (by decide +kernel)) (goodIn_sub (fun _ h => List.mem_append_left _ (List.mem_append_right _ h)) (by decide +kernel))) (goodIn_sub (fun _ h => List.mem_append_right _ h) (by decide +kernel))
set_option maxRecDepth 20000 in
theorem gL_law_L_seenAs : GoodIn wsL_law (va_wsS RL 105 yL_seenAs wsL_seenAs) := goodIn_app (goodIn_of _ (by decide +kernel)) ggL_law_L_seenAs
set_option maxRecDepth 20000 in
theorem ggL_law_X5_seenAs : GoodIn wsL_law wsX5_seenAs := goodIn_r _ [312, 289, 290, 291, 5, 292, 211, 212, 213, 214, 48, 95, 96, 97, 140, 141, 142, 98, 99, 100, 101, 102, 313, 314, 315, 316, 226, 227, 228, 229, 50, 230, 231, 232, 233, 52, 53, 55, 54, 519, 520, 521, 522, 523, 524, 525, 526, 527, 528, 529, 530, 531, 532, 533, 534, 535, 536] (by decide +kernel) (by decide +kernel)
set_option maxRecDepth 20000 in
theorem gL_law_X5_seenAs : GoodIn wsL_law (wsV RL 107 RX5 yX5_seenAs wsX5_seenAs) := goodIn_app (goodIn_of _ (by decide +kernel)) ggL_law_X5_seenAs
set_option maxRecDepth 20000 in
theorem ggL_law_L_seenByLeading : GoodIn wsL_law wsL_seenByLeading := goodIn_ca (goodIn_ca (goodIn_r _ [319, 66, 110, 320, 321, 322, 2, 323, 154, 155, 156, 157, 81, 82, 16, 120, 121, 122, 115, 116, 176, 177, 178, 150, 179, 180, 181, 15, 182, 34, 36, 183, 184, 185, 186, 510, 511, 512, 513, 514, 515, 516, 517, 518, 537, 538, 539, 540, 544, 545, 546, 547] (by decide +kernel) (by decide +kernel)) (goodIn_sub (fun _ h => List.mem_append_left _ (List.mem_append_right _ h)) (by decide +kernel))) (goodIn_sub (fun _ h => List.mem_append_right _ h) (by decide +kernel))
set_option maxRecDepth 20000 in
theorem gL_law_L_seenByLeading : GoodIn wsL_law (va_wsS RL 108 yL_seenByLeading wsL_seenByLeading) := goodIn_app (goodIn_of _ (by decide +kernel)) ggL_law_L_seenByLeading
set_option maxRecDepth 20000 in
theorem ggL_law_X5_seenByLeading : GoodIn wsL_law wsX5_seenByLeading := goodIn_r _ [327, 328, 310, 311, 5, 312, 289, 290, 291, 292, 211, 212, 213, 214, 48, 95, 96, 97, 140, 141, 142, 98, 99, 100, 101, 102, 313, 314, 315, 316, 226, 227, 228, 229, 50, 230, 231, 232, 233, 52, 53, 55, 54, 519, 520, 521, 522, 523, 524, 525, 526, 527, 528, 529, 530, 531, 532, 533, 534, 535, 536] (by decide +kernel) (by decide +kernel)
set_option maxRecDepth 20000 in
theorem gL_law_X5_seenByLeading : GoodIn wsL_law (wsV RL 110 RX5 yX5_seenByLeading wsX5_seenByLeading) := goodIn_app (goodIn_of _ (by decide +kernel)) ggL_law_X5_seenByLeading
set_option maxRecDepth 20000 in
theorem ggL_law_L_fork : GoodIn wsL_law wsL_fork := goodIn_ca (goodIn_ca (goodIn_r _ [331, 66, 67, 332, 333, 334, 2, 335, 72, 73, 22, 19, 18, 20, 21, 74, 75, 336, 77, 78, 79, 80, 81, 82, 37, 38, 39, 40, 11, 12, 41, 42, 43, 510, 511, 512, 513, 514, 515, 516, 517, 518, 541, 542, 543] (by decide +kernel) (by decide +kernel)) (goodIn_sub (fun _ h => List.mem_append_left _ (List.mem_append_left _ (List.mem_append_right _ h))) (by decide +kernel))) (goodIn_sub (fun _ h => List.mem_append_left _ (List.mem_append_right _ h)) (by decide +kernel))
set_option maxRecDepth 20000 in
theorem gL_law_L_fork : GoodIn wsL_law (va_wsS RL 111 yL_fork wsL_fork) := goodIn_app (goodIn_of _ (by decide +kernel)) ggL_law_L_fork
set_option maxRecDepth 20000 in
theorem ggL_law_X5_fork : GoodIn wsL_law wsX5_fork := goodIn_r _ [340, 56, 57, 58, 59, 91, 92, 93, 5, 94, 95, 96, 97, 98, 99, 100, 101, 102, 519, 520, 521, 522, 523, 524, 525, 526, 527, 528, 529, 530, 531, 532, 533, 534, 535, 536] (by decide +kernel) (by decide +kernel)
set_option maxRecDepth 20000 in
theorem gL_law_X5_fork : GoodIn wsL_law (wsV RL 113 RX5 yX5_fork wsX5_fork) := goodIn_app (goodIn_of _ (by decide +kernel)) ggL_law_X5_fork
set_option maxRecDepth 20000 in
theorem ggL_law_L_drop : GoodIn wsL_law wsL_drop := goodIn_ca (goodIn_ca (goodIn_r _ [343, 66, 110, 344, 345, 346, 2, 347, 115, 116, 336, 77, 78, 79, 80, 81, 82, 19, 541, 542, 543, 510, 511, 512, 513, 514, 515, 516, 517, 518] (by decide +kernel) (by decide +kernel)) (goodIn_sub (fun _ h => List.mem_append_right _ h) (by decide +kernel))) (goodIn_sub (fun _ h => List.mem_append_left _ (List.mem_append_right _ h)) (by decide +kernel))
set_option maxRecDepth 20000 in
theorem gL_law_L_drop : GoodIn wsL_law (va_wsS RL 114 yL_drop wsL_drop) := goodIn_app (goodIn_of _ (by decide +kernel)) ggL_law_L_drop
set_option maxRecDepth 20000 in
theorem ggL_law_X5_drop : GoodIn wsL_law wsX5_drop := goodIn_r _ [351, 59, 91, 92, 93, 5, 94, 56, 95, 96, 97, 98, 99, 100, 101, 102, 519, 520, 521, 522, 523, 524, 525, 526, 527, 528, 529, 530, 531, 532, 533, 534, 535, 536] (by decide +kernel) (by decide +kernel)
set_option maxRecDepth 20000 in
theorem gL_law_X5_drop : GoodIn wsL_law (wsV RL 116 RX5 yX5_drop wsX5_drop) := goodIn_app (goodIn_of _ (by decide +kernel)) ggL_law_X5_drop
set_option maxRecDepth 20000 in
theorem ggL_law_L_enter : GoodIn wsL_law wsL_enter := goodIn_ca (goodIn_r _ [354, 66, 355, 356, 357, 2, 358, 150, 74, 336, 77, 78, 79, 80, 81, 82, 19, 154, 155, 156, 157, 16, 304, 205, 206, 158, 159, 160, 161, 27, 28, 191, 192, 193, 21, 194, 195, 196, 197, 198, 41, 43, 199, 200, 201, 202, 203, 204, 42, 83, 84, 85, 86, 537, 538, 539, 540, 541, 542, 543, 510, 511, 512, 513, 514, 515, 516, 517, 518] (by decide +kernel) (by decide +kernel)) (goodIn_sub (fun _ h => List.mem_append_left _ (List.mem_append_right _ h)) (by decide +kernel))
set_option maxRecDepth 20000 in
theorem gL_law_L_enter : GoodIn wsL_law (va_wsS RL 117 yL_enter wsL_enter) := goodIn_app (goodIn_of _ (by decide +kernel)) ggL_law_L_enter
set_option maxRecDepth 20000 in
theorem ggL_law_X5_enter : GoodIn wsL_law wsX5_enter := goodIn_r _ [362, 57, 59, 91, 92, 93, 5, 94, 56, 95, 96, 97, 211, 212, 213, 214, 48, 98, 99, 100, 101, 102, 242, 243, 244, 245, 50, 238, 239, 240, 241, 51, 58, 246, 247, 248, 249, 250, 251, 519, 520, 521, 522, 523, 524, 525, 526, 527, 528, 529, 530, 531, 532, 533, 534, 535, 536] (by decide +kernel) (by decide +kernel)
set_option maxRecDepth 20000 in
theorem gL_law_X5_enter : GoodIn wsL_law (wsV RL 119 RX5 yX5_enter wsX5_enter) := goodIn_app (goodIn_of _ (by decide +kernel)) ggL_law_X5_enter
set_option maxRecDepth 20000 in
theorem ggL_law_L_setNumber : GoodIn wsL_law wsL_setNumber := goodIn_ca (goodIn_ca (goodIn_r _ [365, 66, 110, 366, 367, 368, 2, 369, 74, 75, 336, 77, 78, 79, 80, 81, 82, 19, 120, 121, 122, 115, 116, 176, 177, 178, 150, 179, 180, 181, 15, 182, 34, 36, 183, 184, 185, 186, 158, 159, 160, 161, 27, 28, 191, 192, 193, 21, 194, 195, 196, 197, 198, 41, 43, 199, 200, 201, 202, 203, 204, 42, 205, 206, 300, 301, 302, 303, 16, 304, 305, 306, 307, 308, 541, 542, 543, 510, 511, 512, 513, 514, 515, 516, 517, 518, 537, 538, 539, 540, 544, 545, 546, 547] (by decide +kernel) (by decide +kernel)) (goodIn_sub (fun _ h => List.mem_append_left _ (List.mem_append_right _ h)) (by decide +kernel))) (goodIn_sub (fun _ h => List.mem_append_right _ h) (by decide +kernel))
set_option maxRecDepth 20000 in
theorem gL_law_L_setNumber : GoodIn wsL_law (va_wsS RL 120 yL_setNumber wsL_setNumber) := goodIn_app (goodIn_of _ (by decide +kernel)) ggL_law_L_setNumber
set_option maxRecDepth 20000 in
theorem ggL_law_X5_setNumber : GoodIn wsL_law wsX5_setNumber := goodIn_r _ [373, 57, 58, 59, 91, 92, 93, 5, 94, 56, 95, 96, 97, 140, 141, 142, 98, 99, 100, 101, 102, 226, 227, 228, 229, 50, 230, 231, 232, 233, 52, 53, 55, 54, 246, 247, 248, 249, 250, 251, 313, 314, 315, 316, 519, 520, 521, 522, 523, 524, 525, 526, 527, 528, 529, 530, 531, 532, 533, 534, 535, 536] (by decide +kernel) (by decide +kernel)
set_option maxRecDepth 20000 in
theorem gL_law_X5_setNumber : GoodIn wsL_law (wsV RL 122 RX5 yX5_setNumber wsX5_setNumber) := goodIn_app (goodIn_of _ (by decide +kernel)) ggL_law_X5_setNumber
set_option maxRecDepth 20000 in
theorem ggL_law_X4_processes : GoodIn wsL_law wsX4_processes := goodIn_r _ [377, 22, 510, 511, 512, 513, 514, 515, 516, 517, 518] (by decide +kernel) (by decide +kernel)
set_option maxRecDepth 20000 in
theorem gL_law_X4_processes : GoodIn wsL_law (wsV RL 123 RX4 yX4_processes wsX4_processes) := goodIn_app (goodIn_of _ (by decide +kernel)) ggL_law_X4_processes
set_option maxRecDepth 20000 in
theorem ggL_law_X5_processes : GoodIn wsL_law wsX5_processes := goodIn_r _ [381, 56, 260, 261, 262, 5, 263, 102, 519, 520, 521, 522, 523, 524, 525, 526, 527, 528, 529, 530, 531, 532, 533, 534, 535, 536] (by decide +kernel) (by decide +kernel)
set_option maxRecDepth 20000 in
theorem gL_law_X5_processes : GoodIn wsL_law (wsV RL 126 RX5 yX5_processes wsX5_processes) := goodIn_app (goodIn_of _ (by decide +kernel)) ggL_law_X5_processes
set_option maxRecDepth 20000 in
theorem ggL_law_L_roomOf : GoodIn wsL_law wsL_roomOf := goodIn_ca (goodIn_r _ [384, 66, 385, 386, 387, 2, 388, 74, 77, 78, 79, 80, 81, 82, 19, 271, 272, 273, 76, 541, 542, 543, 510, 511, 512, 513, 514, 515, 516, 517, 518, 537, 538, 539, 540] (by decide +kernel) (by decide +kernel)) (goodIn_sub (fun _ h => List.mem_append_left _ (List.mem_append_right _ h)) (by decide +kernel))
set_option maxRecDepth 20000 in
theorem gL_law_L_roomOf : GoodIn wsL_law (va_wsS RL 127 yL_roomOf wsL_roomOf) := goodIn_app (goodIn_of _ (by decide +kernel)) ggL_law_L_roomOf
set_option maxRecDepth 20000 in
theorem ggL_law_X5_roomOf : GoodIn wsL_law wsX5_roomOf := goodIn_r _ [392, 57, 393, 394, 395, 5, 396, 91, 92, 93, 94, 56, 95, 96, 97, 98, 99, 100, 101, 102, 519, 520, 521, 522, 523, 524, 525, 526, 527, 528, 529, 530, 531, 532, 533, 534, 535, 536] (by decide +kernel) (by decide +kernel)
set_option maxRecDepth 20000 in
theorem gL_law_X5_roomOf : GoodIn wsL_law (wsV RL 129 RX5 yX5_roomOf wsX5_roomOf) := goodIn_app (goodIn_of _ (by decide +kernel)) ggL_law_X5_roomOf
set_option maxRecDepth 20000 in
theorem ggL_law_L_numberOf : GoodIn wsL_law wsL_numberOf := goodIn_ca (goodIn_r _ [399, 66, 400, 401, 402, 2, 403, 75, 77, 78, 79, 80, 81, 82, 19, 541, 542, 543, 510, 511, 512, 513, 514, 515, 516, 517, 518] (by decide +kernel) (by decide +kernel)) (goodIn_sub (fun _ h => List.mem_append_left _ (List.mem_append_right _ h)) (by decide +kernel))
set_option maxRecDepth 20000 in
theorem gL_law_L_numberOf : GoodIn wsL_law (va_wsS RL 130 yL_numberOf wsL_numberOf) := goodIn_app (goodIn_of _ (by decide +kernel)) ggL_law_L_numberOf
set_option maxRecDepth 20000 in
theorem ggL_law_X5_numberOf : GoodIn wsL_law wsX5_numberOf := goodIn_r _ [407, 58, 393, 394, 395, 5, 396, 91, 92, 93, 94, 56, 95, 96, 97, 98, 99, 100, 101, 102, 519, 520, 521, 522, 523, 524, 525, 526, 527, 528, 529, 530, 531, 532, 533, 534, 535, 536] (by decide +kernel) (by decide +kernel)
set_option maxRecDepth 20000 in
theorem gL_law_X5_numberOf : GoodIn wsL_law (wsV RL 132 RX5 yX5_numberOf wsX5_numberOf) := goodIn_app (goodIn_of _ (by decide +kernel)) ggL_law_X5_numberOf
set_option maxRecDepth 20000 in
theorem ggL_law_L_rightsIn : GoodIn wsL_law wsL_rightsIn := goodIn_ca (goodIn_r _ [410, 66, 411, 412, 413, 2, 414, 77, 78, 79, 80, 81, 82, 19, 154, 155, 156, 157, 16, 415, 196, 197, 21, 198, 41, 43, 199, 200, 201, 202, 203, 204, 42, 205, 206, 150, 510, 511, 512, 513, 514, 515, 516, 517, 518, 541, 542, 543, 537, 538, 539, 540] (by decide +kernel) (by decide +kernel)) (goodIn_sub (fun _ h => List.mem_append_left _ (List.mem_append_right _ h)) (by decide +kernel))
set_option maxRecDepth 20000 in
theorem gL_law_L_rightsIn : GoodIn wsL_law (va_wsS RL 133 yL_rightsIn wsL_rightsIn) := goodIn_app (goodIn_of _ (by decide +kernel)) ggL_law_L_rightsIn
set_option maxRecDepth 20000 in
theorem ggL_law_X5_rightsIn : GoodIn wsL_law wsX5_rightsIn := goodIn_r _ [419, 91, 92, 93, 5, 94, 56, 95, 96, 97, 211, 212, 213, 214, 48, 98, 99, 100, 101, 102, 238, 239, 240, 241, 51, 58, 50, 57, 59, 242, 243, 244, 245, 519, 520, 521, 522, 523, 524, 525, 526, 527, 528, 529, 530, 531, 532, 533, 534, 535, 536] (by decide +kernel) (by decide +kernel)
set_option maxRecDepth 20000 in
theorem gL_law_X5_rightsIn : GoodIn wsL_law (wsV RL 135 RX5 yX5_rightsIn wsX5_rightsIn) := goodIn_app (goodIn_of _ (by decide +kernel)) ggL_law_X5_rightsIn
set_option maxRecDepth 20000 in
theorem ggL_law_L_makeFile : GoodIn wsL_law wsL_makeFile := goodIn_ca (goodIn_ca (goodIn_ca (goodIn_r _ [422, 66, 110, 67, 423, 424, 425, 2, 426, 115, 116, 72, 73, 25, 24, 74, 75, 23, 427, 428, 77, 78, 79, 80, 81, 82, 19, 300, 301, 302, 303, 16, 304, 205, 206, 150, 305, 306, 307, 15, 308, 34, 36, 185, 184, 183, 186, 158, 159, 160, 161, 27, 28, 429, 430, 431, 432, 11, 12, 433, 434, 510, 511, 512, 513, 514, 515, 516, 517, 518, 541, 542, 543, 548, 549, 537, 538, 539, 540, 544, 545, 546, 547] (by decide +kernel) (by decide +kernel)) (goodIn_sub (fun _ h => List.mem_append_right _ h) (by decide +kernel))) (goodIn_sub (fun _ h => List.mem_append_left _ (List.mem_append_left _ (List.mem_append_right _ h))) (by decide +kernel))) (goodIn_sub (fun _ h => List.mem_append_left _ (List.mem_append_right _ h)) (by decide +kernel))
set_option maxRecDepth 20000 in
theorem gL_law_L_makeFile : GoodIn wsL_law (va_wsS RL 136 yL_makeFile wsL_makeFile) := goodIn_app (goodIn_of _ (by decide +kernel)) ggL_law_L_makeFile
set_option maxRecDepth 20000 in
theorem ggL_law_X5_makeFile : GoodIn wsL_law wsX5_makeFile := goodIn_r _ [438, 439, 57, 58, 60, 61, 91, 92, 93, 5, 94, 56, 95, 96, 97, 98, 99, 100, 101, 102, 313, 314, 315, 316, 226, 227, 228, 229, 50, 230, 231, 232, 233, 52, 53, 55, 54, 246, 247, 248, 249, 250, 251, 519, 520, 521, 522, 523, 524, 525, 526, 527, 528, 529, 530, 531, 532, 533, 534, 535, 536] (by decide +kernel) (by decide +kernel)
set_option maxRecDepth 20000 in
theorem gL_law_X5_makeFile : GoodIn wsL_law (wsV RL 138 RX5 yX5_makeFile wsX5_makeFile) := goodIn_app (goodIn_of _ (by decide +kernel)) ggL_law_X5_makeFile
set_option maxRecDepth 20000 in
theorem ggL_law_L_handOver : GoodIn wsL_law wsL_handOver := goodIn_ca (goodIn_ca (goodIn_r _ [442, 66, 110, 443, 444, 445, 2, 446, 74, 447, 77, 78, 79, 80, 81, 82, 19, 448, 449, 450, 451, 24, 120, 121, 122, 115, 116, 176, 177, 178, 150, 179, 180, 181, 15, 182, 34, 36, 183, 184, 185, 186, 300, 301, 302, 303, 16, 304, 205, 206, 305, 306, 307, 308, 158, 159, 160, 161, 27, 28, 191, 192, 193, 21, 194, 195, 196, 197, 198, 41, 43, 199, 200, 201, 202, 203, 204, 42, 541, 542, 543, 548, 549, 510, 511, 512, 513, 514, 515, 516, 517, 518, 537, 538, 539, 540, 544, 545, 546, 547] (by decide +kernel) (by decide +kernel)) (goodIn_sub (fun _ h => List.mem_append_left _ (List.mem_append_right _ h)) (by decide +kernel))) (goodIn_sub (fun _ h => List.mem_append_right _ h) (by decide +kernel))
set_option maxRecDepth 20000 in
theorem gL_law_L_handOver : GoodIn wsL_law (va_wsS RL 139 yL_handOver wsL_handOver) := goodIn_app (goodIn_of _ (by decide +kernel)) ggL_law_L_handOver
set_option maxRecDepth 20000 in
theorem ggL_law_X5_handOver : GoodIn wsL_law wsX5_handOver := goodIn_r _ [455, 57, 60, 59, 91, 92, 93, 5, 94, 56, 95, 96, 97, 456, 457, 458, 459, 439, 140, 141, 142, 98, 99, 100, 101, 102, 226, 227, 228, 229, 50, 230, 231, 232, 233, 52, 53, 55, 54, 313, 314, 315, 316, 246, 247, 248, 249, 250, 251, 519, 520, 521, 522, 523, 524, 525, 526, 527, 528, 529, 530, 531, 532, 533, 534, 535, 536] (by decide +kernel) (by decide +kernel)
set_option maxRecDepth 20000 in
theorem gL_law_X5_handOver : GoodIn wsL_law (wsV RL 141 RX5 yX5_handOver wsX5_handOver) := goodIn_app (goodIn_of _ (by decide +kernel)) ggL_law_X5_handOver
set_option maxRecDepth 20000 in
theorem ggL_law_L_open : GoodIn wsL_law wsL_open := goodIn_ca (goodIn_r _ [462, 66, 463, 464, 465, 2, 466, 75, 74, 447, 77, 78, 79, 80, 81, 82, 19, 448, 449, 450, 451, 24, 467, 468, 469, 428, 470, 434, 433, 191, 192, 193, 21, 194, 195, 196, 197, 198, 41, 43, 199, 200, 201, 202, 203, 204, 42, 205, 206, 150, 158, 159, 160, 161, 27, 28, 300, 301, 302, 303, 16, 304, 305, 306, 307, 15, 308, 34, 36, 185, 184, 183, 186, 541, 542, 543, 548, 549, 510, 511, 512, 513, 514, 515, 516, 517, 518, 537, 538, 539, 540, 544, 545, 546, 547] (by decide +kernel) (by decide +kernel)) (goodIn_sub (fun _ h => List.mem_append_left _ (List.mem_append_right _ h)) (by decide +kernel))
set_option maxRecDepth 20000 in
theorem gL_law_L_open : GoodIn wsL_law (va_wsS RL 142 yL_open wsL_open) := goodIn_app (goodIn_of _ (by decide +kernel)) ggL_law_L_open
set_option maxRecDepth 20000 in
theorem ggL_law_X5_open : GoodIn wsL_law wsX5_open := goodIn_r _ [474, 58, 60, 61, 59, 57, 91, 92, 93, 5, 94, 56, 95, 96, 97, 456, 457, 458, 459, 439, 98, 99, 100, 101, 102, 246, 247, 248, 249, 250, 251, 313, 314, 315, 316, 226, 227, 228, 229, 50, 230, 231, 232, 233, 52, 53, 55, 54, 519, 520, 521, 522, 523, 524, 525, 526, 527, 528, 529, 530, 531, 532, 533, 534, 535, 536] (by decide +kernel) (by decide +kernel)
set_option maxRecDepth 20000 in
theorem gL_law_X5_open : GoodIn wsL_law (wsV RL 145 RX5 yX5_open wsX5_open) := goodIn_app (goodIn_of _ (by decide +kernel)) ggL_law_X5_open
set_option maxRecDepth 20000 in
theorem ggL_law_L_ownerSeenBy : GoodIn wsL_law wsL_ownerSeenBy := goodIn_ca (goodIn_r _ [477, 66, 478, 479, 480, 2, 481, 74, 447, 77, 78, 79, 80, 81, 82, 19, 448, 449, 450, 451, 24, 300, 301, 302, 303, 16, 304, 205, 206, 150, 305, 306, 307, 15, 308, 34, 36, 185, 184, 183, 186, 541, 542, 543, 548, 549, 510, 511, 512, 513, 514, 515, 516, 517, 518, 537, 538, 539, 540, 544, 545, 546, 547] (by decide +kernel) (by decide +kernel)) (goodIn_sub (fun _ h => List.mem_append_left _ (List.mem_append_right _ h)) (by decide +kernel))
set_option maxRecDepth 20000 in
theorem gL_law_L_ownerSeenBy : GoodIn wsL_law (va_wsS RL 146 yL_ownerSeenBy wsL_ownerSeenBy) := goodIn_app (goodIn_of _ (by decide +kernel)) ggL_law_L_ownerSeenBy
set_option maxRecDepth 20000 in
theorem ggL_law_X5_ownerSeenBy : GoodIn wsL_law wsX5_ownerSeenBy := goodIn_r _ [485, 57, 60, 91, 92, 93, 5, 94, 56, 95, 96, 97, 456, 457, 458, 459, 439, 98, 99, 100, 101, 102, 313, 314, 315, 316, 226, 227, 228, 229, 50, 230, 231, 232, 233, 52, 53, 55, 54, 519, 520, 521, 522, 523, 524, 525, 526, 527, 528, 529, 530, 531, 532, 533, 534, 535, 536] (by decide +kernel) (by decide +kernel)
set_option maxRecDepth 20000 in
theorem gL_law_X5_ownerSeenBy : GoodIn wsL_law (wsV RL 148 RX5 yX5_ownerSeenBy wsX5_ownerSeenBy) := goodIn_app (goodIn_of _ (by decide +kernel)) ggL_law_X5_ownerSeenBy
set_option maxRecDepth 20000 in
theorem ggL_law_X4_files : GoodIn wsL_law wsX4_files := goodIn_r _ [489, 25, 510, 511, 512, 513, 514, 515, 516, 517, 518] (by decide +kernel) (by decide +kernel)
set_option maxRecDepth 20000 in
theorem gL_law_X4_files : GoodIn wsL_law (wsV RL 149 RX4 yX4_files wsX4_files) := goodIn_app (goodIn_of _ (by decide +kernel)) ggL_law_X4_files
set_option maxRecDepth 20000 in
theorem ggL_law_X5_files : GoodIn wsL_law wsX5_files := goodIn_r _ [493, 439, 260, 261, 262, 5, 263, 102, 519, 520, 521, 522, 523, 524, 525, 526, 527, 528, 529, 530, 531, 532, 533, 534, 535, 536] (by decide +kernel) (by decide +kernel)
set_option maxRecDepth 20000 in
theorem gL_law_X5_files : GoodIn wsL_law (wsV RL 152 RX5 yX5_files wsX5_files) := goodIn_app (goodIn_of _ (by decide +kernel)) ggL_law_X5_files
set_option maxRecDepth 20000 in
theorem ggL_law_X4_refusals : GoodIn wsL_law wsX4_refusals := goodIn_r _ [497, 27, 510, 511, 512, 513, 514, 515, 516, 517, 518] (by decide +kernel) (by decide +kernel)
set_option maxRecDepth 20000 in
theorem gL_law_X4_refusals : GoodIn wsL_law (wsV RL 153 RX4 yX4_refusals wsX4_refusals) := goodIn_app (goodIn_of _ (by decide +kernel)) ggL_law_X4_refusals
set_option maxRecDepth 20000 in
theorem ggL_law_X5_refusals : GoodIn wsL_law wsX5_refusals := goodIn_r _ [501, 250, 260, 261, 262, 5, 263, 102, 519, 520, 521, 522, 523, 524, 525, 526, 527, 528, 529, 530, 531, 532, 533, 534, 535, 536] (by decide +kernel) (by decide +kernel)
set_option maxRecDepth 20000 in
theorem gL_law_X5_refusals : GoodIn wsL_law (wsV RL 156 RX5 yX5_refusals wsX5_refusals) := goodIn_app (goodIn_of _ (by decide +kernel)) ggL_law_X5_refusals
set_option maxRecDepth 20000 in
theorem ggL_law_X4_lastRefusal : GoodIn wsL_law wsX4_lastRefusal := goodIn_r _ [505, 28, 510, 511, 512, 513, 514, 515, 516, 517, 518] (by decide +kernel) (by decide +kernel)
set_option maxRecDepth 20000 in
theorem gL_law_X4_lastRefusal : GoodIn wsL_law (wsV RL 157 RX4 yX4_lastRefusal wsX4_lastRefusal) := goodIn_app (goodIn_of _ (by decide +kernel)) ggL_law_X4_lastRefusal
set_option maxRecDepth 20000 in
theorem ggL_law_X5_lastRefusal : GoodIn wsL_law wsX5_lastRefusal := goodIn_r _ [509, 251, 260, 261, 262, 5, 263, 102, 519, 520, 521, 522, 523, 524, 525, 526, 527, 528, 529, 530, 531, 532, 533, 534, 535, 536] (by decide +kernel) (by decide +kernel)
set_option maxRecDepth 20000 in
theorem gL_law_X5_lastRefusal : GoodIn wsL_law (wsV RL 160 RX5 yX5_lastRefusal wsX5_lastRefusal) := goodIn_app (goodIn_of _ (by decide +kernel)) ggL_law_X5_lastRefusal
