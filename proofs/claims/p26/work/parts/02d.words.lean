set_option maxRecDepth 20000 in
theorem ggX1_rightsHeldIn_X1_ownsRoomAround : GoodIn wsX1_rightsHeldIn wsX1_ownsRoomAround := goodIn_r _ [7, 8, 1, 9, 10, 18, 19, 20, 21, 15, 16, 17] (by decide +kernel) (by decide +kernel)
set_option maxRecDepth 20000 in
theorem gX1_rightsHeldIn_X1_ownsRoomAround : GoodIn wsX1_rightsHeldIn (wsV RX1 22 RX1 yX1_ownsRoomAround wsX1_ownsRoomAround) := goodIn_app (goodIn_of _ (by decide +kernel)) ggX1_rightsHeldIn_X1_ownsRoomAround
set_option maxRecDepth 20000 in
theorem ggX1_rightsHeldIn_X4_isOrIsInside : GoodIn wsX1_rightsHeldIn wsX4_isOrIsInside := goodIn_r _ [13, 14, 18, 19, 20, 21] (by decide +kernel) (by decide +kernel)
set_option maxRecDepth 20000 in
theorem gX1_rightsHeldIn_X4_isOrIsInside_n26 : GoodIn wsX1_rightsHeldIn (wsX4_isOrIsInside) := ggX1_rightsHeldIn_X4_isOrIsInside
set_option maxRecDepth 20000 in
theorem ggX1_hasRight_X1_rightsHeldIn : GoodIn wsX1_hasRight wsX1_rightsHeldIn := goodIn_r _ [5, 6, 7, 8, 9, 10, 4, 11, 12, 13, 14, 15, 16, 17, 18, 19, 20, 21, 22, 23, 24, 25] (by decide +kernel) (by decide +kernel)
set_option maxRecDepth 20000 in
theorem gX1_hasRight_X1_rightsHeldIn : GoodIn wsX1_hasRight (wsV RX1 30 RX1 yX1_rightsHeldIn wsX1_rightsHeldIn) := goodIn_app (goodIn_of _ (by decide +kernel)) ggX1_hasRight_X1_rightsHeldIn
set_option maxRecDepth 20000 in
theorem ggX2_meets_X2_rangesMeet : GoodIn wsX2_meets wsX2_rangesMeet := goodIn_r _ [7] (by decide +kernel) (by decide +kernel)
set_option maxRecDepth 20000 in
theorem gX2_meets_X2_rangesMeet : GoodIn wsX2_meets (va_wsS RX2 23 yX2_rangesMeet wsX2_rangesMeet) := goodIn_app (goodIn_of _ (by decide +kernel)) ggX2_meets_X2_rangesMeet
set_option maxRecDepth 20000 in
theorem ggX4_init_X3_init : GoodIn wsX4_init wsX3_init := goodIn_r _ [22, 23, 2, 3, 24, 25, 26, 27, 35, 36, 37, 38] (by decide +kernel) (by decide +kernel)
set_option maxRecDepth 20000 in
theorem gX4_init_X3_init : GoodIn wsX4_init (wsX3_init) := ggX4_init_X3_init
set_option maxRecDepth 20000 in
theorem ggX4_init_X1_init : GoodIn wsX4_init wsX1_init := goodIn_r _ [30, 31, 2, 3, 32, 33, 34, 48, 49, 50] (by decide +kernel) (by decide +kernel)
set_option maxRecDepth 20000 in
theorem gX4_init_X1_init : GoodIn wsX4_init (wsX1_init) := ggX4_init_X1_init
set_option maxRecDepth 20000 in
theorem ggX4_makeRoom_X4_processAt : GoodIn wsX4_makeRoom wsX4_processAt := goodIn_ca (goodIn_r _ [15, 16, 17, 18, 36, 37, 38, 39, 40, 41, 42, 43, 44] (by decide +kernel) (by decide +kernel)) (goodIn_sub (fun _ h => List.mem_cons_of_mem _ (List.mem_append_right _ h)) (by decide +kernel))
set_option maxRecDepth 20000 in
theorem gX4_makeRoom_X4_processAt : GoodIn wsX4_makeRoom (wsV RX4 53 RX4 yX4_processAt wsX4_processAt) := goodIn_app (goodIn_of _ (by decide +kernel)) ggX4_makeRoom_X4_processAt
set_option maxRecDepth 20000 in
theorem ggX4_makeRoom_X3_init : GoodIn wsX4_makeRoom wsX3_init := goodIn_r _ [21, 22, 23, 24, 25, 26, 27, 28, 45, 46, 47, 48] (by decide +kernel) (by decide +kernel)
set_option maxRecDepth 20000 in
theorem gX4_makeRoom_X3_init : GoodIn wsX4_makeRoom (wsX3_init) := ggX4_makeRoom_X3_init
set_option maxRecDepth 20000 in
theorem ggX4_makeRoom_X1_moveInto : GoodIn wsX4_makeRoom wsX1_moveInto := goodIn_r _ [33, 34, 35, 49, 50, 51] (by decide +kernel) (by decide +kernel)
set_option maxRecDepth 20000 in
theorem gX4_makeRoom_X1_moveInto : GoodIn wsX4_makeRoom (wsV RX4 71 RX1 yX1_moveInto wsX1_moveInto) := goodIn_app (goodIn_of _ (by decide +kernel)) ggX4_makeRoom_X1_moveInto
set_option maxRecDepth 20000 in
theorem ggX4_line_X4_requireNumber : GoodIn wsX4_line wsX4_requireNumber := goodIn_ca (goodIn_r _ [12, 1, 2] (by decide +kernel) (by decide +kernel)) (goodIn_sub (fun _ h => List.mem_cons_of_mem _ (List.mem_append_left _ (List.mem_append_right _ h))) (by decide +kernel))
set_option maxRecDepth 20000 in
theorem gX4_line_X4_requireNumber : GoodIn wsX4_line (va_wsS RX4 76 yX4_requireNumber wsX4_requireNumber) := goodIn_app (goodIn_of _ (by decide +kernel)) ggX4_line_X4_requireNumber
set_option maxRecDepth 20000 in
theorem ggX4_line_X4_countOf : GoodIn wsX4_line wsX4_countOf := goodIn_r _ [15, 16, 36, 37, 38, 39] (by decide +kernel) (by decide +kernel)
set_option maxRecDepth 20000 in
theorem gX4_line_X4_countOf : GoodIn wsX4_line (va_wsS RX4 85 yX4_countOf wsX4_countOf) := goodIn_app (goodIn_of _ (by decide +kernel)) ggX4_line_X4_countOf
set_option maxRecDepth 20000 in
theorem ggX4_line_X2_init : GoodIn wsX4_line wsX2_init := goodIn_r _ [19, 20, 21, 22, 23, 24, 25, 26, 36, 37, 38, 39] (by decide +kernel) (by decide +kernel)
set_option maxRecDepth 20000 in
theorem gX4_line_X2_init : GoodIn wsX4_line (wsX2_init) := ggX4_line_X2_init
set_option maxRecDepth 20000 in
theorem ggX4_writeMap_X4_processAt : GoodIn wsX4_writeMap wsX4_processAt := goodIn_ca (goodIn_r _ [13, 1, 2, 14, 91, 92, 93, 94, 95, 96, 97, 98, 99] (by decide +kernel) (by decide +kernel)) (goodIn_sub (fun _ h => List.mem_cons_of_mem _ (List.mem_append_right _ h)) (by decide +kernel))
set_option maxRecDepth 20000 in
theorem gX4_writeMap_X4_processAt : GoodIn wsX4_writeMap (wsV RX4 53 RX4 yX4_processAt wsX4_processAt) := goodIn_app (goodIn_of _ (by decide +kernel)) ggX4_writeMap_X4_processAt
set_option maxRecDepth 20000 in
theorem ggX4_writeMap_X4_roomAt : GoodIn wsX4_writeMap wsX4_roomAt := goodIn_ca (goodIn_r _ [18, 1, 2, 19, 91, 92, 93, 94, 95, 96, 97, 98, 99] (by decide +kernel) (by decide +kernel)) (goodIn_sub (fun _ h => List.mem_cons_of_mem _ (List.mem_append_right _ h)) (by decide +kernel))
set_option maxRecDepth 20000 in
theorem gX4_writeMap_X4_roomAt : GoodIn wsX4_writeMap (wsV RX4 96 RX4 yX4_roomAt wsX4_roomAt) := goodIn_app (goodIn_of _ (by decide +kernel)) ggX4_writeMap_X4_roomAt
set_option maxRecDepth 20000 in
theorem ggX4_writeMap_X4_refuse : GoodIn wsX4_writeMap wsX4_refuse := goodIn_r _ [23, 24, 25, 91, 92, 93, 94, 95, 96, 97, 98, 99] (by decide +kernel) (by decide +kernel)
set_option maxRecDepth 20000 in
theorem gX4_writeMap_X4_refuse : GoodIn wsX4_writeMap (wsV RX4 111 RX4 yX4_refuse wsX4_refuse) := goodIn_app (goodIn_of _ (by decide +kernel)) ggX4_writeMap_X4_refuse
set_option maxRecDepth 20000 in
theorem ggX4_writeMap_X4_anyMeet : GoodIn wsX4_writeMap wsX4_anyMeet := goodIn_r _ [28, 29, 30, 31, 32, 33, 34, 35, 36, 37, 38, 39, 40, 103, 104, 105, 106] (by decide +kernel) (by decide +kernel)
set_option maxRecDepth 20000 in
theorem gX4_writeMap_X4_anyMeet : GoodIn wsX4_writeMap (va_wsS RX4 115 yX4_anyMeet wsX4_anyMeet) := goodIn_app (goodIn_of _ (by decide +kernel)) ggX4_writeMap_X4_anyMeet
set_option maxRecDepth 20000 in
theorem ggX4_writeMap_X4_allLeadOut : GoodIn wsX4_writeMap wsX4_allLeadOut := goodIn_r _ [43, 44, 8, 29, 45, 46, 12, 47, 3, 48, 49, 50, 51, 52, 53, 54, 55, 56, 57, 58, 103, 104, 105, 106, 87, 88, 89, 90] (by decide +kernel) (by decide +kernel)
set_option maxRecDepth 20000 in
theorem gX4_writeMap_X4_allLeadOut : GoodIn wsX4_writeMap (va_wsS RX4 119 yX4_allLeadOut wsX4_allLeadOut) := goodIn_app (goodIn_of _ (by decide +kernel)) ggX4_writeMap_X4_allLeadOut
set_option maxRecDepth 20000 in
theorem ggX4_writeMap_X2_isOfOneNumber : GoodIn wsX4_writeMap wsX2_isOfOneNumber := goodIn_r _ [62, 63, 36, 103, 104, 105, 106] (by decide +kernel) (by decide +kernel)
set_option maxRecDepth 20000 in
theorem gX4_writeMap_X2_isOfOneNumber : GoodIn wsX4_writeMap (wsV RX4 123 RX2 yX2_isOfOneNumber wsX2_isOfOneNumber) := goodIn_app (goodIn_of _ (by decide +kernel)) ggX4_writeMap_X2_isOfOneNumber
set_option maxRecDepth 20000 in
theorem ggX4_writeMap_X4_leadOut : GoodIn wsX4_writeMap wsX4_leadOut := goodIn_r _ [47, 3, 48, 49, 50, 51, 52, 53, 54, 55, 56, 57, 58, 87, 88, 89, 90, 103, 104, 105, 106] (by decide +kernel) (by decide +kernel)
set_option maxRecDepth 20000 in
theorem gX4_writeMap_X4_leadOut : GoodIn wsX4_writeMap (va_wsS RX4 132 yX4_leadOut wsX4_leadOut) := goodIn_app (goodIn_of _ (by decide +kernel)) ggX4_writeMap_X4_leadOut
set_option maxRecDepth 20000 in
theorem ggX4_writeMap_X1_hasRight : GoodIn wsX4_writeMap wsX1_hasRight := goodIn_r _ [68, 69, 70, 71, 67, 72, 73, 74, 75, 76, 77, 78, 79, 80, 81, 82, 12, 83, 3, 100, 101, 102, 87, 88, 89, 90] (by decide +kernel) (by decide +kernel)
set_option maxRecDepth 20000 in
theorem gX4_writeMap_X1_hasRight : GoodIn wsX4_writeMap (wsV RX4 136 RX1 yX1_hasRight wsX1_hasRight) := goodIn_app (goodIn_of _ (by decide +kernel)) ggX4_writeMap_X1_hasRight
set_option maxRecDepth 20000 in
theorem ggX4_writeMap_X4_countOf : GoodIn wsX4_writeMap wsX4_countOf := goodIn_r _ [86, 29, 103, 104, 105, 106] (by decide +kernel) (by decide +kernel)
set_option maxRecDepth 20000 in
theorem gX4_writeMap_X4_countOf : GoodIn wsX4_writeMap (va_wsS RX4 85 yX4_countOf wsX4_countOf) := goodIn_app (goodIn_of _ (by decide +kernel)) ggX4_writeMap_X4_countOf
set_option maxRecDepth 20000 in
theorem ggX4_outerOf_X4_roomAt : GoodIn wsX4_outerOf wsX4_roomAt := goodIn_ca (goodIn_r _ [6, 7, 8, 9, 18, 19, 20, 21, 22, 23, 24, 25, 26] (by decide +kernel) (by decide +kernel)) (goodIn_sub (fun _ h => List.mem_cons_of_mem _ (List.mem_append_right _ h)) (by decide +kernel))
set_option maxRecDepth 20000 in
theorem gX4_outerOf_X4_roomAt : GoodIn wsX4_outerOf (wsV RX4 96 RX4 yX4_roomAt wsX4_roomAt) := goodIn_app (goodIn_of _ (by decide +kernel)) ggX4_outerOf_X4_roomAt
set_option maxRecDepth 20000 in
theorem ggX4_outerOf_X4_numberOrNone : GoodIn wsX4_outerOf wsX4_numberOrNone := goodIn_r _ [12, 13, 14, 15, 16, 17] (by decide +kernel) (by decide +kernel)
set_option maxRecDepth 20000 in
theorem gX4_outerOf_X4_numberOrNone : GoodIn wsX4_outerOf (va_wsS RX4 140 yX4_numberOrNone wsX4_numberOrNone) := goodIn_app (goodIn_of _ (by decide +kernel)) ggX4_outerOf_X4_numberOrNone
set_option maxRecDepth 20000 in
theorem ggX4_leadsTo_X4_roomAt : GoodIn wsX4_leadsTo wsX4_roomAt := goodIn_ca (goodIn_r _ [5, 6, 7, 8, 29, 30, 31, 32, 33, 34, 35, 36, 37] (by decide +kernel) (by decide +kernel)) (goodIn_sub (fun _ h => List.mem_cons_of_mem _ (List.mem_append_left _ (List.mem_append_right _ h))) (by decide +kernel))
set_option maxRecDepth 20000 in
theorem gX4_leadsTo_X4_roomAt : GoodIn wsX4_leadsTo (wsV RX4 96 RX4 yX4_roomAt wsX4_roomAt) := goodIn_app (goodIn_of _ (by decide +kernel)) ggX4_leadsTo_X4_roomAt
set_option maxRecDepth 20000 in
theorem ggX4_leadsTo_X4_requireNumber : GoodIn wsX4_leadsTo wsX4_requireNumber := goodIn_ca (goodIn_r _ [11, 12, 13] (by decide +kernel) (by decide +kernel)) (goodIn_sub (fun _ h => List.mem_cons_of_mem _ (List.mem_append_right _ h)) (by decide +kernel))
set_option maxRecDepth 20000 in
theorem gX4_leadsTo_X4_requireNumber : GoodIn wsX4_leadsTo (va_wsS RX4 76 yX4_requireNumber wsX4_requireNumber) := goodIn_app (goodIn_of _ (by decide +kernel)) ggX4_leadsTo_X4_requireNumber
set_option maxRecDepth 20000 in
theorem ggX4_leadsTo_X4_leadOut : GoodIn wsX4_leadsTo wsX4_leadOut := goodIn_r _ [16, 17, 18, 19, 20, 21, 22, 23, 24, 25, 26, 27, 28, 38, 39, 40, 41, 42, 43, 44, 45] (by decide +kernel) (by decide +kernel)
set_option maxRecDepth 20000 in
theorem gX4_leadsTo_X4_leadOut : GoodIn wsX4_leadsTo (va_wsS RX4 132 yX4_leadOut wsX4_leadOut) := goodIn_app (goodIn_of _ (by decide +kernel)) ggX4_leadsTo_X4_leadOut
set_option maxRecDepth 20000 in
theorem ggX4_seenAs_X4_roomAt : GoodIn wsX4_seenAs wsX4_roomAt := goodIn_ca (goodIn_r _ [5, 6, 7, 8, 33, 34, 35, 36, 37, 38, 39, 40, 41] (by decide +kernel) (by decide +kernel)) (goodIn_sub (fun _ h => List.mem_cons_of_mem _ (List.mem_append_left _ (List.mem_append_right _ h))) (by decide +kernel))
set_option maxRecDepth 20000 in
theorem gX4_seenAs_X4_roomAt : GoodIn wsX4_seenAs (wsV RX4 96 RX4 yX4_roomAt wsX4_roomAt) := goodIn_app (goodIn_of _ (by decide +kernel)) ggX4_seenAs_X4_roomAt
set_option maxRecDepth 20000 in
theorem ggX4_seenAs_X4_requireNumber : GoodIn wsX4_seenAs wsX4_requireNumber := goodIn_ca (goodIn_r _ [11, 12, 13] (by decide +kernel) (by decide +kernel)) (goodIn_sub (fun _ h => List.mem_cons_of_mem _ (List.mem_append_right _ h)) (by decide +kernel))
set_option maxRecDepth 20000 in
theorem gX4_seenAs_X4_requireNumber : GoodIn wsX4_seenAs (va_wsS RX4 76 yX4_requireNumber wsX4_requireNumber) := goodIn_app (goodIn_of _ (by decide +kernel)) ggX4_seenAs_X4_requireNumber
set_option maxRecDepth 20000 in
theorem ggX4_seenAs_X4_seenFrom : GoodIn wsX4_seenAs wsX4_seenFrom := goodIn_r _ [17, 8, 18, 19, 4, 20, 21, 22, 23, 24, 25, 26, 27, 28, 29, 30, 31, 32, 33, 34, 35, 36, 37, 38, 39, 40, 41, 42, 43, 44, 45, 46, 47, 48, 49] (by decide +kernel) (by decide +kernel)
set_option maxRecDepth 20000 in
theorem gX4_seenAs_X4_seenFrom : GoodIn wsX4_seenAs (wsV RX4 144 RX4 yX4_seenFrom wsX4_seenFrom) := goodIn_app (goodIn_of _ (by decide +kernel)) ggX4_seenAs_X4_seenFrom
set_option maxRecDepth 20000 in
theorem ggX4_seenByLeading_X4_roomAt : GoodIn wsX4_seenByLeading wsX4_roomAt := goodIn_ca (goodIn_r _ [5, 6, 7, 8, 29, 30, 31, 32, 33, 34, 35, 36, 37] (by decide +kernel) (by decide +kernel)) (goodIn_sub (fun _ h => List.mem_cons_of_mem _ (List.mem_append_left _ (List.mem_append_right _ h))) (by decide +kernel))
set_option maxRecDepth 20000 in
theorem gX4_seenByLeading_X4_roomAt : GoodIn wsX4_seenByLeading (wsV RX4 96 RX4 yX4_roomAt wsX4_roomAt) := goodIn_app (goodIn_of _ (by decide +kernel)) ggX4_seenByLeading_X4_roomAt
set_option maxRecDepth 20000 in
theorem ggX4_seenByLeading_X4_requireNumber : GoodIn wsX4_seenByLeading wsX4_requireNumber := goodIn_ca (goodIn_r _ [11, 12, 13] (by decide +kernel) (by decide +kernel)) (goodIn_sub (fun _ h => List.mem_cons_of_mem _ (List.mem_append_right _ h)) (by decide +kernel))
set_option maxRecDepth 20000 in
theorem gX4_seenByLeading_X4_requireNumber : GoodIn wsX4_seenByLeading (va_wsS RX4 76 yX4_requireNumber wsX4_requireNumber) := goodIn_app (goodIn_of _ (by decide +kernel)) ggX4_seenByLeading_X4_requireNumber
set_option maxRecDepth 20000 in
theorem ggX4_seenByLeading_X4_leadOut : GoodIn wsX4_seenByLeading wsX4_leadOut := goodIn_r _ [16, 17, 18, 19, 20, 21, 22, 23, 24, 25, 26, 27, 28, 38, 39, 40, 41, 42, 43, 44, 45] (by decide +kernel) (by decide +kernel)
set_option maxRecDepth 20000 in
theorem gX4_seenByLeading_X4_leadOut : GoodIn wsX4_seenByLeading (va_wsS RX4 132 yX4_leadOut wsX4_leadOut) := goodIn_app (goodIn_of _ (by decide +kernel)) ggX4_seenByLeading_X4_leadOut
set_option maxRecDepth 20000 in
theorem ggX4_fork_X4_processAt : GoodIn wsX4_fork wsX4_processAt := goodIn_ca (goodIn_r _ [15, 16, 17, 4, 27, 28, 29, 30, 31, 32, 33, 34, 35] (by decide +kernel) (by decide +kernel)) (goodIn_sub (fun _ h => List.mem_cons_of_mem _ (List.mem_append_right _ h)) (by decide +kernel))
set_option maxRecDepth 20000 in
theorem gX4_fork_X4_processAt : GoodIn wsX4_fork (wsV RX4 53 RX4 yX4_processAt wsX4_processAt) := goodIn_app (goodIn_of _ (by decide +kernel)) ggX4_fork_X4_processAt
set_option maxRecDepth 20000 in
theorem ggX4_fork_X1_init : GoodIn wsX4_fork wsX1_init := goodIn_r _ [20, 21, 22, 23, 24, 25, 26, 36, 37, 38] (by decide +kernel) (by decide +kernel)
set_option maxRecDepth 20000 in
theorem gX4_fork_X1_init : GoodIn wsX4_fork (wsX1_init) := ggX4_fork_X1_init
set_option maxRecDepth 20000 in
theorem ggX4_drop_X4_processAt : GoodIn wsX4_drop wsX4_processAt := goodIn_ca (goodIn_r _ [8, 9, 10, 11, 15, 16, 17, 18, 19, 20, 21, 22, 23] (by decide +kernel) (by decide +kernel)) (goodIn_sub (fun _ h => List.mem_cons_of_mem _ (List.mem_append_right _ h)) (by decide +kernel))
set_option maxRecDepth 20000 in
theorem gX4_drop_X4_processAt : GoodIn wsX4_drop (wsV RX4 53 RX4 yX4_processAt wsX4_processAt) := goodIn_app (goodIn_of _ (by decide +kernel)) ggX4_drop_X4_processAt
set_option maxRecDepth 20000 in
theorem ggX4_enter_X4_processAt : GoodIn wsX4_enter wsX4_processAt := goodIn_ca (goodIn_r _ [8, 9, 10, 11, 55, 56, 57, 58, 59, 60, 61, 62, 63] (by decide +kernel) (by decide +kernel)) (goodIn_sub (fun _ h => List.mem_cons_of_mem _ (List.mem_append_right _ h)) (by decide +kernel))
set_option maxRecDepth 20000 in
theorem gX4_enter_X4_processAt : GoodIn wsX4_enter (wsV RX4 53 RX4 yX4_processAt wsX4_processAt) := goodIn_app (goodIn_of _ (by decide +kernel)) ggX4_enter_X4_processAt
set_option maxRecDepth 20000 in
theorem ggX4_enter_X4_roomAt : GoodIn wsX4_enter wsX4_roomAt := goodIn_ca (goodIn_r _ [15, 9, 10, 16, 55, 56, 57, 58, 59, 60, 61, 62, 63] (by decide +kernel) (by decide +kernel)) (goodIn_sub (fun _ h => List.mem_cons_of_mem _ (List.mem_append_right _ h)) (by decide +kernel))
set_option maxRecDepth 20000 in
theorem gX4_enter_X4_roomAt : GoodIn wsX4_enter (wsV RX4 96 RX4 yX4_roomAt wsX4_roomAt) := goodIn_app (goodIn_of _ (by decide +kernel)) ggX4_enter_X4_roomAt
set_option maxRecDepth 20000 in
theorem ggX4_enter_X4_isOrIsInside : GoodIn wsX4_enter wsX4_isOrIsInside := goodIn_r _ [19, 1, 48, 49, 50, 51] (by decide +kernel) (by decide +kernel)
set_option maxRecDepth 20000 in
theorem gX4_enter_X4_isOrIsInside : GoodIn wsX4_enter (va_wsS RX4 154 yX4_isOrIsInside wsX4_isOrIsInside) := goodIn_app (goodIn_of _ (by decide +kernel)) ggX4_enter_X4_isOrIsInside
set_option maxRecDepth 20000 in
theorem ggX4_enter_X4_refuse : GoodIn wsX4_enter wsX4_refuse := goodIn_r _ [23, 24, 25, 55, 56, 57, 58, 59, 60, 61, 62, 63] (by decide +kernel) (by decide +kernel)
set_option maxRecDepth 20000 in
theorem gX4_enter_X4_refuse : GoodIn wsX4_enter (wsV RX4 111 RX4 yX4_refuse wsX4_refuse) := goodIn_app (goodIn_of _ (by decide +kernel)) ggX4_enter_X4_refuse
set_option maxRecDepth 20000 in
theorem ggX4_enter_X1_hasRight : GoodIn wsX4_enter wsX1_hasRight := goodIn_r _ [30, 31, 32, 33, 29, 34, 35, 36, 37, 38, 39, 40, 41, 42, 43, 18, 7, 19, 1, 52, 53, 54, 48, 49, 50, 51] (by decide +kernel) (by decide +kernel)
set_option maxRecDepth 20000 in
theorem gX4_enter_X1_hasRight : GoodIn wsX4_enter (wsV RX4 136 RX1 yX1_hasRight wsX1_hasRight) := goodIn_app (goodIn_of _ (by decide +kernel)) ggX4_enter_X1_hasRight
set_option maxRecDepth 20000 in
theorem ggX4_enter_X1_moveInto : GoodIn wsX4_enter wsX1_moveInto := goodIn_r _ [47, 35, 36, 52, 53, 54] (by decide +kernel) (by decide +kernel)
set_option maxRecDepth 20000 in
theorem gX4_enter_X1_moveInto : GoodIn wsX4_enter (wsV RX4 71 RX1 yX1_moveInto wsX1_moveInto) := goodIn_app (goodIn_of _ (by decide +kernel)) ggX4_enter_X1_moveInto
set_option maxRecDepth 20000 in
theorem ggX4_setNumber_X4_processAt : GoodIn wsX4_setNumber wsX4_processAt := goodIn_ca (goodIn_r _ [8, 9, 10, 11, 71, 72, 73, 74, 75, 76, 77, 78, 79] (by decide +kernel) (by decide +kernel)) (goodIn_sub (fun _ h => List.mem_cons_of_mem _ (List.mem_append_left _ (List.mem_append_right _ h))) (by decide +kernel))
set_option maxRecDepth 20000 in
theorem gX4_setNumber_X4_processAt : GoodIn wsX4_setNumber (wsV RX4 53 RX4 yX4_processAt wsX4_processAt) := goodIn_app (goodIn_of _ (by decide +kernel)) ggX4_setNumber_X4_processAt
set_option maxRecDepth 20000 in
theorem ggX4_setNumber_X4_requireNumber : GoodIn wsX4_setNumber wsX4_requireNumber := goodIn_ca (goodIn_r _ [14, 15, 16] (by decide +kernel) (by decide +kernel)) (goodIn_sub (fun _ h => List.mem_cons_of_mem _ (List.mem_append_right _ h)) (by decide +kernel))
set_option maxRecDepth 20000 in
theorem gX4_setNumber_X4_requireNumber : GoodIn wsX4_setNumber (va_wsS RX4 76 yX4_requireNumber wsX4_requireNumber) := goodIn_app (goodIn_of _ (by decide +kernel)) ggX4_setNumber_X4_requireNumber
set_option maxRecDepth 20000 in
theorem ggX4_setNumber_X4_leadOut : GoodIn wsX4_setNumber wsX4_leadOut := goodIn_r _ [19, 20, 21, 22, 23, 24, 25, 26, 27, 28, 29, 30, 31, 80, 81, 82, 83, 84, 85, 86, 87] (by decide +kernel) (by decide +kernel)
set_option maxRecDepth 20000 in
theorem gX4_setNumber_X4_leadOut : GoodIn wsX4_setNumber (va_wsS RX4 132 yX4_leadOut wsX4_leadOut) := goodIn_app (goodIn_of _ (by decide +kernel)) ggX4_setNumber_X4_leadOut
set_option maxRecDepth 20000 in
theorem ggX4_setNumber_X4_refuse : GoodIn wsX4_setNumber wsX4_refuse := goodIn_r _ [35, 36, 37, 71, 72, 73, 74, 75, 76, 77, 78, 79] (by decide +kernel) (by decide +kernel)
set_option maxRecDepth 20000 in
theorem gX4_setNumber_X4_refuse : GoodIn wsX4_setNumber (wsV RX4 111 RX4 yX4_refuse wsX4_refuse) := goodIn_app (goodIn_of _ (by decide +kernel)) ggX4_setNumber_X4_refuse
set_option maxRecDepth 20000 in
theorem ggX4_setNumber_X1_hasRight : GoodIn wsX4_setNumber wsX1_hasRight := goodIn_r _ [42, 43, 44, 45, 41, 46, 47, 48, 49, 50, 51, 52, 53, 54, 55, 56, 7, 57, 20, 68, 69, 70, 80, 81, 82, 83] (by decide +kernel) (by decide +kernel)
set_option maxRecDepth 20000 in
theorem gX4_setNumber_X1_hasRight : GoodIn wsX4_setNumber (wsV RX4 136 RX1 yX1_hasRight wsX1_hasRight) := goodIn_app (goodIn_of _ (by decide +kernel)) ggX4_setNumber_X1_hasRight
set_option maxRecDepth 20000 in
theorem ggX4_setNumber_X4_seenFrom : GoodIn wsX4_setNumber wsX4_seenFrom := goodIn_r _ [61, 62, 63, 56, 7, 57, 20, 64, 65, 66, 24, 67, 26, 27, 30, 29, 28, 31, 71, 72, 73, 74, 75, 76, 77, 78, 79, 80, 81, 82, 83, 84, 85, 86, 87] (by decide +kernel) (by decide +kernel)
set_option maxRecDepth 20000 in
theorem gX4_setNumber_X4_seenFrom : GoodIn wsX4_setNumber (wsV RX4 144 RX4 yX4_seenFrom wsX4_seenFrom) := goodIn_app (goodIn_of _ (by decide +kernel)) ggX4_setNumber_X4_seenFrom
set_option maxRecDepth 20000 in
theorem ggX4_roomOf_X4_processAt : GoodIn wsX4_roomOf wsX4_processAt := goodIn_ca (goodIn_r _ [6, 7, 8, 9, 17, 18, 19, 20, 21, 22, 23, 24, 25] (by decide +kernel) (by decide +kernel)) (goodIn_sub (fun _ h => List.mem_cons_of_mem _ (List.mem_append_right _ h)) (by decide +kernel))
set_option maxRecDepth 20000 in
theorem gX4_roomOf_X4_processAt : GoodIn wsX4_roomOf (wsV RX4 53 RX4 yX4_processAt wsX4_processAt) := goodIn_app (goodIn_of _ (by decide +kernel)) ggX4_roomOf_X4_processAt
set_option maxRecDepth 20000 in
theorem ggX4_roomOf_X4_numberOrNone : GoodIn wsX4_roomOf wsX4_numberOrNone := goodIn_r _ [12, 13, 26, 27, 28, 29] (by decide +kernel) (by decide +kernel)
set_option maxRecDepth 20000 in
theorem gX4_roomOf_X4_numberOrNone : GoodIn wsX4_roomOf (va_wsS RX4 140 yX4_numberOrNone wsX4_numberOrNone) := goodIn_app (goodIn_of _ (by decide +kernel)) ggX4_roomOf_X4_numberOrNone
set_option maxRecDepth 20000 in
theorem ggX4_numberOf_X4_processAt : GoodIn wsX4_numberOf wsX4_processAt := goodIn_ca (goodIn_r _ [6, 7, 8, 9, 13, 14, 15, 16, 17, 18, 19, 20, 21] (by decide +kernel) (by decide +kernel)) (goodIn_sub (fun _ h => List.mem_cons_of_mem _ (List.mem_append_right _ h)) (by decide +kernel))
set_option maxRecDepth 20000 in
theorem gX4_numberOf_X4_processAt : GoodIn wsX4_numberOf (wsV RX4 53 RX4 yX4_processAt wsX4_processAt) := goodIn_app (goodIn_of _ (by decide +kernel)) ggX4_numberOf_X4_processAt
set_option maxRecDepth 20000 in
theorem ggX4_rightsIn_X4_processAt : GoodIn wsX4_rightsIn wsX4_processAt := goodIn_ca (goodIn_r _ [5, 6, 7, 8, 31, 32, 33, 34, 35, 36, 37, 38, 39] (by decide +kernel) (by decide +kernel)) (goodIn_sub (fun _ h => List.mem_cons_of_mem _ (List.mem_append_right _ h)) (by decide +kernel))
set_option maxRecDepth 20000 in
theorem gX4_rightsIn_X4_processAt : GoodIn wsX4_rightsIn (wsV RX4 53 RX4 yX4_processAt wsX4_processAt) := goodIn_app (goodIn_of _ (by decide +kernel)) ggX4_rightsIn_X4_processAt
set_option maxRecDepth 20000 in
theorem ggX4_rightsIn_X4_roomAt : GoodIn wsX4_rightsIn wsX4_roomAt := goodIn_ca (goodIn_r _ [12, 6, 7, 13, 31, 32, 33, 34, 35, 36, 37, 38, 39] (by decide +kernel) (by decide +kernel)) (goodIn_sub (fun _ h => List.mem_cons_of_mem _ (List.mem_append_right _ h)) (by decide +kernel))
set_option maxRecDepth 20000 in
theorem gX4_rightsIn_X4_roomAt : GoodIn wsX4_rightsIn (wsV RX4 96 RX4 yX4_roomAt wsX4_roomAt) := goodIn_app (goodIn_of _ (by decide +kernel)) ggX4_rightsIn_X4_roomAt
set_option maxRecDepth 20000 in
theorem ggX4_rightsIn_X1_rightsHeldIn : GoodIn wsX4_rightsIn wsX1_rightsHeldIn := goodIn_r _ [18, 19, 20, 21, 22, 23, 17, 24, 25, 26, 27, 28, 4, 29, 30, 40, 41, 42, 43, 44, 45, 46] (by decide +kernel) (by decide +kernel)
set_option maxRecDepth 20000 in
theorem gX4_rightsIn_X1_rightsHeldIn : GoodIn wsX4_rightsIn (wsV RX4 158 RX1 yX1_rightsHeldIn wsX1_rightsHeldIn) := goodIn_app (goodIn_of _ (by decide +kernel)) ggX4_rightsIn_X1_rightsHeldIn
set_option maxRecDepth 20000 in
theorem ggX4_makeFile_X4_processAt : GoodIn wsX4_makeFile wsX4_processAt := goodIn_ca (goodIn_r _ [16, 17, 18, 19, 54, 55, 56, 57, 58, 59, 60, 61, 62] (by decide +kernel) (by decide +kernel)) (goodIn_sub (fun _ h => List.mem_cons_of_mem _ (List.mem_append_right _ h)) (by decide +kernel))
set_option maxRecDepth 20000 in
theorem gX4_makeFile_X4_processAt : GoodIn wsX4_makeFile (wsV RX4 53 RX4 yX4_processAt wsX4_processAt) := goodIn_app (goodIn_of _ (by decide +kernel)) ggX4_makeFile_X4_processAt
set_option maxRecDepth 20000 in
theorem ggX4_makeFile_X4_seenFrom : GoodIn wsX4_makeFile wsX4_seenFrom := goodIn_r _ [23, 24, 25, 26, 15, 27, 28, 29, 30, 31, 32, 33, 34, 35, 36, 37, 38, 39, 54, 55, 56, 57, 58, 59, 60, 61, 62, 68, 69, 70, 71, 72, 73, 74, 75] (by decide +kernel) (by decide +kernel)
set_option maxRecDepth 20000 in
theorem gX4_makeFile_X4_seenFrom : GoodIn wsX4_makeFile (wsV RX4 144 RX4 yX4_seenFrom wsX4_seenFrom) := goodIn_app (goodIn_of _ (by decide +kernel)) ggX4_makeFile_X4_seenFrom
set_option maxRecDepth 20000 in
theorem ggX4_makeFile_X4_refuse : GoodIn wsX4_makeFile wsX4_refuse := goodIn_r _ [43, 44, 45, 54, 55, 56, 57, 58, 59, 60, 61, 62] (by decide +kernel) (by decide +kernel)
set_option maxRecDepth 20000 in
theorem gX4_makeFile_X4_refuse : GoodIn wsX4_makeFile (wsV RX4 111 RX4 yX4_refuse wsX4_refuse) := goodIn_app (goodIn_of _ (by decide +kernel)) ggX4_makeFile_X4_refuse
set_option maxRecDepth 20000 in
theorem ggX4_makeFile_X0_init : GoodIn wsX4_makeFile wsX0_init := goodIn_r _ [48, 49, 50, 51, 52, 53, 66, 67] (by decide +kernel) (by decide +kernel)
set_option maxRecDepth 20000 in
theorem gX4_makeFile_X0_init : GoodIn wsX4_makeFile (wsX0_init) := ggX4_makeFile_X0_init
set_option maxRecDepth 20000 in
theorem ggX4_handOver_X4_processAt : GoodIn wsX4_handOver wsX4_processAt := goodIn_ca (goodIn_r _ [7, 8, 9, 10, 77, 78, 79, 80, 81, 82, 83, 84, 85] (by decide +kernel) (by decide +kernel)) (goodIn_sub (fun _ h => List.mem_cons_of_mem _ (List.mem_append_left _ (List.mem_append_right _ h))) (by decide +kernel))
set_option maxRecDepth 20000 in
theorem gX4_handOver_X4_processAt : GoodIn wsX4_handOver (wsV RX4 53 RX4 yX4_processAt wsX4_processAt) := goodIn_app (goodIn_of _ (by decide +kernel)) ggX4_handOver_X4_processAt
set_option maxRecDepth 20000 in
theorem ggX4_handOver_X4_fileAt : GoodIn wsX4_handOver wsX4_fileAt := goodIn_ca (goodIn_r _ [14, 8, 9, 15, 77, 78, 79, 80, 81, 82, 83, 84, 85] (by decide +kernel) (by decide +kernel)) (goodIn_sub (fun _ h => List.mem_cons_of_mem _ (List.mem_append_left _ (List.mem_append_right _ h))) (by decide +kernel))
set_option maxRecDepth 20000 in
theorem gX4_handOver_X4_fileAt : GoodIn wsX4_handOver (wsV RX4 168 RX4 yX4_fileAt wsX4_fileAt) := goodIn_app (goodIn_of _ (by decide +kernel)) ggX4_handOver_X4_fileAt
set_option maxRecDepth 20000 in
theorem ggX4_handOver_X4_requireNumber : GoodIn wsX4_handOver wsX4_requireNumber := goodIn_ca (goodIn_r _ [18, 19, 20] (by decide +kernel) (by decide +kernel)) (goodIn_sub (fun _ h => List.mem_cons_of_mem _ (List.mem_append_right _ h)) (by decide +kernel))
set_option maxRecDepth 20000 in
theorem gX4_handOver_X4_requireNumber : GoodIn wsX4_handOver (va_wsS RX4 76 yX4_requireNumber wsX4_requireNumber) := goodIn_app (goodIn_of _ (by decide +kernel)) ggX4_handOver_X4_requireNumber
set_option maxRecDepth 20000 in
theorem ggX4_handOver_X4_leadOut : GoodIn wsX4_handOver wsX4_leadOut := goodIn_r _ [23, 24, 25, 26, 27, 28, 29, 30, 31, 32, 33, 34, 35, 86, 87, 88, 89, 90, 91, 92, 93] (by decide +kernel) (by decide +kernel)
set_option maxRecDepth 20000 in
theorem gX4_handOver_X4_leadOut : GoodIn wsX4_handOver (va_wsS RX4 132 yX4_leadOut wsX4_leadOut) := goodIn_app (goodIn_of _ (by decide +kernel)) ggX4_handOver_X4_leadOut
set_option maxRecDepth 20000 in
theorem ggX4_handOver_X4_seenFrom : GoodIn wsX4_handOver wsX4_seenFrom := goodIn_r _ [39, 40, 41, 42, 6, 43, 24, 44, 45, 46, 28, 47, 30, 31, 34, 33, 32, 35, 77, 78, 79, 80, 81, 82, 83, 84, 85, 86, 87, 88, 89, 90, 91, 92, 93] (by decide +kernel) (by decide +kernel)
set_option maxRecDepth 20000 in
theorem gX4_handOver_X4_seenFrom : GoodIn wsX4_handOver (wsV RX4 144 RX4 yX4_seenFrom wsX4_seenFrom) := goodIn_app (goodIn_of _ (by decide +kernel)) ggX4_handOver_X4_seenFrom
set_option maxRecDepth 20000 in
theorem ggX4_handOver_X4_refuse : GoodIn wsX4_handOver wsX4_refuse := goodIn_r _ [51, 52, 53, 77, 78, 79, 80, 81, 82, 83, 84, 85] (by decide +kernel) (by decide +kernel)
set_option maxRecDepth 20000 in
theorem gX4_handOver_X4_refuse : GoodIn wsX4_handOver (wsV RX4 111 RX4 yX4_refuse wsX4_refuse) := goodIn_app (goodIn_of _ (by decide +kernel)) ggX4_handOver_X4_refuse
set_option maxRecDepth 20000 in
theorem ggX4_handOver_X1_hasRight : GoodIn wsX4_handOver wsX1_hasRight := goodIn_r _ [58, 59, 60, 61, 57, 62, 63, 64, 65, 66, 67, 68, 69, 70, 71, 42, 6, 43, 24, 72, 73, 74, 86, 87, 88, 89] (by decide +kernel) (by decide +kernel)
set_option maxRecDepth 20000 in
theorem gX4_handOver_X1_hasRight : GoodIn wsX4_handOver (wsV RX4 136 RX1 yX1_hasRight wsX1_hasRight) := goodIn_app (goodIn_of _ (by decide +kernel)) ggX4_handOver_X1_hasRight
set_option maxRecDepth 20000 in
theorem ggX4_open_X4_processAt : GoodIn wsX4_open wsX4_processAt := goodIn_ca (goodIn_r _ [8, 9, 10, 11, 73, 74, 75, 76, 77, 78, 79, 80, 81] (by decide +kernel) (by decide +kernel)) (goodIn_sub (fun _ h => List.mem_cons_of_mem _ (List.mem_append_right _ h)) (by decide +kernel))
set_option maxRecDepth 20000 in
theorem gX4_open_X4_processAt : GoodIn wsX4_open (wsV RX4 53 RX4 yX4_processAt wsX4_processAt) := goodIn_app (goodIn_of _ (by decide +kernel)) ggX4_open_X4_processAt
set_option maxRecDepth 20000 in
theorem ggX4_open_X4_fileAt : GoodIn wsX4_open wsX4_fileAt := goodIn_ca (goodIn_r _ [15, 9, 10, 16, 73, 74, 75, 76, 77, 78, 79, 80, 81] (by decide +kernel) (by decide +kernel)) (goodIn_sub (fun _ h => List.mem_cons_of_mem _ (List.mem_append_right _ h)) (by decide +kernel))
set_option maxRecDepth 20000 in
theorem gX4_open_X4_fileAt : GoodIn wsX4_open (wsV RX4 168 RX4 yX4_fileAt wsX4_fileAt) := goodIn_app (goodIn_of _ (by decide +kernel)) ggX4_open_X4_fileAt
set_option maxRecDepth 20000 in
theorem ggX4_open_X0_allows : GoodIn wsX4_open wsX0_allows := goodIn_r _ [21, 22, 23, 71, 72] (by decide +kernel) (by decide +kernel)
set_option maxRecDepth 20000 in
theorem gX4_open_X0_allows : GoodIn wsX4_open (wsV RX4 173 RX0 yX0_allows wsX0_allows) := goodIn_app (goodIn_of _ (by decide +kernel)) ggX4_open_X0_allows
set_option maxRecDepth 20000 in
theorem ggX4_open_X1_hasRight : GoodIn wsX4_open wsX1_hasRight := goodIn_r _ [28, 29, 30, 31, 27, 32, 33, 34, 35, 36, 37, 38, 39, 40, 41, 42, 7, 43, 44, 68, 69, 70, 82, 83, 84, 85] (by decide +kernel) (by decide +kernel)
set_option maxRecDepth 20000 in
theorem gX4_open_X1_hasRight : GoodIn wsX4_open (wsV RX4 136 RX1 yX1_hasRight wsX1_hasRight) := goodIn_app (goodIn_of _ (by decide +kernel)) ggX4_open_X1_hasRight
set_option maxRecDepth 20000 in
theorem ggX4_open_X4_refuse : GoodIn wsX4_open wsX4_refuse := goodIn_r _ [48, 49, 50, 73, 74, 75, 76, 77, 78, 79, 80, 81] (by decide +kernel) (by decide +kernel)
set_option maxRecDepth 20000 in
theorem gX4_open_X4_refuse : GoodIn wsX4_open (wsV RX4 111 RX4 yX4_refuse wsX4_refuse) := goodIn_app (goodIn_of _ (by decide +kernel)) ggX4_open_X4_refuse
set_option maxRecDepth 20000 in
theorem ggX4_open_X4_seenFrom : GoodIn wsX4_open wsX4_seenFrom := goodIn_r _ [54, 55, 56, 42, 7, 43, 44, 57, 58, 59, 60, 61, 62, 63, 64, 65, 66, 67, 73, 74, 75, 76, 77, 78, 79, 80, 81, 82, 83, 84, 85, 86, 87, 88, 89] (by decide +kernel) (by decide +kernel)
set_option maxRecDepth 20000 in
theorem gX4_open_X4_seenFrom : GoodIn wsX4_open (wsV RX4 144 RX4 yX4_seenFrom wsX4_seenFrom) := goodIn_app (goodIn_of _ (by decide +kernel)) ggX4_open_X4_seenFrom
set_option maxRecDepth 20000 in
theorem ggX4_ownerSeenBy_X4_processAt : GoodIn wsX4_ownerSeenBy wsX4_processAt := goodIn_ca (goodIn_r _ [7, 8, 9, 10, 41, 42, 43, 44, 45, 46, 47, 48, 49] (by decide +kernel) (by decide +kernel)) (goodIn_sub (fun _ h => List.mem_cons_of_mem _ (List.mem_append_right _ h)) (by decide +kernel))
set_option maxRecDepth 20000 in
theorem gX4_ownerSeenBy_X4_processAt : GoodIn wsX4_ownerSeenBy (wsV RX4 53 RX4 yX4_processAt wsX4_processAt) := goodIn_app (goodIn_of _ (by decide +kernel)) ggX4_ownerSeenBy_X4_processAt
set_option maxRecDepth 20000 in
theorem ggX4_ownerSeenBy_X4_fileAt : GoodIn wsX4_ownerSeenBy wsX4_fileAt := goodIn_ca (goodIn_r _ [14, 8, 9, 15, 41, 42, 43, 44, 45, 46, 47, 48, 49] (by decide +kernel) (by decide +kernel)) (goodIn_sub (fun _ h => List.mem_cons_of_mem _ (List.mem_append_right _ h)) (by decide +kernel))
set_option maxRecDepth 20000 in
theorem gX4_ownerSeenBy_X4_fileAt : GoodIn wsX4_ownerSeenBy (wsV RX4 168 RX4 yX4_fileAt wsX4_fileAt) := goodIn_app (goodIn_of _ (by decide +kernel)) ggX4_ownerSeenBy_X4_fileAt
set_option maxRecDepth 20000 in
theorem ggX4_ownerSeenBy_X4_seenFrom : GoodIn wsX4_ownerSeenBy wsX4_seenFrom := goodIn_r _ [19, 20, 21, 22, 6, 23, 24, 25, 26, 27, 28, 29, 30, 31, 32, 33, 34, 35, 41, 42, 43, 44, 45, 46, 47, 48, 49, 50, 51, 52, 53, 54, 55, 56, 57] (by decide +kernel) (by decide +kernel)
set_option maxRecDepth 20000 in
theorem gX4_ownerSeenBy_X4_seenFrom : GoodIn wsX4_ownerSeenBy (wsV RX4 144 RX4 yX4_seenFrom wsX4_seenFrom) := goodIn_app (goodIn_of _ (by decide +kernel)) ggX4_ownerSeenBy_X4_seenFrom
set_option maxRecDepth 20000 in
theorem ggX4_seenFrom_X4_isOrIsInside : GoodIn wsX4_seenFrom wsX4_isOrIsInside := goodIn_r _ [5, 6, 27, 28, 29, 30] (by decide +kernel) (by decide +kernel)
set_option maxRecDepth 20000 in
theorem gX4_seenFrom_X4_isOrIsInside : GoodIn wsX4_seenFrom (va_wsS RX4 154 yX4_isOrIsInside wsX4_isOrIsInside) := goodIn_app (goodIn_of _ (by decide +kernel)) ggX4_seenFrom_X4_isOrIsInside
set_option maxRecDepth 20000 in
theorem ggX4_seenFrom_X3_fromOuter : GoodIn wsX4_seenFrom wsX3_fromOuter := goodIn_r _ [11, 12, 13, 14, 15, 16, 17, 27, 28, 29, 30, 31, 32, 33, 34] (by decide +kernel) (by decide +kernel)
set_option maxRecDepth 20000 in
theorem gX4_seenFrom_X3_fromOuter : GoodIn wsX4_seenFrom (wsV RX4 185 RX3 yX3_fromOuter wsX3_fromOuter) := goodIn_app (goodIn_of _ (by decide +kernel)) ggX4_seenFrom_X3_fromOuter
set_option maxRecDepth 20000 in
theorem ggX4_anyMeet_X2_meets : GoodIn wsX4_anyMeet wsX2_meets := goodIn_r _ [6, 7, 8, 9, 10, 11, 5, 12, 13, 14, 15, 16] (by decide +kernel) (by decide +kernel)
set_option maxRecDepth 20000 in
theorem gX4_anyMeet_X2_meets : GoodIn wsX4_anyMeet (wsV RX4 191 RX2 yX2_meets wsX2_meets) := goodIn_app (goodIn_of _ (by decide +kernel)) ggX4_anyMeet_X2_meets
set_option maxRecDepth 20000 in
theorem ggX4_allLeadOut_X4_leadOut : GoodIn wsX4_allLeadOut wsX4_leadOut := goodIn_r _ [7, 8, 9, 10, 11, 12, 13, 14, 15, 16, 17, 18, 19, 24, 25, 26, 27, 20, 21, 22, 23] (by decide +kernel) (by decide +kernel)
set_option maxRecDepth 20000 in
theorem gX4_allLeadOut_X4_leadOut : GoodIn wsX4_allLeadOut (va_wsS RX4 132 yX4_leadOut wsX4_leadOut) := goodIn_app (goodIn_of _ (by decide +kernel)) ggX4_allLeadOut_X4_leadOut
set_option maxRecDepth 20000 in
theorem ggX4_leadOut_X3_toOuter : GoodIn wsX4_leadOut wsX3_toOuter := goodIn_r _ [6, 7, 8, 9, 10, 11, 12, 13, 14, 15, 16, 17, 18, 19, 20] (by decide +kernel) (by decide +kernel)
set_option maxRecDepth 20000 in
theorem gX4_leadOut_X3_toOuter : GoodIn wsX4_leadOut (wsV RX4 197 RX3 yX3_toOuter wsX3_toOuter) := goodIn_app (goodIn_of _ (by decide +kernel)) ggX4_leadOut_X3_toOuter
set_option maxRecDepth 20000 in
theorem ggL_makes_X4_makeRoom : GoodIn wsL_makes wsX4_makeRoom := goodIn_ca (goodIn_ca (goodIn_r _ [9, 10, 11, 12, 13, 14, 15, 16, 17, 18, 19, 20, 21, 22, 8, 23, 24, 25, 26, 27, 28, 29, 30, 31, 32, 33, 34, 35, 36, 37, 38, 39, 40, 41, 42, 43, 44, 45, 46, 47, 48, 49, 50, 51, 52, 53, 54, 55, 56, 57, 58, 59] (by decide +kernel) (by decide +kernel)) (goodIn_sub (fun _ h => List.mem_cons_of_mem _ (List.mem_append_left _ (List.mem_append_right _ h))) (by decide +kernel))) (goodIn_sub (fun _ h => List.mem_cons_of_mem _ (List.mem_append_right _ h)) (by decide +kernel))
set_option maxRecDepth 20000 in
theorem gL_makes_X4_makeRoom : GoodIn wsL_makes (wsV RL 7 RX4 yX4_makeRoom wsX4_makeRoom) := goodIn_app (goodIn_of _ (by decide +kernel)) ggL_makes_X4_makeRoom
set_option maxRecDepth 20000 in
theorem ggL_lines_X4_line : GoodIn wsL_lines wsX4_line := goodIn_ca (goodIn_ca (goodIn_r _ [9, 10, 11, 12, 13, 14, 15, 16, 17, 18, 19, 8, 20, 21, 22, 23, 24, 25, 26, 27, 28, 29, 30, 31, 32, 33, 34, 35, 36, 37, 38, 39, 40, 41, 42, 43, 44, 45, 46, 47] (by decide +kernel) (by decide +kernel)) (goodIn_sub (fun _ h => List.mem_cons_of_mem _ (List.mem_append_left _ (List.mem_append_right _ h))) (by decide +kernel))) (goodIn_sub (fun _ h => List.mem_cons_of_mem _ (List.mem_append_right _ h)) (by decide +kernel))
set_option maxRecDepth 20000 in
theorem gL_lines_X4_line : GoodIn wsL_lines (wsV RL 19 RX4 yX4_line wsX4_line) := goodIn_app (goodIn_of _ (by decide +kernel)) ggL_lines_X4_line
set_option maxRecDepth 20000 in
theorem ggL_writes_X4_writeMap : GoodIn wsL_writes wsX4_writeMap := goodIn_ca (goodIn_r _ [7, 8, 9, 10, 11, 12, 13, 14, 15, 16, 17, 18, 6, 19, 20, 21, 22, 23, 24, 25, 26, 27, 28, 29, 30, 31, 32, 33, 34, 35, 36, 37, 38, 39, 40, 41, 42, 43, 44, 45, 46, 47, 48, 49, 50, 51, 52, 53, 54, 55, 56, 57, 58, 59, 60, 61, 62, 63, 64, 65, 66, 67, 68, 69, 70, 71, 72, 73, 74, 75, 76, 77, 78, 79, 80, 81, 82, 83, 84, 85, 86, 87, 88, 89, 90, 91, 92, 93, 94, 95, 96, 97, 98, 99, 100, 101, 102, 103, 104, 105, 106, 107, 108, 109, 110, 111, 112] (by decide +kernel) (by decide +kernel)) (goodIn_sub (fun _ h => List.mem_cons_of_mem _ (List.mem_append_right _ h)) (by decide +kernel))
set_option maxRecDepth 20000 in
theorem gL_writes_X4_writeMap : GoodIn wsL_writes (wsV RL 26 RX4 yX4_writeMap wsX4_writeMap) := goodIn_app (goodIn_of _ (by decide +kernel)) ggL_writes_X4_writeMap
set_option maxRecDepth 20000 in
theorem ggL_outer_X4_outerOf : GoodIn wsL_outer wsX4_outerOf := goodIn_ca (goodIn_r _ [7, 8, 9, 10, 11, 6, 12, 13, 14, 15, 16, 17, 18, 19, 20, 21, 22, 23, 24, 25, 26, 27, 28, 29, 30, 31, 32] (by decide +kernel) (by decide +kernel)) (goodIn_sub (fun _ h => List.mem_cons_of_mem _ (List.mem_append_right _ h)) (by decide +kernel))
set_option maxRecDepth 20000 in
theorem gL_outer_X4_outerOf : GoodIn wsL_outer (wsV RL 30 RX4 yX4_outerOf wsX4_outerOf) := goodIn_app (goodIn_of _ (by decide +kernel)) ggL_outer_X4_outerOf
set_option maxRecDepth 20000 in
theorem ggL_leads_X4_leadsTo : GoodIn wsL_leads wsX4_leadsTo := goodIn_ca (goodIn_ca (goodIn_r _ [9, 10, 11, 12, 8, 13, 14, 15, 16, 17, 18, 19, 20, 21, 22, 23, 24, 25, 26, 27, 28, 29, 30, 31, 32, 33, 34, 35, 36, 37, 38, 39, 40, 41, 42, 43, 44, 45, 46, 47, 48, 49, 50, 51, 52, 53] (by decide +kernel) (by decide +kernel)) (goodIn_sub (fun _ h => List.mem_cons_of_mem _ (List.mem_append_left _ (List.mem_append_right _ h))) (by decide +kernel))) (goodIn_sub (fun _ h => List.mem_cons_of_mem _ (List.mem_append_right _ h)) (by decide +kernel))
set_option maxRecDepth 20000 in
theorem gL_leads_X4_leadsTo : GoodIn wsL_leads (wsV RL 33 RX4 yX4_leadsTo wsX4_leadsTo) := goodIn_app (goodIn_of _ (by decide +kernel)) ggL_leads_X4_leadsTo
set_option maxRecDepth 20000 in
theorem ggL_seen_X4_seenAs : GoodIn wsL_seen wsX4_seenAs := goodIn_ca (goodIn_ca (goodIn_r _ [9, 10, 11, 12, 8, 13, 14, 15, 16, 17, 18, 19, 20, 21, 22, 23, 24, 25, 26, 27, 28, 29, 30, 31, 32, 33, 34, 35, 36, 37, 38, 39, 40, 41, 42, 43, 44, 45, 46, 47, 48, 49, 50, 51, 52, 53, 54, 55, 56, 57] (by decide +kernel) (by decide +kernel)) (goodIn_sub (fun _ h => List.mem_cons_of_mem _ (List.mem_append_left _ (List.mem_append_right _ h))) (by decide +kernel))) (goodIn_sub (fun _ h => List.mem_cons_of_mem _ (List.mem_append_right _ h)) (by decide +kernel))
set_option maxRecDepth 20000 in
theorem gL_seen_X4_seenAs : GoodIn wsL_seen (wsV RL 36 RX4 yX4_seenAs wsX4_seenAs) := goodIn_app (goodIn_of _ (by decide +kernel)) ggL_seen_X4_seenAs
set_option maxRecDepth 20000 in
theorem ggL_byLeading_X4_seenByLeading : GoodIn wsL_byLeading wsX4_seenByLeading := goodIn_ca (goodIn_ca (goodIn_r _ [9, 10, 11, 12, 8, 13, 14, 15, 16, 17, 18, 19, 20, 21, 22, 23, 24, 25, 26, 27, 28, 29, 30, 31, 32, 33, 34, 35, 36, 37, 38, 39, 40, 41, 42, 43, 44, 45, 46, 47, 48, 49, 50, 51, 52, 53] (by decide +kernel) (by decide +kernel)) (goodIn_sub (fun _ h => List.mem_cons_of_mem _ (List.mem_append_left _ (List.mem_append_right _ h))) (by decide +kernel))) (goodIn_sub (fun _ h => List.mem_cons_of_mem _ (List.mem_append_right _ h)) (by decide +kernel))
set_option maxRecDepth 20000 in
theorem gL_byLeading_X4_seenByLeading : GoodIn wsL_byLeading (wsV RL 39 RX4 yX4_seenByLeading wsX4_seenByLeading) := goodIn_app (goodIn_of _ (by decide +kernel)) ggL_byLeading_X4_seenByLeading
set_option maxRecDepth 20000 in
theorem ggL_forks_X4_fork : GoodIn wsL_forks wsX4_fork := goodIn_ca (goodIn_ca (goodIn_r _ [9, 10, 11, 12, 13, 14, 15, 16, 17, 18, 19, 20, 21, 22, 8, 23, 24, 25, 26, 27, 28, 29, 30, 31, 32, 33, 34, 35, 36, 37, 38, 39, 40, 41, 42, 43, 44, 45, 46] (by decide +kernel) (by decide +kernel)) (goodIn_sub (fun _ h => List.mem_cons_of_mem _ (List.mem_append_left _ (List.mem_append_right _ h))) (by decide +kernel))) (goodIn_sub (fun _ h => List.mem_cons_of_mem _ (List.mem_append_right _ h)) (by decide +kernel))
set_option maxRecDepth 20000 in
theorem gL_forks_X4_fork : GoodIn wsL_forks (wsV RL 42 RX4 yX4_fork wsX4_fork) := goodIn_app (goodIn_of _ (by decide +kernel)) ggL_forks_X4_fork
set_option maxRecDepth 20000 in
theorem ggL_drops_X4_drop : GoodIn wsL_drops wsX4_drop := goodIn_ca (goodIn_ca (goodIn_r _ [9, 10, 11, 12, 13, 14, 15, 8, 16, 17, 18, 19, 20, 21, 22, 23, 24, 25, 26, 27, 28, 29, 30, 31] (by decide +kernel) (by decide +kernel)) (goodIn_sub (fun _ h => List.mem_cons_of_mem _ (List.mem_append_left _ (List.mem_append_right _ h))) (by decide +kernel))) (goodIn_sub (fun _ h => List.mem_cons_of_mem _ (List.mem_append_right _ h)) (by decide +kernel))
set_option maxRecDepth 20000 in
theorem gL_drops_X4_drop : GoodIn wsL_drops (wsV RL 45 RX4 yX4_drop wsX4_drop) := goodIn_app (goodIn_of _ (by decide +kernel)) ggL_drops_X4_drop
set_option maxRecDepth 20000 in
theorem ggL_enters_X4_enter : GoodIn wsL_enters wsX4_enter := goodIn_ca (goodIn_r _ [7, 8, 9, 10, 11, 12, 13, 6, 14, 15, 16, 17, 18, 19, 20, 21, 22, 23, 24, 25, 26, 27, 28, 29, 30, 31, 32, 33, 34, 35, 36, 37, 38, 39, 40, 41, 42, 43, 44, 45, 46, 47, 48, 49, 50, 51, 52, 53, 54, 55, 56, 57, 58, 59, 60, 61, 62, 63, 64, 65, 66, 67, 68, 69] (by decide +kernel) (by decide +kernel)) (goodIn_sub (fun _ h => List.mem_cons_of_mem _ (List.mem_append_right _ h)) (by decide +kernel))
set_option maxRecDepth 20000 in
theorem gL_enters_X4_enter : GoodIn wsL_enters (wsV RL 48 RX4 yX4_enter wsX4_enter) := goodIn_app (goodIn_of _ (by decide +kernel)) ggL_enters_X4_enter
set_option maxRecDepth 20000 in
theorem ggL_takes_X4_setNumber : GoodIn wsL_takes wsX4_setNumber := goodIn_ca (goodIn_ca (goodIn_r _ [9, 10, 11, 12, 13, 14, 15, 8, 16, 17, 18, 19, 20, 21, 22, 23, 24, 25, 26, 27, 28, 29, 30, 31, 32, 33, 34, 35, 36, 37, 38, 39, 40, 41, 42, 43, 44, 45, 46, 47, 48, 49, 50, 51, 52, 53, 54, 55, 56, 57, 58, 59, 60, 61, 62, 63, 64, 65, 66, 67, 68, 69, 70, 71, 72, 73, 74, 75, 76, 77, 78, 79, 80, 81, 82, 83, 84, 85, 86, 87, 88, 89, 90, 91, 92, 93, 94, 95] (by decide +kernel) (by decide +kernel)) (goodIn_sub (fun _ h => List.mem_cons_of_mem _ (List.mem_append_left _ (List.mem_append_right _ h))) (by decide +kernel))) (goodIn_sub (fun _ h => List.mem_cons_of_mem _ (List.mem_append_right _ h)) (by decide +kernel))
set_option maxRecDepth 20000 in
theorem gL_takes_X4_setNumber : GoodIn wsL_takes (wsV RL 51 RX4 yX4_setNumber wsX4_setNumber) := goodIn_app (goodIn_of _ (by decide +kernel)) ggL_takes_X4_setNumber
set_option maxRecDepth 20000 in
theorem ggL_room_X4_roomOf : GoodIn wsL_room wsX4_roomOf := goodIn_ca (goodIn_r _ [7, 8, 9, 10, 11, 6, 12, 13, 14, 15, 16, 17, 18, 19, 20, 21, 22, 23, 24, 25, 26, 27, 28, 29, 30, 31, 32, 33, 34, 35] (by decide +kernel) (by decide +kernel)) (goodIn_sub (fun _ h => List.mem_cons_of_mem _ (List.mem_append_right _ h)) (by decide +kernel))
set_option maxRecDepth 20000 in
theorem gL_room_X4_roomOf : GoodIn wsL_room (wsV RL 54 RX4 yX4_roomOf wsX4_roomOf) := goodIn_app (goodIn_of _ (by decide +kernel)) ggL_room_X4_roomOf
set_option maxRecDepth 20000 in
theorem ggL_number_X4_numberOf : GoodIn wsL_number wsX4_numberOf := goodIn_ca (goodIn_r _ [7, 8, 9, 10, 11, 6, 12, 13, 14, 15, 16, 17, 18, 19, 20, 21, 22, 23, 24, 25, 26, 27] (by decide +kernel) (by decide +kernel)) (goodIn_sub (fun _ h => List.mem_cons_of_mem _ (List.mem_append_right _ h)) (by decide +kernel))
set_option maxRecDepth 20000 in
theorem gL_number_X4_numberOf : GoodIn wsL_number (wsV RL 57 RX4 yX4_numberOf wsX4_numberOf) := goodIn_app (goodIn_of _ (by decide +kernel)) ggL_number_X4_numberOf
set_option maxRecDepth 20000 in
theorem ggL_rights_X4_rightsIn : GoodIn wsL_rights wsX4_rightsIn := goodIn_ca (goodIn_r _ [7, 8, 9, 10, 6, 11, 12, 13, 14, 15, 16, 17, 18, 19, 20, 21, 22, 23, 24, 25, 26, 27, 28, 29, 30, 31, 32, 33, 34, 35, 36, 37, 38, 39, 40, 41, 42, 43, 44, 45, 46, 47, 48, 49, 50, 51, 52] (by decide +kernel) (by decide +kernel)) (goodIn_sub (fun _ h => List.mem_cons_of_mem _ (List.mem_append_right _ h)) (by decide +kernel))
set_option maxRecDepth 20000 in
theorem gL_rights_X4_rightsIn : GoodIn wsL_rights (wsV RL 60 RX4 yX4_rightsIn wsX4_rightsIn) := goodIn_app (goodIn_of _ (by decide +kernel)) ggL_rights_X4_rightsIn
set_option maxRecDepth 20000 in
theorem ggL_files_X4_makeFile : GoodIn wsL_files wsX4_makeFile := goodIn_ca (goodIn_ca (goodIn_ca (goodIn_r _ [11, 12, 13, 14, 15, 16, 17, 18, 19, 20, 21, 22, 23, 24, 25, 10, 26, 27, 28, 29, 30, 31, 32, 33, 34, 35, 36, 37, 38, 39, 40, 41, 42, 43, 44, 45, 46, 47, 48, 49, 50, 51, 52, 53, 54, 55, 56, 57, 58, 59, 60, 61, 62, 63, 64, 65, 66, 67, 68, 69, 70, 71, 72, 73, 74, 75, 76, 77, 78, 79, 80, 81, 82, 83, 84, 85] (by decide +kernel) (by decide +kernel)) (goodIn_sub (fun _ h => List.mem_cons_of_mem _ (List.mem_append_left _ (List.mem_append_left _ (List.mem_append_right _ h)))) (by decide +kernel))) (goodIn_sub (fun _ h => List.mem_cons_of_mem _ (List.mem_append_left _ (List.mem_append_right _ h))) (by decide +kernel))) (goodIn_sub (fun _ h => List.mem_cons_of_mem _ (List.mem_append_right _ h)) (by decide +kernel))
set_option maxRecDepth 20000 in
theorem gL_files_X4_makeFile : GoodIn wsL_files (wsV RL 63 RX4 yX4_makeFile wsX4_makeFile) := goodIn_app (goodIn_of _ (by decide +kernel)) ggL_files_X4_makeFile
set_option maxRecDepth 20000 in
theorem ggL_hands_X4_handOver : GoodIn wsL_hands wsX4_handOver := goodIn_ca (goodIn_ca (goodIn_r _ [9, 10, 11, 12, 13, 14, 8, 15, 16, 17, 18, 19, 20, 21, 22, 23, 24, 25, 26, 27, 28, 29, 30, 31, 32, 33, 34, 35, 36, 37, 38, 39, 40, 41, 42, 43, 44, 45, 46, 47, 48, 49, 50, 51, 52, 53, 54, 55, 56, 57, 58, 59, 60, 61, 62, 63, 64, 65, 66, 67, 68, 69, 70, 71, 72, 73, 74, 75, 76, 77, 78, 79, 80, 81, 82, 83, 84, 85, 86, 87, 88, 89, 90, 91, 92, 93, 94, 95, 96, 97, 98, 99, 100, 101] (by decide +kernel) (by decide +kernel)) (goodIn_sub (fun _ h => List.mem_cons_of_mem _ (List.mem_append_left _ (List.mem_append_right _ h))) (by decide +kernel))) (goodIn_sub (fun _ h => List.mem_cons_of_mem _ (List.mem_append_right _ h)) (by decide +kernel))
set_option maxRecDepth 20000 in
theorem gL_hands_X4_handOver : GoodIn wsL_hands (wsV RL 66 RX4 yX4_handOver wsX4_handOver) := goodIn_app (goodIn_of _ (by decide +kernel)) ggL_hands_X4_handOver
set_option maxRecDepth 20000 in
theorem ggL_opens_X4_open : GoodIn wsL_opens wsX4_open := goodIn_ca (goodIn_r _ [7, 8, 9, 10, 11, 12, 13, 6, 14, 15, 16, 17, 18, 19, 20, 21, 22, 23, 24, 25, 26, 27, 28, 29, 30, 31, 32, 33, 34, 35, 36, 37, 38, 39, 40, 41, 42, 43, 44, 45, 46, 47, 48, 49, 50, 51, 52, 53, 54, 55, 56, 57, 58, 59, 60, 61, 62, 63, 64, 65, 66, 67, 68, 69, 70, 71, 72, 73, 74, 75, 76, 77, 78, 79, 80, 81, 82, 83, 84, 85, 86, 87, 88, 89, 90, 91, 92, 93, 94, 95] (by decide +kernel) (by decide +kernel)) (goodIn_sub (fun _ h => List.mem_cons_of_mem _ (List.mem_append_right _ h)) (by decide +kernel))
set_option maxRecDepth 20000 in
theorem gL_opens_X4_open : GoodIn wsL_opens (wsV RL 69 RX4 yX4_open wsX4_open) := goodIn_app (goodIn_of _ (by decide +kernel)) ggL_opens_X4_open
set_option maxRecDepth 20000 in
theorem ggL_owner_X4_ownerSeenBy : GoodIn wsL_owner wsX4_ownerSeenBy := goodIn_ca (goodIn_r _ [7, 8, 9, 10, 11, 12, 6, 13, 14, 15, 16, 17, 18, 19, 20, 21, 22, 23, 24, 25, 26, 27, 28, 29, 30, 31, 32, 33, 34, 35, 36, 37, 38, 39, 40, 41, 42, 43, 44, 45, 46, 47, 48, 49, 50, 51, 52, 53, 54, 55, 56, 57, 58, 59, 60, 61, 62, 63] (by decide +kernel) (by decide +kernel)) (goodIn_sub (fun _ h => List.mem_cons_of_mem _ (List.mem_append_right _ h)) (by decide +kernel))
set_option maxRecDepth 20000 in
theorem gL_owner_X4_ownerSeenBy : GoodIn wsL_owner (wsV RL 73 RX4 yX4_ownerSeenBy wsX4_ownerSeenBy) := goodIn_app (goodIn_of _ (by decide +kernel)) ggL_owner_X4_ownerSeenBy
set_option maxRecDepth 20000 in
theorem ggL_refuses_X4_rooms : GoodIn wsL_refuses wsX4_rooms := goodIn_r _ [8, 9, 307, 308, 309, 310, 311, 312, 313, 314, 315] (by decide +kernel) (by decide +kernel)
set_option maxRecDepth 20000 in
theorem gL_refuses_X4_rooms : GoodIn wsL_refuses (wsV RL 78 RX4 yX4_rooms wsX4_rooms) := goodIn_app (goodIn_of _ (by decide +kernel)) ggL_refuses_X4_rooms
set_option maxRecDepth 20000 in
theorem ggL_refuses_X4_processes : GoodIn wsL_refuses wsX4_processes := goodIn_r _ [13, 14, 307, 308, 309, 310, 311, 312, 313, 314, 315] (by decide +kernel) (by decide +kernel)
set_option maxRecDepth 20000 in
theorem gL_refuses_X4_processes : GoodIn wsL_refuses (wsV RL 82 RX4 yX4_processes wsX4_processes) := goodIn_app (goodIn_of _ (by decide +kernel)) ggL_refuses_X4_processes
set_option maxRecDepth 20000 in
theorem ggL_refuses_X4_files : GoodIn wsL_refuses wsX4_files := goodIn_r _ [18, 19, 307, 308, 309, 310, 311, 312, 313, 314, 315] (by decide +kernel) (by decide +kernel)
set_option maxRecDepth 20000 in
theorem gL_refuses_X4_files : GoodIn wsL_refuses (wsV RL 85 RX4 yX4_files wsX4_files) := goodIn_app (goodIn_of _ (by decide +kernel)) ggL_refuses_X4_files
set_option maxRecDepth 20000 in
theorem ggL_refuses_X4_refusals : GoodIn wsL_refuses wsX4_refusals := goodIn_r _ [23, 24, 307, 308, 309, 310, 311, 312, 313, 314, 315] (by decide +kernel) (by decide +kernel)
set_option maxRecDepth 20000 in
theorem gL_refuses_X4_refusals : GoodIn wsL_refuses (wsV RL 88 RX4 yX4_refusals wsX4_refusals) := goodIn_app (goodIn_of _ (by decide +kernel)) ggL_refuses_X4_refusals
set_option maxRecDepth 20000 in
theorem ggL_refuses_L_makes : GoodIn wsL_refuses wsL_makes := goodIn_ca (goodIn_ca (goodIn_r _ [28, 29, 30, 1, 3, 31, 32, 33, 7, 34, 35, 36, 9, 37, 38, 39, 40, 41, 42, 43, 44, 45, 46, 47, 48, 49, 50, 51, 52, 53, 54, 55, 56, 57, 58, 59, 60, 61, 62, 63, 64, 65, 66, 67, 307, 308, 309, 310, 311, 312, 313, 314, 315, 316, 317, 318, 319, 320, 321, 322] (by decide +kernel) (by decide +kernel)) (goodIn_sub (fun _ h => List.mem_cons_of_mem _ (List.mem_append_left _ (List.mem_append_left _ (List.mem_append_right _ h)))) (by decide +kernel))) (goodIn_sub (fun _ h => List.mem_cons_of_mem _ (List.mem_append_left _ (List.mem_append_right _ h))) (by decide +kernel))
set_option maxRecDepth 20000 in
theorem gL_refuses_L_makes : GoodIn wsL_refuses (va_wsS RL 91 yL_makes wsL_makes) := goodIn_app (goodIn_of _ (by decide +kernel)) ggL_refuses_L_makes
set_option maxRecDepth 20000 in
theorem ggL_refuses_L_lines : GoodIn wsL_refuses wsL_lines := goodIn_ca (goodIn_ca (goodIn_r _ [70, 71, 30, 2, 3, 72, 73, 74, 7, 75, 76, 77, 35, 36, 78, 79, 80, 81, 82, 83, 84, 85, 86, 87, 88, 89, 90, 91, 92, 55, 56, 93, 94, 95, 96, 307, 308, 309, 310, 311, 312, 313, 314, 315, 323, 324, 325, 326] (by decide +kernel) (by decide +kernel)) (goodIn_sub (fun _ h => List.mem_cons_of_mem _ (List.mem_append_right _ h)) (by decide +kernel))) (goodIn_sub (fun _ h => List.mem_cons_of_mem _ (List.mem_append_left _ (List.mem_append_left _ (List.mem_append_right _ h)))) (by decide +kernel))
set_option maxRecDepth 20000 in
theorem gL_refuses_L_lines : GoodIn wsL_refuses (va_wsS RL 97 yL_lines wsL_lines) := goodIn_app (goodIn_of _ (by decide +kernel)) ggL_refuses_L_lines
set_option maxRecDepth 20000 in
theorem ggL_refuses_L_writes : GoodIn wsL_refuses wsL_writes := goodIn_ca (goodIn_r _ [99, 29, 1, 100, 101, 102, 7, 103, 48, 49, 104, 78, 105, 42, 106, 107, 44, 45, 46, 47, 50, 108, 109, 110, 111, 37, 112, 113, 114, 115, 24, 116, 117, 118, 119, 88, 120, 121, 122, 81, 123, 93, 95, 94, 124, 125, 126, 127, 128, 129, 130, 131, 132, 133, 134, 135, 136, 40, 137, 58, 60, 138, 139, 140, 141, 142, 143, 144, 145, 96, 146, 147, 148, 64, 149, 150, 151, 152, 153, 66, 67, 154, 155, 156, 157, 158, 159, 160, 161, 162, 85, 86, 87, 316, 317, 318, 319, 307, 308, 309, 310, 311, 312, 313, 314, 315, 320, 321, 322, 323, 324, 325, 326] (by decide +kernel) (by decide +kernel)) (goodIn_sub (fun _ h => List.mem_cons_of_mem _ (List.mem_append_left _ (List.mem_append_right _ h))) (by decide +kernel))
set_option maxRecDepth 20000 in
theorem gL_refuses_L_writes : GoodIn wsL_refuses (va_wsS RL 101 yL_writes wsL_writes) := goodIn_app (goodIn_of _ (by decide +kernel)) ggL_refuses_L_writes
set_option maxRecDepth 20000 in
theorem ggL_refuses_L_outer : GoodIn wsL_refuses wsL_outer := goodIn_ca (goodIn_r _ [165, 29, 1, 166, 167, 168, 7, 169, 104, 108, 109, 110, 111, 48, 49, 37, 170, 171, 172, 43, 316, 317, 318, 319, 307, 308, 309, 310, 311, 312, 313, 314, 315] (by decide +kernel) (by decide +kernel)) (goodIn_sub (fun _ h => List.mem_cons_of_mem _ (List.mem_append_left _ (List.mem_append_right _ h))) (by decide +kernel))
set_option maxRecDepth 20000 in
theorem gL_refuses_L_outer : GoodIn wsL_refuses (va_wsS RL 105 yL_outer wsL_outer) := goodIn_app (goodIn_of _ (by decide +kernel)) ggL_refuses_L_outer
set_option maxRecDepth 20000 in
theorem ggL_refuses_L_leads : GoodIn wsL_refuses wsL_leads := goodIn_ca (goodIn_ca (goodIn_r _ [175, 29, 71, 1, 2, 176, 177, 178, 7, 179, 108, 109, 110, 111, 48, 49, 37, 82, 83, 84, 76, 77, 131, 132, 133, 104, 134, 135, 136, 40, 137, 58, 60, 138, 139, 140, 141, 307, 308, 309, 310, 311, 312, 313, 314, 315, 316, 317, 318, 319, 323, 324, 325, 326] (by decide +kernel) (by decide +kernel)) (goodIn_sub (fun _ h => List.mem_cons_of_mem _ (List.mem_append_left _ (List.mem_append_right _ h))) (by decide +kernel))) (goodIn_sub (fun _ h => List.mem_cons_of_mem _ (List.mem_append_right _ h)) (by decide +kernel))
set_option maxRecDepth 20000 in
theorem gL_refuses_L_leads : GoodIn wsL_refuses (va_wsS RL 108 yL_leads wsL_leads) := goodIn_app (goodIn_of _ (by decide +kernel)) ggL_refuses_L_leads
set_option maxRecDepth 20000 in
theorem ggL_refuses_L_seen : GoodIn wsL_refuses wsL_seen := goodIn_ca (goodIn_ca (goodIn_r _ [182, 29, 71, 1, 2, 183, 184, 185, 7, 186, 108, 109, 110, 111, 48, 49, 37, 82, 83, 84, 76, 77, 187, 188, 189, 190, 191, 161, 162, 104, 192, 193, 194, 40, 195, 58, 60, 140, 139, 138, 141, 307, 308, 309, 310, 311, 312, 313, 314, 315, 316, 317, 318, 319, 323, 324, 325, 326] (by decide +kernel) (by decide +kernel)) (goodIn_sub (fun _ h => List.mem_cons_of_mem _ (List.mem_append_left _ (List.mem_append_right _ h))) (by decide +kernel))) (goodIn_sub (fun _ h => List.mem_cons_of_mem _ (List.mem_append_right _ h)) (by decide +kernel))
set_option maxRecDepth 20000 in
theorem gL_refuses_L_seen : GoodIn wsL_refuses (va_wsS RL 111 yL_seen wsL_seen) := goodIn_app (goodIn_of _ (by decide +kernel)) ggL_refuses_L_seen
set_option maxRecDepth 20000 in
theorem ggL_refuses_L_byLeading : GoodIn wsL_refuses wsL_byLeading := goodIn_ca (goodIn_ca (goodIn_r _ [198, 29, 71, 1, 2, 199, 200, 201, 7, 202, 108, 109, 110, 111, 48, 49, 37, 82, 83, 84, 76, 77, 131, 132, 133, 104, 134, 135, 136, 40, 137, 58, 60, 138, 139, 140, 141, 307, 308, 309, 310, 311, 312, 313, 314, 315, 316, 317, 318, 319, 323, 324, 325, 326] (by decide +kernel) (by decide +kernel)) (goodIn_sub (fun _ h => List.mem_cons_of_mem _ (List.mem_append_left _ (List.mem_append_right _ h))) (by decide +kernel))) (goodIn_sub (fun _ h => List.mem_cons_of_mem _ (List.mem_append_right _ h)) (by decide +kernel))
set_option maxRecDepth 20000 in
theorem gL_refuses_L_byLeading : GoodIn wsL_refuses (va_wsS RL 114 yL_byLeading wsL_byLeading) := goodIn_app (goodIn_of _ (by decide +kernel)) ggL_refuses_L_byLeading
set_option maxRecDepth 20000 in
theorem ggL_refuses_L_forks : GoodIn wsL_refuses wsL_forks := goodIn_ca (goodIn_ca (goodIn_r _ [205, 29, 30, 1, 3, 206, 207, 208, 7, 209, 35, 36, 14, 50, 210, 211, 64, 41, 42, 212, 44, 45, 46, 47, 48, 49, 213, 214, 215, 216, 55, 56, 66, 160, 67, 307, 308, 309, 310, 311, 312, 313, 314, 315, 320, 321, 322] (by decide +kernel) (by decide +kernel)) (goodIn_sub (fun _ h => List.mem_cons_of_mem _ (List.mem_append_left _ (List.mem_append_left _ (List.mem_append_right _ h)))) (by decide +kernel))) (goodIn_sub (fun _ h => List.mem_cons_of_mem _ (List.mem_append_left _ (List.mem_append_right _ h))) (by decide +kernel))
set_option maxRecDepth 20000 in
theorem gL_refuses_L_forks : GoodIn wsL_refuses (va_wsS RL 117 yL_forks wsL_forks) := goodIn_app (goodIn_of _ (by decide +kernel)) ggL_refuses_L_forks
set_option maxRecDepth 20000 in
theorem ggL_refuses_L_drops : GoodIn wsL_refuses wsL_drops := goodIn_ca (goodIn_ca (goodIn_r _ [219, 29, 71, 1, 2, 220, 221, 222, 7, 223, 76, 77, 212, 44, 45, 46, 47, 48, 49, 50, 320, 321, 322, 307, 308, 309, 310, 311, 312, 313, 314, 315] (by decide +kernel) (by decide +kernel)) (goodIn_sub (fun _ h => List.mem_cons_of_mem _ (List.mem_append_right _ h)) (by decide +kernel))) (goodIn_sub (fun _ h => List.mem_cons_of_mem _ (List.mem_append_left _ (List.mem_append_right _ h))) (by decide +kernel))
set_option maxRecDepth 20000 in
theorem gL_refuses_L_drops : GoodIn wsL_refuses (va_wsS RL 120 yL_drops wsL_drops) := goodIn_app (goodIn_of _ (by decide +kernel)) ggL_refuses_L_drops
set_option maxRecDepth 20000 in
theorem ggL_refuses_L_enters : GoodIn wsL_refuses wsL_enters := goodIn_ca (goodIn_r _ [226, 29, 1, 227, 228, 229, 7, 230, 104, 41, 212, 44, 45, 46, 47, 48, 49, 50, 108, 109, 110, 111, 37, 191, 161, 162, 112, 113, 114, 115, 24, 116, 146, 147, 148, 64, 149, 150, 151, 152, 153, 66, 67, 154, 155, 156, 157, 158, 159, 160, 61, 62, 63, 65, 316, 317, 318, 319, 320, 321, 322, 307, 308, 309, 310, 311, 312, 313, 314, 315] (by decide +kernel) (by decide +kernel)) (goodIn_sub (fun _ h => List.mem_cons_of_mem _ (List.mem_append_left _ (List.mem_append_right _ h))) (by decide +kernel))
set_option maxRecDepth 20000 in
theorem gL_refuses_L_enters : GoodIn wsL_refuses (va_wsS RL 123 yL_enters wsL_enters) := goodIn_app (goodIn_of _ (by decide +kernel)) ggL_refuses_L_enters
set_option maxRecDepth 20000 in
theorem ggL_refuses_L_takes : GoodIn wsL_refuses wsL_takes := goodIn_ca (goodIn_ca (goodIn_r _ [233, 29, 71, 1, 2, 234, 235, 236, 7, 237, 41, 42, 212, 44, 45, 46, 47, 48, 49, 50, 82, 83, 84, 76, 77, 131, 132, 133, 104, 134, 135, 136, 40, 137, 58, 60, 138, 139, 140, 141, 112, 113, 114, 115, 24, 116, 146, 147, 148, 64, 149, 150, 151, 152, 153, 66, 67, 154, 155, 156, 157, 158, 159, 160, 161, 162, 187, 188, 189, 190, 37, 191, 192, 193, 194, 195, 320, 321, 322, 307, 308, 309, 310, 311, 312, 313, 314, 315, 316, 317, 318, 319, 323, 324, 325, 326] (by decide +kernel) (by decide +kernel)) (goodIn_sub (fun _ h => List.mem_cons_of_mem _ (List.mem_append_left _ (List.mem_append_right _ h))) (by decide +kernel))) (goodIn_sub (fun _ h => List.mem_cons_of_mem _ (List.mem_append_right _ h)) (by decide +kernel))
set_option maxRecDepth 20000 in
theorem gL_refuses_L_takes : GoodIn wsL_refuses (va_wsS RL 126 yL_takes wsL_takes) := goodIn_app (goodIn_of _ (by decide +kernel)) ggL_refuses_L_takes
set_option maxRecDepth 20000 in
theorem ggL_refuses_L_room : GoodIn wsL_refuses wsL_room := goodIn_ca (goodIn_r _ [240, 29, 1, 241, 242, 243, 7, 244, 41, 44, 45, 46, 47, 48, 49, 50, 170, 171, 172, 43, 320, 321, 322, 307, 308, 309, 310, 311, 312, 313, 314, 315, 316, 317, 318, 319] (by decide +kernel) (by decide +kernel)) (goodIn_sub (fun _ h => List.mem_cons_of_mem _ (List.mem_append_left _ (List.mem_append_right _ h))) (by decide +kernel))
set_option maxRecDepth 20000 in
theorem gL_refuses_L_room : GoodIn wsL_refuses (va_wsS RL 129 yL_room wsL_room) := goodIn_app (goodIn_of _ (by decide +kernel)) ggL_refuses_L_room
set_option maxRecDepth 20000 in
theorem ggL_refuses_L_number : GoodIn wsL_refuses wsL_number := goodIn_ca (goodIn_r _ [247, 29, 1, 248, 249, 250, 7, 251, 42, 44, 45, 46, 47, 48, 49, 50, 320, 321, 322, 307, 308, 309, 310, 311, 312, 313, 314, 315] (by decide +kernel) (by decide +kernel)) (goodIn_sub (fun _ h => List.mem_cons_of_mem _ (List.mem_append_left _ (List.mem_append_right _ h))) (by decide +kernel))
set_option maxRecDepth 20000 in
theorem gL_refuses_L_number : GoodIn wsL_refuses (va_wsS RL 132 yL_number wsL_number) := goodIn_app (goodIn_of _ (by decide +kernel)) ggL_refuses_L_number
set_option maxRecDepth 20000 in
theorem ggL_refuses_L_rights : GoodIn wsL_refuses wsL_rights := goodIn_ca (goodIn_r _ [254, 29, 1, 255, 256, 257, 7, 258, 44, 45, 46, 47, 48, 49, 50, 108, 109, 110, 111, 37, 259, 151, 152, 64, 153, 66, 67, 154, 155, 156, 157, 158, 159, 160, 161, 162, 104, 307, 308, 309, 310, 311, 312, 313, 314, 315, 320, 321, 322, 316, 317, 318, 319] (by decide +kernel) (by decide +kernel)) (goodIn_sub (fun _ h => List.mem_cons_of_mem _ (List.mem_append_left _ (List.mem_append_right _ h))) (by decide +kernel))
set_option maxRecDepth 20000 in
theorem gL_refuses_L_rights : GoodIn wsL_refuses (va_wsS RL 135 yL_rights wsL_rights) := goodIn_app (goodIn_of _ (by decide +kernel)) ggL_refuses_L_rights
set_option maxRecDepth 20000 in
theorem ggL_refuses_L_files : GoodIn wsL_refuses wsL_files := goodIn_ca (goodIn_ca (goodIn_ca (goodIn_r _ [262, 29, 71, 30, 1, 2, 3, 263, 264, 265, 7, 266, 76, 77, 35, 36, 19, 267, 41, 42, 268, 269, 270, 44, 45, 46, 47, 48, 49, 50, 187, 188, 189, 190, 37, 191, 161, 162, 104, 192, 193, 194, 40, 195, 58, 60, 140, 139, 138, 141, 112, 113, 114, 115, 24, 116, 271, 272, 273, 274, 55, 56, 275, 276, 307, 308, 309, 310, 311, 312, 313, 314, 315, 320, 321, 322, 327, 328, 316, 317, 318, 319, 323, 324, 325, 326] (by decide +kernel) (by decide +kernel)) (goodIn_sub (fun _ h => List.mem_cons_of_mem _ (List.mem_append_right _ h)) (by decide +kernel))) (goodIn_sub (fun _ h => List.mem_cons_of_mem _ (List.mem_append_left _ (List.mem_append_left _ (List.mem_append_right _ h)))) (by decide +kernel))) (goodIn_sub (fun _ h => List.mem_cons_of_mem _ (List.mem_append_left _ (List.mem_append_right _ h))) (by decide +kernel))
set_option maxRecDepth 20000 in
theorem gL_refuses_L_files : GoodIn wsL_refuses (va_wsS RL 138 yL_files wsL_files) := goodIn_app (goodIn_of _ (by decide +kernel)) ggL_refuses_L_files
set_option maxRecDepth 20000 in
theorem ggL_refuses_L_hands : GoodIn wsL_refuses wsL_hands := goodIn_ca (goodIn_ca (goodIn_r _ [279, 29, 71, 1, 2, 280, 281, 282, 7, 283, 41, 284, 44, 45, 46, 47, 48, 49, 50, 285, 286, 287, 288, 267, 82, 83, 84, 76, 77, 131, 132, 133, 104, 134, 135, 136, 40, 137, 58, 60, 138, 139, 140, 141, 187, 188, 189, 190, 37, 191, 161, 162, 192, 193, 194, 195, 112, 113, 114, 115, 24, 116, 146, 147, 148, 64, 149, 150, 151, 152, 153, 66, 67, 154, 155, 156, 157, 158, 159, 160, 320, 321, 322, 327, 328, 307, 308, 309, 310, 311, 312, 313, 314, 315, 316, 317, 318, 319, 323, 324, 325, 326] (by decide +kernel) (by decide +kernel)) (goodIn_sub (fun _ h => List.mem_cons_of_mem _ (List.mem_append_left _ (List.mem_append_right _ h))) (by decide +kernel))) (goodIn_sub (fun _ h => List.mem_cons_of_mem _ (List.mem_append_right _ h)) (by decide +kernel))
set_option maxRecDepth 20000 in
theorem gL_refuses_L_hands : GoodIn wsL_refuses (va_wsS RL 140 yL_hands wsL_hands) := goodIn_app (goodIn_of _ (by decide +kernel)) ggL_refuses_L_hands
set_option maxRecDepth 20000 in
theorem ggL_refuses_L_opens : GoodIn wsL_refuses wsL_opens := goodIn_ca (goodIn_r _ [291, 29, 1, 292, 293, 294, 7, 295, 42, 41, 284, 44, 45, 46, 47, 48, 49, 50, 285, 286, 287, 288, 267, 296, 297, 298, 270, 299, 276, 275, 146, 147, 148, 64, 149, 150, 151, 152, 153, 66, 67, 154, 155, 156, 157, 158, 159, 160, 161, 162, 104, 112, 113, 114, 115, 24, 116, 187, 188, 189, 190, 37, 191, 192, 193, 194, 40, 195, 58, 60, 140, 139, 138, 141, 320, 321, 322, 327, 328, 307, 308, 309, 310, 311, 312, 313, 314, 315, 316, 317, 318, 319, 323, 324, 325, 326] (by decide +kernel) (by decide +kernel)) (goodIn_sub (fun _ h => List.mem_cons_of_mem _ (List.mem_append_left _ (List.mem_append_right _ h))) (by decide +kernel))
set_option maxRecDepth 20000 in
theorem gL_refuses_L_opens : GoodIn wsL_refuses (va_wsS RL 143 yL_opens wsL_opens) := goodIn_app (goodIn_of _ (by decide +kernel)) ggL_refuses_L_opens
set_option maxRecDepth 20000 in
theorem ggL_refuses_L_owner : GoodIn wsL_refuses wsL_owner := goodIn_ca (goodIn_r _ [302, 29, 1, 303, 304, 305, 7, 306, 41, 284, 44, 45, 46, 47, 48, 49, 50, 285, 286, 287, 288, 267, 187, 188, 189, 190, 37, 191, 161, 162, 104, 192, 193, 194, 40, 195, 58, 60, 140, 139, 138, 141, 320, 321, 322, 327, 328, 307, 308, 309, 310, 311, 312, 313, 314, 315, 316, 317, 318, 319, 323, 324, 325, 326] (by decide +kernel) (by decide +kernel)) (goodIn_sub (fun _ h => List.mem_cons_of_mem _ (List.mem_append_left _ (List.mem_append_right _ h))) (by decide +kernel))
set_option maxRecDepth 20000 in
theorem gL_refuses_L_owner : GoodIn wsL_refuses (va_wsS RL 147 yL_owner wsL_owner) := goodIn_app (goodIn_of _ (by decide +kernel)) ggL_refuses_L_owner
set_option maxRecDepth 20000 in
theorem ggL_act_X4_processes : GoodIn wsL_act wsX4_processes := goodIn_r _ [5, 6, 243, 244, 245, 246, 247, 248, 249, 250, 251] (by decide +kernel) (by decide +kernel)
set_option maxRecDepth 20000 in
theorem gL_act_X4_processes : GoodIn wsL_act (wsV RL 82 RX4 yX4_processes wsX4_processes) := goodIn_app (goodIn_of _ (by decide +kernel)) ggL_act_X4_processes
set_option maxRecDepth 20000 in
theorem ggL_act_X4_files : GoodIn wsL_act wsX4_files := goodIn_r _ [10, 11, 243, 244, 245, 246, 247, 248, 249, 250, 251] (by decide +kernel) (by decide +kernel)
set_option maxRecDepth 20000 in
theorem gL_act_X4_files : GoodIn wsL_act (wsV RL 85 RX4 yX4_files wsX4_files) := goodIn_app (goodIn_of _ (by decide +kernel)) ggL_act_X4_files
set_option maxRecDepth 20000 in
theorem ggL_act_L_makes : GoodIn wsL_act wsL_makes := goodIn_ca (goodIn_ca (goodIn_r _ [15, 16, 17, 18, 19, 20, 21, 22, 4, 23, 24, 25, 26, 27, 28, 29, 30, 31, 32, 33, 34, 35, 36, 37, 38, 39, 40, 41, 42, 43, 44, 45, 46, 47, 48, 49, 50, 51, 52, 53, 54, 55, 56, 57, 243, 244, 245, 246, 247, 248, 249, 250, 251, 252, 253, 254, 255, 256, 257, 258] (by decide +kernel) (by decide +kernel)) (goodIn_sub (fun _ h => List.mem_cons_of_mem _ (List.mem_append_left _ (List.mem_append_left _ (List.mem_append_right _ h)))) (by decide +kernel))) (goodIn_sub (fun _ h => List.mem_cons_of_mem _ (List.mem_append_left _ (List.mem_append_right _ h))) (by decide +kernel))
set_option maxRecDepth 20000 in
theorem gL_act_L_makes : GoodIn wsL_act (va_wsS RL 91 yL_makes wsL_makes) := goodIn_app (goodIn_of _ (by decide +kernel)) ggL_act_L_makes
set_option maxRecDepth 20000 in
theorem ggL_act_L_lines : GoodIn wsL_act wsL_lines := goodIn_ca (goodIn_ca (goodIn_r _ [60, 61, 17, 62, 19, 63, 64, 65, 4, 66, 67, 68, 24, 25, 69, 70, 71, 72, 73, 74, 75, 76, 77, 78, 79, 80, 81, 82, 83, 45, 46, 84, 85, 86, 87, 243, 244, 245, 246, 247, 248, 249, 250, 251, 259, 260, 261, 262] (by decide +kernel) (by decide +kernel)) (goodIn_sub (fun _ h => List.mem_cons_of_mem _ (List.mem_append_right _ h)) (by decide +kernel))) (goodIn_sub (fun _ h => List.mem_cons_of_mem _ (List.mem_append_left _ (List.mem_append_left _ (List.mem_append_right _ h)))) (by decide +kernel))
set_option maxRecDepth 20000 in
theorem gL_act_L_lines : GoodIn wsL_act (va_wsS RL 97 yL_lines wsL_lines) := goodIn_app (goodIn_of _ (by decide +kernel)) ggL_act_L_lines
set_option maxRecDepth 20000 in
theorem ggL_act_X4_rooms : GoodIn wsL_act wsX4_rooms := goodIn_r _ [91, 26, 243, 244, 245, 246, 247, 248, 249, 250, 251] (by decide +kernel) (by decide +kernel)
set_option maxRecDepth 20000 in
theorem gL_act_X4_rooms : GoodIn wsL_act (wsV RL 78 RX4 yX4_rooms wsX4_rooms) := goodIn_app (goodIn_of _ (by decide +kernel)) ggL_act_X4_rooms
set_option maxRecDepth 20000 in
theorem ggL_act_L_writes : GoodIn wsL_act wsL_writes := goodIn_ca (goodIn_r _ [94, 16, 18, 95, 96, 97, 4, 98, 38, 39, 99, 69, 100, 32, 101, 102, 34, 35, 36, 37, 40, 103, 104, 105, 106, 27, 107, 108, 109, 110, 111, 112, 113, 114, 115, 79, 116, 117, 118, 72, 119, 84, 86, 85, 120, 121, 122, 123, 124, 125, 126, 127, 128, 129, 130, 131, 132, 30, 133, 48, 50, 134, 135, 136, 137, 138, 139, 140, 141, 87, 142, 143, 144, 54, 145, 146, 147, 148, 149, 56, 57, 150, 151, 152, 153, 154, 155, 156, 157, 158, 76, 77, 78, 252, 253, 254, 255, 243, 244, 245, 246, 247, 248, 249, 250, 251, 256, 257, 258, 259, 260, 261, 262] (by decide +kernel) (by decide +kernel)) (goodIn_sub (fun _ h => List.mem_cons_of_mem _ (List.mem_append_left _ (List.mem_append_right _ h))) (by decide +kernel))
set_option maxRecDepth 20000 in
theorem gL_act_L_writes : GoodIn wsL_act (va_wsS RL 101 yL_writes wsL_writes) := goodIn_app (goodIn_of _ (by decide +kernel)) ggL_act_L_writes
set_option maxRecDepth 20000 in
theorem ggL_act_L_forks : GoodIn wsL_act wsL_forks := goodIn_ca (goodIn_ca (goodIn_r _ [161, 16, 17, 18, 19, 162, 163, 164, 4, 165, 24, 25, 6, 40, 166, 167, 54, 31, 32, 168, 34, 35, 36, 37, 38, 39, 169, 170, 171, 172, 45, 46, 56, 156, 57, 243, 244, 245, 246, 247, 248, 249, 250, 251, 256, 257, 258] (by decide +kernel) (by decide +kernel)) (goodIn_sub (fun _ h => List.mem_cons_of_mem _ (List.mem_append_left _ (List.mem_append_left _ (List.mem_append_right _ h)))) (by decide +kernel))) (goodIn_sub (fun _ h => List.mem_cons_of_mem _ (List.mem_append_left _ (List.mem_append_right _ h))) (by decide +kernel))
set_option maxRecDepth 20000 in
theorem gL_act_L_forks : GoodIn wsL_act (va_wsS RL 117 yL_forks wsL_forks) := goodIn_app (goodIn_of _ (by decide +kernel)) ggL_act_L_forks
set_option maxRecDepth 20000 in
theorem ggL_act_L_drops : GoodIn wsL_act wsL_drops := goodIn_ca (goodIn_ca (goodIn_r _ [175, 16, 61, 18, 62, 176, 177, 178, 4, 179, 67, 68, 168, 34, 35, 36, 37, 38, 39, 40, 256, 257, 258, 243, 244, 245, 246, 247, 248, 249, 250, 251] (by decide +kernel) (by decide +kernel)) (goodIn_sub (fun _ h => List.mem_cons_of_mem _ (List.mem_append_right _ h)) (by decide +kernel))) (goodIn_sub (fun _ h => List.mem_cons_of_mem _ (List.mem_append_left _ (List.mem_append_right _ h))) (by decide +kernel))
set_option maxRecDepth 20000 in
theorem gL_act_L_drops : GoodIn wsL_act (va_wsS RL 120 yL_drops wsL_drops) := goodIn_app (goodIn_of _ (by decide +kernel)) ggL_act_L_drops
set_option maxRecDepth 20000 in
theorem ggL_act_L_enters : GoodIn wsL_act wsL_enters := goodIn_ca (goodIn_r _ [182, 16, 18, 183, 184, 185, 4, 186, 99, 31, 168, 34, 35, 36, 37, 38, 39, 40, 103, 104, 105, 106, 27, 187, 157, 158, 107, 108, 109, 110, 111, 112, 142, 143, 144, 54, 145, 146, 147, 148, 149, 56, 57, 150, 151, 152, 153, 154, 155, 156, 51, 52, 53, 55, 252, 253, 254, 255, 256, 257, 258, 243, 244, 245, 246, 247, 248, 249, 250, 251] (by decide +kernel) (by decide +kernel)) (goodIn_sub (fun _ h => List.mem_cons_of_mem _ (List.mem_append_left _ (List.mem_append_right _ h))) (by decide +kernel))
set_option maxRecDepth 20000 in
theorem gL_act_L_enters : GoodIn wsL_act (va_wsS RL 123 yL_enters wsL_enters) := goodIn_app (goodIn_of _ (by decide +kernel)) ggL_act_L_enters
set_option maxRecDepth 20000 in
theorem ggL_act_L_takes : GoodIn wsL_act wsL_takes := goodIn_ca (goodIn_ca (goodIn_r _ [190, 16, 61, 18, 62, 191, 192, 193, 4, 194, 31, 32, 168, 34, 35, 36, 37, 38, 39, 40, 73, 74, 75, 67, 68, 127, 128, 129, 99, 130, 131, 132, 30, 133, 48, 50, 134, 135, 136, 137, 107, 108, 109, 110, 111, 112, 142, 143, 144, 54, 145, 146, 147, 148, 149, 56, 57, 150, 151, 152, 153, 154, 155, 156, 157, 158, 195, 196, 197, 198, 27, 187, 199, 200, 201, 202, 256, 257, 258, 243, 244, 245, 246, 247, 248, 249, 250, 251, 252, 253, 254, 255, 259, 260, 261, 262] (by decide +kernel) (by decide +kernel)) (goodIn_sub (fun _ h => List.mem_cons_of_mem _ (List.mem_append_left _ (List.mem_append_right _ h))) (by decide +kernel))) (goodIn_sub (fun _ h => List.mem_cons_of_mem _ (List.mem_append_right _ h)) (by decide +kernel))
set_option maxRecDepth 20000 in
theorem gL_act_L_takes : GoodIn wsL_act (va_wsS RL 126 yL_takes wsL_takes) := goodIn_app (goodIn_of _ (by decide +kernel)) ggL_act_L_takes
set_option maxRecDepth 20000 in
theorem ggL_act_L_files : GoodIn wsL_act wsL_files := goodIn_ca (goodIn_ca (goodIn_ca (goodIn_r _ [205, 16, 61, 17, 18, 62, 19, 206, 207, 208, 4, 209, 67, 68, 24, 25, 11, 210, 31, 32, 211, 212, 213, 34, 35, 36, 37, 38, 39, 40, 195, 196, 197, 198, 27, 187, 157, 158, 99, 199, 200, 201, 30, 202, 48, 50, 136, 135, 134, 137, 107, 108, 109, 110, 111, 112, 214, 215, 216, 217, 45, 46, 218, 219, 243, 244, 245, 246, 247, 248, 249, 250, 251, 256, 257, 258, 263, 264, 252, 253, 254, 255, 259, 260, 261, 262] (by decide +kernel) (by decide +kernel)) (goodIn_sub (fun _ h => List.mem_cons_of_mem _ (List.mem_append_right _ h)) (by decide +kernel))) (goodIn_sub (fun _ h => List.mem_cons_of_mem _ (List.mem_append_left _ (List.mem_append_left _ (List.mem_append_right _ h)))) (by decide +kernel))) (goodIn_sub (fun _ h => List.mem_cons_of_mem _ (List.mem_append_left _ (List.mem_append_right _ h))) (by decide +kernel))
set_option maxRecDepth 20000 in
theorem gL_act_L_files : GoodIn wsL_act (va_wsS RL 138 yL_files wsL_files) := goodIn_app (goodIn_of _ (by decide +kernel)) ggL_act_L_files
set_option maxRecDepth 20000 in
theorem ggL_act_L_hands : GoodIn wsL_act wsL_hands := goodIn_ca (goodIn_ca (goodIn_r _ [222, 16, 61, 18, 62, 223, 224, 225, 4, 226, 31, 227, 34, 35, 36, 37, 38, 39, 40, 228, 229, 230, 231, 210, 73, 74, 75, 67, 68, 127, 128, 129, 99, 130, 131, 132, 30, 133, 48, 50, 134, 135, 136, 137, 195, 196, 197, 198, 27, 187, 157, 158, 199, 200, 201, 202, 107, 108, 109, 110, 111, 112, 142, 143, 144, 54, 145, 146, 147, 148, 149, 56, 57, 150, 151, 152, 153, 154, 155, 156, 256, 257, 258, 263, 264, 243, 244, 245, 246, 247, 248, 249, 250, 251, 252, 253, 254, 255, 259, 260, 261, 262] (by decide +kernel) (by decide +kernel)) (goodIn_sub (fun _ h => List.mem_cons_of_mem _ (List.mem_append_left _ (List.mem_append_right _ h))) (by decide +kernel))) (goodIn_sub (fun _ h => List.mem_cons_of_mem _ (List.mem_append_right _ h)) (by decide +kernel))
set_option maxRecDepth 20000 in
theorem gL_act_L_hands : GoodIn wsL_act (va_wsS RL 140 yL_hands wsL_hands) := goodIn_app (goodIn_of _ (by decide +kernel)) ggL_act_L_hands
set_option maxRecDepth 20000 in
theorem ggL_act_L_opens : GoodIn wsL_act wsL_opens := goodIn_ca (goodIn_r _ [234, 16, 18, 235, 236, 237, 4, 238, 32, 31, 227, 34, 35, 36, 37, 38, 39, 40, 228, 229, 230, 231, 210, 239, 240, 241, 213, 242, 219, 218, 142, 143, 144, 54, 145, 146, 147, 148, 149, 56, 57, 150, 151, 152, 153, 154, 155, 156, 157, 158, 99, 107, 108, 109, 110, 111, 112, 195, 196, 197, 198, 27, 187, 199, 200, 201, 30, 202, 48, 50, 136, 135, 134, 137, 256, 257, 258, 263, 264, 243, 244, 245, 246, 247, 248, 249, 250, 251, 252, 253, 254, 255, 259, 260, 261, 262] (by decide +kernel) (by decide +kernel)) (goodIn_sub (fun _ h => List.mem_cons_of_mem _ (List.mem_append_left _ (List.mem_append_right _ h))) (by decide +kernel))
set_option maxRecDepth 20000 in
theorem gL_act_L_opens : GoodIn wsL_act (va_wsS RL 143 yL_opens wsL_opens) := goodIn_app (goodIn_of _ (by decide +kernel)) ggL_act_L_opens
set_option maxRecDepth 20000 in
theorem ggL_alike_X4_rooms : GoodIn wsL_alike wsX4_rooms := goodIn_r _ [5, 6, 150, 151, 152, 153, 154, 155, 156, 157, 158] (by decide +kernel) (by decide +kernel)
set_option maxRecDepth 20000 in
theorem gL_alike_X4_rooms : GoodIn wsL_alike (wsV RL 78 RX4 yX4_rooms wsX4_rooms) := goodIn_app (goodIn_of _ (by decide +kernel)) ggL_alike_X4_rooms
set_option maxRecDepth 20000 in
theorem ggL_alike_X4_processes : GoodIn wsL_alike wsX4_processes := goodIn_r _ [10, 11, 150, 151, 152, 153, 154, 155, 156, 157, 158] (by decide +kernel) (by decide +kernel)
set_option maxRecDepth 20000 in
theorem gL_alike_X4_processes : GoodIn wsL_alike (wsV RL 82 RX4 yX4_processes wsX4_processes) := goodIn_app (goodIn_of _ (by decide +kernel)) ggL_alike_X4_processes
set_option maxRecDepth 20000 in
theorem ggL_alike_X4_files : GoodIn wsL_alike wsX4_files := goodIn_r _ [15, 16, 150, 151, 152, 153, 154, 155, 156, 157, 158] (by decide +kernel) (by decide +kernel)
set_option maxRecDepth 20000 in
theorem gL_alike_X4_files : GoodIn wsL_alike (wsV RL 85 RX4 yX4_files wsX4_files) := goodIn_app (goodIn_of _ (by decide +kernel)) ggL_alike_X4_files
set_option maxRecDepth 20000 in
theorem ggL_alike_X4_refusals : GoodIn wsL_alike wsX4_refusals := goodIn_r _ [20, 21, 150, 151, 152, 153, 154, 155, 156, 157, 158] (by decide +kernel) (by decide +kernel)
set_option maxRecDepth 20000 in
theorem gL_alike_X4_refusals : GoodIn wsL_alike (wsV RL 88 RX4 yX4_refusals wsX4_refusals) := goodIn_app (goodIn_of _ (by decide +kernel)) ggL_alike_X4_refusals
set_option maxRecDepth 20000 in
theorem ggL_alike_X4_lastRefusal : GoodIn wsL_alike wsX4_lastRefusal := goodIn_r _ [25, 26, 150, 151, 152, 153, 154, 155, 156, 157, 158] (by decide +kernel) (by decide +kernel)
set_option maxRecDepth 20000 in
theorem gL_alike_X4_lastRefusal : GoodIn wsL_alike (wsV RL 150 RX4 yX4_lastRefusal wsX4_lastRefusal) := goodIn_app (goodIn_of _ (by decide +kernel)) ggL_alike_X4_lastRefusal
set_option maxRecDepth 20000 in
theorem ggL_alike_L_outer : GoodIn wsL_alike wsL_outer := goodIn_ca (goodIn_r _ [30, 31, 32, 33, 34, 35, 4, 36, 37, 38, 39, 40, 41, 42, 43, 44, 45, 46, 47, 48, 159, 160, 161, 162, 150, 151, 152, 153, 154, 155, 156, 157, 158] (by decide +kernel) (by decide +kernel)) (goodIn_sub (fun _ h => List.mem_cons_of_mem _ (List.mem_append_left _ (List.mem_append_right _ h))) (by decide +kernel))
set_option maxRecDepth 20000 in
theorem gL_alike_L_outer : GoodIn wsL_alike (va_wsS RL 105 yL_outer wsL_outer) := goodIn_app (goodIn_of _ (by decide +kernel)) ggL_alike_L_outer
set_option maxRecDepth 20000 in
theorem ggL_alike_L_leads : GoodIn wsL_alike wsL_leads := goodIn_ca (goodIn_ca (goodIn_r _ [51, 31, 52, 32, 53, 54, 55, 56, 4, 57, 38, 39, 40, 41, 42, 43, 44, 58, 59, 60, 61, 62, 63, 64, 65, 37, 66, 67, 68, 69, 70, 71, 72, 73, 74, 75, 76, 150, 151, 152, 153, 154, 155, 156, 157, 158, 159, 160, 161, 162, 163, 164, 165, 166] (by decide +kernel) (by decide +kernel)) (goodIn_sub (fun _ h => List.mem_cons_of_mem _ (List.mem_append_left _ (List.mem_append_right _ h))) (by decide +kernel))) (goodIn_sub (fun _ h => List.mem_cons_of_mem _ (List.mem_append_right _ h)) (by decide +kernel))
set_option maxRecDepth 20000 in
theorem gL_alike_L_leads : GoodIn wsL_alike (va_wsS RL 108 yL_leads wsL_leads) := goodIn_app (goodIn_of _ (by decide +kernel)) ggL_alike_L_leads
set_option maxRecDepth 20000 in
theorem ggL_alike_L_seen : GoodIn wsL_alike wsL_seen := goodIn_ca (goodIn_ca (goodIn_r _ [79, 31, 52, 32, 53, 80, 81, 82, 4, 83, 38, 39, 40, 41, 42, 43, 44, 58, 59, 60, 61, 62, 84, 85, 86, 87, 88, 89, 90, 37, 91, 92, 93, 69, 94, 71, 72, 75, 74, 73, 76, 150, 151, 152, 153, 154, 155, 156, 157, 158, 159, 160, 161, 162, 163, 164, 165, 166] (by decide +kernel) (by decide +kernel)) (goodIn_sub (fun _ h => List.mem_cons_of_mem _ (List.mem_append_left _ (List.mem_append_right _ h))) (by decide +kernel))) (goodIn_sub (fun _ h => List.mem_cons_of_mem _ (List.mem_append_right _ h)) (by decide +kernel))
set_option maxRecDepth 20000 in
theorem gL_alike_L_seen : GoodIn wsL_alike (va_wsS RL 111 yL_seen wsL_seen) := goodIn_app (goodIn_of _ (by decide +kernel)) ggL_alike_L_seen
set_option maxRecDepth 20000 in
theorem ggL_alike_L_room : GoodIn wsL_alike wsL_room := goodIn_ca (goodIn_r _ [97, 31, 32, 98, 99, 100, 4, 101, 102, 103, 104, 105, 106, 42, 43, 107, 45, 46, 47, 48, 167, 168, 169, 150, 151, 152, 153, 154, 155, 156, 157, 158, 159, 160, 161, 162] (by decide +kernel) (by decide +kernel)) (goodIn_sub (fun _ h => List.mem_cons_of_mem _ (List.mem_append_left _ (List.mem_append_right _ h))) (by decide +kernel))
set_option maxRecDepth 20000 in
theorem gL_alike_L_room : GoodIn wsL_alike (va_wsS RL 129 yL_room wsL_room) := goodIn_app (goodIn_of _ (by decide +kernel)) ggL_alike_L_room
set_option maxRecDepth 20000 in
theorem ggL_alike_L_number : GoodIn wsL_alike wsL_number := goodIn_ca (goodIn_r _ [110, 31, 32, 111, 112, 113, 4, 114, 115, 103, 104, 105, 106, 42, 43, 107, 167, 168, 169, 150, 151, 152, 153, 154, 155, 156, 157, 158] (by decide +kernel) (by decide +kernel)) (goodIn_sub (fun _ h => List.mem_cons_of_mem _ (List.mem_append_left _ (List.mem_append_right _ h))) (by decide +kernel))
set_option maxRecDepth 20000 in
theorem gL_alike_L_number : GoodIn wsL_alike (va_wsS RL 132 yL_number wsL_number) := goodIn_app (goodIn_of _ (by decide +kernel)) ggL_alike_L_number
set_option maxRecDepth 20000 in
theorem ggL_alike_L_rights : GoodIn wsL_alike wsL_rights := goodIn_ca (goodIn_r _ [118, 31, 32, 119, 120, 121, 4, 122, 103, 104, 105, 106, 42, 43, 107, 38, 39, 40, 41, 44, 123, 124, 125, 126, 127, 128, 129, 130, 131, 132, 133, 134, 135, 136, 89, 90, 37, 150, 151, 152, 153, 154, 155, 156, 157, 158, 167, 168, 169, 159, 160, 161, 162] (by decide +kernel) (by decide +kernel)) (goodIn_sub (fun _ h => List.mem_cons_of_mem _ (List.mem_append_left _ (List.mem_append_right _ h))) (by decide +kernel))
set_option maxRecDepth 20000 in
theorem gL_alike_L_rights : GoodIn wsL_alike (va_wsS RL 135 yL_rights wsL_rights) := goodIn_app (goodIn_of _ (by decide +kernel)) ggL_alike_L_rights
set_option maxRecDepth 20000 in
theorem ggL_alike_L_owner : GoodIn wsL_alike wsL_owner := goodIn_ca (goodIn_r _ [139, 31, 32, 140, 141, 142, 4, 143, 102, 144, 103, 104, 105, 106, 42, 43, 107, 145, 146, 147, 148, 149, 84, 85, 86, 87, 44, 88, 89, 90, 37, 91, 92, 93, 69, 94, 71, 72, 75, 74, 73, 76, 167, 168, 169, 170, 171, 150, 151, 152, 153, 154, 155, 156, 157, 158, 159, 160, 161, 162, 163, 164, 165, 166] (by decide +kernel) (by decide +kernel)) (goodIn_sub (fun _ h => List.mem_cons_of_mem _ (List.mem_append_left _ (List.mem_append_right _ h))) (by decide +kernel))
set_option maxRecDepth 20000 in
theorem gL_alike_L_owner : GoodIn wsL_alike (va_wsS RL 147 yL_owner wsL_owner) := goodIn_app (goodIn_of _ (by decide +kernel)) ggL_alike_L_owner
set_option maxRecDepth 20000 in
theorem ggL_holds_X4_rooms : GoodIn wsL_holds wsX4_rooms := goodIn_r _ [5, 6, 129, 130, 131, 132, 133, 134, 135, 136, 137] (by decide +kernel) (by decide +kernel)
set_option maxRecDepth 20000 in
theorem gL_holds_X4_rooms : GoodIn wsL_holds (wsV RL 78 RX4 yX4_rooms wsX4_rooms) := goodIn_app (goodIn_of _ (by decide +kernel)) ggL_holds_X4_rooms
set_option maxRecDepth 20000 in
theorem ggL_holds_L_leads : GoodIn wsL_holds wsL_leads := goodIn_ca (goodIn_ca (goodIn_r _ [10, 11, 12, 13, 14, 15, 16, 17, 4, 18, 19, 20, 21, 22, 23, 24, 25, 26, 27, 28, 29, 30, 31, 32, 33, 34, 35, 36, 37, 38, 39, 40, 41, 42, 43, 44, 45, 129, 130, 131, 132, 133, 134, 135, 136, 137, 138, 139, 140, 141, 142, 143, 144, 145] (by decide +kernel) (by decide +kernel)) (goodIn_sub (fun _ h => List.mem_cons_of_mem _ (List.mem_append_left _ (List.mem_append_right _ h))) (by decide +kernel))) (goodIn_sub (fun _ h => List.mem_cons_of_mem _ (List.mem_append_right _ h)) (by decide +kernel))
set_option maxRecDepth 20000 in
theorem gL_holds_L_leads : GoodIn wsL_holds (va_wsS RL 108 yL_leads wsL_leads) := goodIn_app (goodIn_of _ (by decide +kernel)) ggL_holds_L_leads
set_option maxRecDepth 20000 in
theorem ggL_holds_L_seen : GoodIn wsL_holds wsL_seen := goodIn_ca (goodIn_ca (goodIn_r _ [48, 11, 12, 13, 14, 49, 50, 51, 4, 52, 19, 20, 21, 22, 23, 24, 25, 26, 27, 28, 29, 30, 53, 54, 55, 56, 57, 58, 59, 34, 60, 61, 62, 38, 63, 40, 41, 44, 43, 42, 45, 129, 130, 131, 132, 133, 134, 135, 136, 137, 138, 139, 140, 141, 142, 143, 144, 145] (by decide +kernel) (by decide +kernel)) (goodIn_sub (fun _ h => List.mem_cons_of_mem _ (List.mem_append_left _ (List.mem_append_right _ h))) (by decide +kernel))) (goodIn_sub (fun _ h => List.mem_cons_of_mem _ (List.mem_append_right _ h)) (by decide +kernel))
set_option maxRecDepth 20000 in
theorem gL_holds_L_seen : GoodIn wsL_holds (va_wsS RL 111 yL_seen wsL_seen) := goodIn_app (goodIn_of _ (by decide +kernel)) ggL_holds_L_seen
set_option maxRecDepth 20000 in
theorem ggL_holds_L_outer : GoodIn wsL_holds wsL_outer := goodIn_ca (goodIn_r _ [66, 11, 13, 67, 68, 69, 4, 70, 34, 19, 20, 21, 22, 23, 24, 25, 71, 72, 73, 74, 138, 139, 140, 141, 129, 130, 131, 132, 133, 134, 135, 136, 137] (by decide +kernel) (by decide +kernel)) (goodIn_sub (fun _ h => List.mem_cons_of_mem _ (List.mem_append_left _ (List.mem_append_right _ h))) (by decide +kernel))
set_option maxRecDepth 20000 in
theorem gL_holds_L_outer : GoodIn wsL_holds (va_wsS RL 105 yL_outer wsL_outer) := goodIn_app (goodIn_of _ (by decide +kernel)) ggL_holds_L_outer
set_option maxRecDepth 20000 in
theorem ggL_holds_L_byLeading : GoodIn wsL_holds wsL_byLeading := goodIn_ca (goodIn_ca (goodIn_r _ [77, 11, 12, 13, 14, 78, 79, 80, 4, 81, 19, 20, 21, 22, 23, 24, 25, 26, 27, 28, 29, 30, 31, 32, 33, 34, 35, 36, 37, 38, 39, 40, 41, 42, 43, 44, 45, 129, 130, 131, 132, 133, 134, 135, 136, 137, 138, 139, 140, 141, 142, 143, 144, 145] (by decide +kernel) (by decide +kernel)) (goodIn_sub (fun _ h => List.mem_cons_of_mem _ (List.mem_append_left _ (List.mem_append_right _ h))) (by decide +kernel))) (goodIn_sub (fun _ h => List.mem_cons_of_mem _ (List.mem_append_right _ h)) (by decide +kernel))
set_option maxRecDepth 20000 in
theorem gL_holds_L_byLeading : GoodIn wsL_holds (va_wsS RL 114 yL_byLeading wsL_byLeading) := goodIn_app (goodIn_of _ (by decide +kernel)) ggL_holds_L_byLeading
set_option maxRecDepth 20000 in
theorem ggL_holds_X4_processes : GoodIn wsL_holds wsX4_processes := goodIn_r _ [85, 86, 129, 130, 131, 132, 133, 134, 135, 136, 137] (by decide +kernel) (by decide +kernel)
set_option maxRecDepth 20000 in
theorem gL_holds_X4_processes : GoodIn wsL_holds (wsV RL 82 RX4 yX4_processes wsX4_processes) := goodIn_app (goodIn_of _ (by decide +kernel)) ggL_holds_X4_processes
set_option maxRecDepth 20000 in
theorem ggL_holds_L_room : GoodIn wsL_holds wsL_room := goodIn_ca (goodIn_r _ [89, 11, 13, 90, 91, 92, 4, 93, 94, 95, 96, 97, 98, 23, 24, 99, 71, 72, 73, 74, 146, 147, 148, 129, 130, 131, 132, 133, 134, 135, 136, 137, 138, 139, 140, 141] (by decide +kernel) (by decide +kernel)) (goodIn_sub (fun _ h => List.mem_cons_of_mem _ (List.mem_append_left _ (List.mem_append_right _ h))) (by decide +kernel))
set_option maxRecDepth 20000 in
theorem gL_holds_L_room : GoodIn wsL_holds (va_wsS RL 129 yL_room wsL_room) := goodIn_app (goodIn_of _ (by decide +kernel)) ggL_holds_L_room
set_option maxRecDepth 20000 in
theorem ggL_holds_L_rights : GoodIn wsL_holds wsL_rights := goodIn_ca (goodIn_r _ [102, 11, 13, 103, 104, 105, 4, 106, 95, 96, 97, 98, 23, 24, 99, 19, 20, 21, 22, 25, 107, 108, 109, 110, 111, 112, 113, 114, 115, 116, 117, 118, 119, 120, 58, 59, 34, 129, 130, 131, 132, 133, 134, 135, 136, 137, 146, 147, 148, 138, 139, 140, 141] (by decide +kernel) (by decide +kernel)) (goodIn_sub (fun _ h => List.mem_cons_of_mem _ (List.mem_append_left _ (List.mem_append_right _ h))) (by decide +kernel))
set_option maxRecDepth 20000 in
theorem gL_holds_L_rights : GoodIn wsL_holds (va_wsS RL 135 yL_rights wsL_rights) := goodIn_app (goodIn_of _ (by decide +kernel)) ggL_holds_L_rights
set_option maxRecDepth 20000 in
theorem ggL_holds_L_number : GoodIn wsL_holds wsL_number := goodIn_ca (goodIn_r _ [123, 11, 13, 124, 125, 126, 4, 127, 128, 95, 96, 97, 98, 23, 24, 99, 146, 147, 148, 129, 130, 131, 132, 133, 134, 135, 136, 137] (by decide +kernel) (by decide +kernel)) (goodIn_sub (fun _ h => List.mem_cons_of_mem _ (List.mem_append_left _ (List.mem_append_right _ h))) (by decide +kernel))
set_option maxRecDepth 20000 in
theorem gL_holds_L_number : GoodIn wsL_holds (va_wsS RL 132 yL_number wsL_number) := goodIn_app (goodIn_of _ (by decide +kernel)) ggL_holds_L_number
set_option maxRecDepth 20000 in
theorem ggL_ends_X4_processes : GoodIn wsL_ends wsX4_processes := goodIn_r _ [5, 6, 293, 294, 295, 296, 297, 298, 299, 300, 301] (by decide +kernel) (by decide +kernel)
set_option maxRecDepth 20000 in
theorem gL_ends_X4_processes : GoodIn wsL_ends (wsV RL 82 RX4 yX4_processes wsX4_processes) := goodIn_app (goodIn_of _ (by decide +kernel)) ggL_ends_X4_processes
set_option maxRecDepth 20000 in
theorem ggL_ends_L_room : GoodIn wsL_ends wsL_room := goodIn_ca (goodIn_r _ [10, 11, 12, 13, 14, 15, 4, 16, 17, 18, 19, 20, 21, 22, 23, 24, 25, 26, 27, 28, 302, 303, 304, 293, 294, 295, 296, 297, 298, 299, 300, 301, 305, 306, 307, 308] (by decide +kernel) (by decide +kernel)) (goodIn_sub (fun _ h => List.mem_cons_of_mem _ (List.mem_append_left _ (List.mem_append_left _ (List.mem_append_right _ h)))) (by decide +kernel))
set_option maxRecDepth 20000 in
theorem gL_ends_L_room : GoodIn wsL_ends (va_wsS RL 129 yL_room wsL_room) := goodIn_app (goodIn_of _ (by decide +kernel)) ggL_ends_L_room
set_option maxRecDepth 20000 in
theorem ggL_ends_L_rights : GoodIn wsL_ends wsL_rights := goodIn_ca (goodIn_r _ [31, 11, 12, 32, 33, 34, 4, 35, 18, 19, 20, 21, 22, 23, 24, 36, 37, 38, 39, 40, 41, 42, 43, 44, 45, 46, 47, 48, 49, 50, 51, 52, 53, 54, 55, 56, 57, 293, 294, 295, 296, 297, 298, 299, 300, 301, 302, 303, 304, 305, 306, 307, 308] (by decide +kernel) (by decide +kernel)) (goodIn_sub (fun _ h => List.mem_cons_of_mem _ (List.mem_append_left _ (List.mem_append_left _ (List.mem_append_right _ h)))) (by decide +kernel))
set_option maxRecDepth 20000 in
theorem gL_ends_L_rights : GoodIn wsL_ends (va_wsS RL 135 yL_rights wsL_rights) := goodIn_app (goodIn_of _ (by decide +kernel)) ggL_ends_L_rights
set_option maxRecDepth 20000 in
theorem ggL_ends_L_number : GoodIn wsL_ends wsL_number := goodIn_ca (goodIn_r _ [60, 11, 12, 61, 62, 63, 4, 64, 65, 18, 19, 20, 21, 22, 23, 24, 302, 303, 304, 293, 294, 295, 296, 297, 298, 299, 300, 301] (by decide +kernel) (by decide +kernel)) (goodIn_sub (fun _ h => List.mem_cons_of_mem _ (List.mem_append_left _ (List.mem_append_left _ (List.mem_append_right _ h)))) (by decide +kernel))
set_option maxRecDepth 20000 in
theorem gL_ends_L_number : GoodIn wsL_ends (va_wsS RL 132 yL_number wsL_number) := goodIn_app (goodIn_of _ (by decide +kernel)) ggL_ends_L_number
set_option maxRecDepth 20000 in
theorem ggL_ends_L_forks : GoodIn wsL_ends wsL_forks := goodIn_ca (goodIn_ca (goodIn_r _ [68, 11, 69, 12, 70, 71, 72, 73, 4, 74, 75, 76, 6, 24, 77, 78, 44, 17, 65, 79, 18, 19, 20, 21, 22, 23, 80, 81, 82, 83, 84, 85, 46, 54, 47, 293, 294, 295, 296, 297, 298, 299, 300, 301, 302, 303, 304] (by decide +kernel) (by decide +kernel)) (goodIn_sub (fun _ h => List.mem_cons_of_mem _ (List.mem_append_left _ (List.mem_append_right _ h))) (by decide +kernel))) (goodIn_sub (fun _ h => List.mem_cons_of_mem _ (List.mem_append_left _ (List.mem_append_left _ (List.mem_append_right _ h)))) (by decide +kernel))
set_option maxRecDepth 20000 in
theorem gL_ends_L_forks : GoodIn wsL_ends (va_wsS RL 117 yL_forks wsL_forks) := goodIn_app (goodIn_of _ (by decide +kernel)) ggL_ends_L_forks
set_option maxRecDepth 20000 in
theorem ggL_ends_L_drops : GoodIn wsL_ends wsL_drops := goodIn_ca (goodIn_ca (goodIn_r _ [88, 11, 89, 12, 90, 91, 92, 93, 4, 94, 95, 96, 79, 18, 19, 20, 21, 22, 23, 24, 302, 303, 304, 293, 294, 295, 296, 297, 298, 299, 300, 301] (by decide +kernel) (by decide +kernel)) (goodIn_sub (fun _ h => List.mem_cons_of_mem _ (List.mem_append_right _ h)) (by decide +kernel))) (goodIn_sub (fun _ h => List.mem_cons_of_mem _ (List.mem_append_left _ (List.mem_append_left _ (List.mem_append_right _ h)))) (by decide +kernel))
set_option maxRecDepth 20000 in
theorem gL_ends_L_drops : GoodIn wsL_ends (va_wsS RL 120 yL_drops wsL_drops) := goodIn_app (goodIn_of _ (by decide +kernel)) ggL_ends_L_drops
set_option maxRecDepth 20000 in
theorem ggL_ends_X4_rooms : GoodIn wsL_ends wsX4_rooms := goodIn_r _ [100, 101, 293, 294, 295, 296, 297, 298, 299, 300, 301] (by decide +kernel) (by decide +kernel)
set_option maxRecDepth 20000 in
theorem gL_ends_X4_rooms : GoodIn wsL_ends (wsV RL 78 RX4 yX4_rooms wsX4_rooms) := goodIn_app (goodIn_of _ (by decide +kernel)) ggL_ends_X4_rooms
set_option maxRecDepth 20000 in
theorem ggL_ends_L_makes : GoodIn wsL_ends wsL_makes := goodIn_ca (goodIn_ca (goodIn_r _ [104, 11, 69, 12, 70, 105, 106, 107, 4, 108, 75, 76, 101, 40, 109, 110, 111, 17, 65, 28, 18, 19, 20, 21, 22, 23, 24, 112, 113, 114, 115, 84, 85, 116, 117, 118, 119, 120, 121, 122, 44, 123, 46, 47, 293, 294, 295, 296, 297, 298, 299, 300, 301, 305, 306, 307, 308, 302, 303, 304] (by decide +kernel) (by decide +kernel)) (goodIn_sub (fun _ h => List.mem_cons_of_mem _ (List.mem_append_left _ (List.mem_append_right _ h))) (by decide +kernel))) (goodIn_sub (fun _ h => List.mem_cons_of_mem _ (List.mem_append_left _ (List.mem_append_left _ (List.mem_append_right _ h)))) (by decide +kernel))
set_option maxRecDepth 20000 in
theorem gL_ends_L_makes : GoodIn wsL_ends (va_wsS RL 91 yL_makes wsL_makes) := goodIn_app (goodIn_of _ (by decide +kernel)) ggL_ends_L_makes
set_option maxRecDepth 20000 in
theorem ggL_ends_L_outer : GoodIn wsL_ends wsL_outer := goodIn_ca (goodIn_r _ [126, 11, 12, 127, 128, 129, 4, 130, 57, 36, 37, 38, 39, 22, 23, 40, 25, 26, 27, 28, 305, 306, 307, 308, 293, 294, 295, 296, 297, 298, 299, 300, 301] (by decide +kernel) (by decide +kernel)) (goodIn_sub (fun _ h => List.mem_cons_of_mem _ (List.mem_append_left _ (List.mem_append_left _ (List.mem_append_right _ h)))) (by decide +kernel))
set_option maxRecDepth 20000 in
theorem gL_ends_L_outer : GoodIn wsL_ends (va_wsS RL 105 yL_outer wsL_outer) := goodIn_app (goodIn_of _ (by decide +kernel)) ggL_ends_L_outer
set_option maxRecDepth 20000 in
theorem ggL_ends_L_seen : GoodIn wsL_ends wsL_seen := goodIn_ca (goodIn_ca (goodIn_r _ [133, 11, 89, 12, 90, 134, 135, 136, 4, 137, 36, 37, 38, 39, 22, 23, 40, 138, 139, 140, 95, 96, 141, 142, 143, 144, 145, 55, 56, 57, 146, 147, 148, 111, 149, 117, 119, 150, 151, 152, 153, 293, 294, 295, 296, 297, 298, 299, 300, 301, 305, 306, 307, 308, 309, 310, 311, 312] (by decide +kernel) (by decide +kernel)) (goodIn_sub (fun _ h => List.mem_cons_of_mem _ (List.mem_append_left _ (List.mem_append_left _ (List.mem_append_right _ h)))) (by decide +kernel))) (goodIn_sub (fun _ h => List.mem_cons_of_mem _ (List.mem_append_right _ h)) (by decide +kernel))
set_option maxRecDepth 20000 in
theorem gL_ends_L_seen : GoodIn wsL_ends (va_wsS RL 111 yL_seen wsL_seen) := goodIn_app (goodIn_of _ (by decide +kernel)) ggL_ends_L_seen
set_option maxRecDepth 20000 in
theorem ggL_ends_L_leads : GoodIn wsL_ends wsL_leads := goodIn_ca (goodIn_ca (goodIn_r _ [156, 11, 89, 12, 90, 157, 158, 159, 4, 160, 36, 37, 38, 39, 22, 23, 40, 138, 139, 140, 95, 96, 161, 162, 163, 57, 164, 165, 166, 111, 167, 117, 119, 152, 151, 150, 153, 293, 294, 295, 296, 297, 298, 299, 300, 301, 305, 306, 307, 308, 309, 310, 311, 312] (by decide +kernel) (by decide +kernel)) (goodIn_sub (fun _ h => List.mem_cons_of_mem _ (List.mem_append_left _ (List.mem_append_left _ (List.mem_append_right _ h)))) (by decide +kernel))) (goodIn_sub (fun _ h => List.mem_cons_of_mem _ (List.mem_append_right _ h)) (by decide +kernel))
set_option maxRecDepth 20000 in
theorem gL_ends_L_leads : GoodIn wsL_ends (va_wsS RL 108 yL_leads wsL_leads) := goodIn_app (goodIn_of _ (by decide +kernel)) ggL_ends_L_leads
set_option maxRecDepth 20000 in
theorem ggL_ends_L_writes : GoodIn wsL_ends wsL_writes := goodIn_ca (goodIn_r _ [170, 11, 12, 171, 172, 173, 4, 174, 22, 23, 57, 175, 176, 65, 177, 178, 18, 19, 20, 21, 24, 36, 37, 38, 39, 40, 179, 180, 181, 182, 183, 184, 185, 186, 187, 188, 189, 190, 191, 192, 193, 194, 195, 196, 197, 198, 199, 200, 201, 202, 203, 161, 162, 163, 164, 165, 166, 111, 167, 117, 119, 152, 151, 150, 153, 204, 205, 206, 207, 208, 209, 210, 211, 44, 212, 213, 42, 43, 45, 46, 47, 48, 49, 50, 51, 52, 53, 54, 55, 56, 214, 215, 216, 305, 306, 307, 308, 293, 294, 295, 296, 297, 298, 299, 300, 301, 302, 303, 304, 309, 310, 311, 312] (by decide +kernel) (by decide +kernel)) (goodIn_sub (fun _ h => List.mem_cons_of_mem _ (List.mem_append_left _ (List.mem_append_left _ (List.mem_append_right _ h)))) (by decide +kernel))
set_option maxRecDepth 20000 in
theorem gL_ends_L_writes : GoodIn wsL_ends (va_wsS RL 101 yL_writes wsL_writes) := goodIn_app (goodIn_of _ (by decide +kernel)) ggL_ends_L_writes
set_option maxRecDepth 20000 in
theorem ggL_ends_X4_refusals : GoodIn wsL_ends wsX4_refusals := goodIn_r _ [220, 183, 293, 294, 295, 296, 297, 298, 299, 300, 301] (by decide +kernel) (by decide +kernel)
set_option maxRecDepth 20000 in
theorem gL_ends_X4_refusals : GoodIn wsL_ends (wsV RL 88 RX4 yX4_refusals wsX4_refusals) := goodIn_app (goodIn_of _ (by decide +kernel)) ggL_ends_X4_refusals
set_option maxRecDepth 20000 in
theorem ggL_ends_L_lines : GoodIn wsL_ends wsL_lines := goodIn_ca (goodIn_ca (goodIn_r _ [223, 89, 69, 90, 70, 224, 225, 226, 4, 227, 95, 96, 75, 76, 175, 228, 229, 192, 138, 139, 140, 214, 215, 216, 188, 230, 231, 232, 233, 84, 85, 194, 196, 195, 208, 293, 294, 295, 296, 297, 298, 299, 300, 301, 309, 310, 311, 312] (by decide +kernel) (by decide +kernel)) (goodIn_sub (fun _ h => List.mem_cons_of_mem _ (List.mem_append_right _ h)) (by decide +kernel))) (goodIn_sub (fun _ h => List.mem_cons_of_mem _ (List.mem_append_left _ (List.mem_append_right _ h))) (by decide +kernel))
set_option maxRecDepth 20000 in
theorem gL_ends_L_lines : GoodIn wsL_ends (va_wsS RL 97 yL_lines wsL_lines) := goodIn_app (goodIn_of _ (by decide +kernel)) ggL_ends_L_lines
set_option maxRecDepth 20000 in
theorem ggL_ends_L_takes : GoodIn wsL_ends wsL_takes := goodIn_ca (goodIn_ca (goodIn_r _ [236, 11, 89, 12, 90, 237, 238, 239, 4, 240, 17, 65, 79, 18, 19, 20, 21, 22, 23, 24, 138, 139, 140, 95, 96, 161, 162, 163, 57, 164, 165, 166, 111, 167, 117, 119, 152, 151, 150, 153, 179, 180, 181, 182, 183, 184, 209, 210, 211, 44, 212, 213, 42, 43, 45, 46, 47, 48, 49, 50, 51, 52, 53, 54, 55, 56, 141, 142, 143, 144, 40, 145, 146, 147, 148, 149, 302, 303, 304, 293, 294, 295, 296, 297, 298, 299, 300, 301, 305, 306, 307, 308, 309, 310, 311, 312] (by decide +kernel) (by decide +kernel)) (goodIn_sub (fun _ h => List.mem_cons_of_mem _ (List.mem_append_left _ (List.mem_append_left _ (List.mem_append_right _ h)))) (by decide +kernel))) (goodIn_sub (fun _ h => List.mem_cons_of_mem _ (List.mem_append_right _ h)) (by decide +kernel))
set_option maxRecDepth 20000 in
theorem gL_ends_L_takes : GoodIn wsL_ends (va_wsS RL 126 yL_takes wsL_takes) := goodIn_app (goodIn_of _ (by decide +kernel)) ggL_ends_L_takes
set_option maxRecDepth 20000 in
theorem ggL_ends_X4_files : GoodIn wsL_ends wsX4_files := goodIn_r _ [244, 245, 293, 294, 295, 296, 297, 298, 299, 300, 301] (by decide +kernel) (by decide +kernel)
set_option maxRecDepth 20000 in
theorem gL_ends_X4_files : GoodIn wsL_ends (wsV RL 85 RX4 yX4_files wsX4_files) := goodIn_app (goodIn_of _ (by decide +kernel)) ggL_ends_X4_files
set_option maxRecDepth 20000 in
theorem ggL_ends_L_files : GoodIn wsL_ends wsL_files := goodIn_ca (goodIn_ca (goodIn_ca (goodIn_r _ [248, 11, 89, 69, 12, 90, 70, 249, 250, 251, 4, 252, 95, 96, 75, 76, 245, 253, 17, 65, 254, 255, 256, 18, 19, 20, 21, 22, 23, 24, 141, 142, 143, 144, 40, 145, 55, 56, 57, 146, 147, 148, 111, 149, 117, 119, 150, 151, 152, 153, 179, 180, 181, 182, 183, 184, 257, 258, 259, 260, 84, 85, 261, 262, 293, 294, 295, 296, 297, 298, 299, 300, 301, 302, 303, 304, 313, 314, 305, 306, 307, 308, 309, 310, 311, 312] (by decide +kernel) (by decide +kernel)) (goodIn_sub (fun _ h => List.mem_cons_of_mem _ (List.mem_append_right _ h)) (by decide +kernel))) (goodIn_sub (fun _ h => List.mem_cons_of_mem _ (List.mem_append_left _ (List.mem_append_right _ h))) (by decide +kernel))) (goodIn_sub (fun _ h => List.mem_cons_of_mem _ (List.mem_append_left _ (List.mem_append_left _ (List.mem_append_right _ h)))) (by decide +kernel))
set_option maxRecDepth 20000 in
theorem gL_ends_L_files : GoodIn wsL_ends (va_wsS RL 138 yL_files wsL_files) := goodIn_app (goodIn_of _ (by decide +kernel)) ggL_ends_L_files
set_option maxRecDepth 20000 in
theorem ggL_ends_L_owner : GoodIn wsL_ends wsL_owner := goodIn_ca (goodIn_r _ [265, 11, 12, 266, 267, 268, 4, 269, 17, 270, 18, 19, 20, 21, 22, 23, 24, 271, 272, 273, 274, 253, 141, 142, 143, 144, 40, 145, 55, 56, 57, 146, 147, 148, 111, 149, 117, 119, 150, 151, 152, 153, 302, 303, 304, 313, 314, 293, 294, 295, 296, 297, 298, 299, 300, 301, 305, 306, 307, 308, 309, 310, 311, 312] (by decide +kernel) (by decide +kernel)) (goodIn_sub (fun _ h => List.mem_cons_of_mem _ (List.mem_append_left _ (List.mem_append_left _ (List.mem_append_right _ h)))) (by decide +kernel))
set_option maxRecDepth 20000 in
theorem gL_ends_L_owner : GoodIn wsL_ends (va_wsS RL 147 yL_owner wsL_owner) := goodIn_app (goodIn_of _ (by decide +kernel)) ggL_ends_L_owner
set_option maxRecDepth 20000 in
theorem ggL_ends_L_opens : GoodIn wsL_ends wsL_opens := goodIn_ca (goodIn_r _ [277, 11, 12, 278, 279, 280, 4, 281, 65, 17, 270, 18, 19, 20, 21, 22, 23, 24, 271, 272, 273, 274, 253, 282, 283, 284, 256, 285, 262, 261, 209, 210, 211, 44, 212, 213, 42, 43, 45, 46, 47, 48, 49, 50, 51, 52, 53, 54, 55, 56, 57, 179, 180, 181, 182, 183, 184, 141, 142, 143, 144, 40, 145, 146, 147, 148, 111, 149, 117, 119, 150, 151, 152, 153, 302, 303, 304, 313, 314, 293, 294, 295, 296, 297, 298, 299, 300, 301, 305, 306, 307, 308, 309, 310, 311, 312] (by decide +kernel) (by decide +kernel)) (goodIn_sub (fun _ h => List.mem_cons_of_mem _ (List.mem_append_left _ (List.mem_append_left _ (List.mem_append_right _ h)))) (by decide +kernel))
set_option maxRecDepth 20000 in
theorem gL_ends_L_opens : GoodIn wsL_ends (va_wsS RL 143 yL_opens wsL_opens) := goodIn_app (goodIn_of _ (by decide +kernel)) ggL_ends_L_opens
set_option maxRecDepth 20000 in
theorem ggL_ends_L_hands : GoodIn wsL_ends wsL_hands := goodIn_ca (goodIn_ca (goodIn_r _ [288, 11, 89, 12, 90, 289, 290, 291, 4, 292, 17, 270, 18, 19, 20, 21, 22, 23, 24, 271, 272, 273, 274, 253, 138, 139, 140, 95, 96, 161, 162, 163, 57, 164, 165, 166, 111, 167, 117, 119, 152, 151, 150, 153, 141, 142, 143, 144, 40, 145, 55, 56, 146, 147, 148, 149, 179, 180, 181, 182, 183, 184, 209, 210, 211, 44, 212, 213, 42, 43, 45, 46, 47, 48, 49, 50, 51, 52, 53, 54, 302, 303, 304, 313, 314, 293, 294, 295, 296, 297, 298, 299, 300, 301, 305, 306, 307, 308, 309, 310, 311, 312] (by decide +kernel) (by decide +kernel)) (goodIn_sub (fun _ h => List.mem_cons_of_mem _ (List.mem_append_left _ (List.mem_append_left _ (List.mem_append_right _ h)))) (by decide +kernel))) (goodIn_sub (fun _ h => List.mem_cons_of_mem _ (List.mem_append_right _ h)) (by decide +kernel))
set_option maxRecDepth 20000 in
theorem gL_ends_L_hands : GoodIn wsL_ends (va_wsS RL 140 yL_hands wsL_hands) := goodIn_app (goodIn_of _ (by decide +kernel)) ggL_ends_L_hands
