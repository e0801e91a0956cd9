set_option maxRecDepth 20000 in
theorem ggX1_rightsHeldIn_X1_ownsRoomAround : GoodIn wsX1_rightsHeldIn wsX1_ownsRoomAround := goodIn_r _ [7, 8, 1, 9, 10, 18, 19, 20, 21, 15, 16, 17] (by decide +kernel) (by decide +kernel)
set_option maxRecDepth 20000 in
theorem gX1_rightsHeldIn_X1_ownsRoomAround : GoodIn wsX1_rightsHeldIn (wsV RX1 22 RX1 yX1_ownsRoomAround wsX1_ownsRoomAround) := goodIn_app (goodIn_of _ (by decide +kernel)) ggX1_rightsHeldIn_X1_ownsRoomAround
set_option maxRecDepth 20000 in
theorem ggX1_rightsHeldIn_X4_isOrIsInside : GoodIn wsX1_rightsHeldIn wsX4_isOrIsInside := goodIn_r _ [13, 14, 18, 19, 20, 21] (by decide +kernel) (by decide +kernel)
set_option maxRecDepth 20000 in
theorem gX1_rightsHeldIn_X4_isOrIsInside_n26 : GoodIn wsX1_rightsHeldIn (wsX4_isOrIsInside) := ggX1_rightsHeldIn_X4_isOrIsInside
set_option maxRecDepth 20000 in
theorem ggX1_hasRight_X1_rightsHeldIn : GoodIn wsX1_hasRight wsX1_rightsHeldIn := goodIn_r _ [5, 6, 7, 8, 9, 10, 4, 11, 12, 13, 14, 15, 16, 17, 18, 19, 20, 21, 22, 23, 24, 25] (by decide +kernel) (by decide +kernel)
set_option maxRecDepth 20000 in
theorem gX1_hasRight_X1_rightsHeldIn : GoodIn wsX1_hasRight (wsV RX1 30 RX1 yX1_rightsHeldIn wsX1_rightsHeldIn) := goodIn_app (goodIn_of _ (by decide +kernel)) ggX1_hasRight_X1_rightsHeldIn
set_option maxRecDepth 20000 in
theorem ggX2_meets_X2_rangesMeet : GoodIn wsX2_meets wsX2_rangesMeet := goodIn_r _ [7] (by decide +kernel) (by decide +kernel)
set_option maxRecDepth 20000 in
theorem gX2_meets_X2_rangesMeet : GoodIn wsX2_meets (va_wsS RX2 23 yX2_rangesMeet wsX2_rangesMeet) := goodIn_app (goodIn_of _ (by decide +kernel)) ggX2_meets_X2_rangesMeet
set_option maxRecDepth 20000 in
theorem ggX4_init_X3_init : GoodIn wsX4_init wsX3_init := goodIn_r _ [22, 23, 2, 3, 24, 25, 26, 27, 35, 36, 37, 38] (by decide +kernel) (by decide +kernel)
set_option maxRecDepth 20000 in
theorem gX4_init_X3_init : GoodIn wsX4_init (wsX3_init) := ggX4_init_X3_init
set_option maxRecDepth 20000 in
theorem ggX4_init_X1_init : GoodIn wsX4_init wsX1_init := goodIn_r _ [30, 31, 2, 3, 32, 33, 34, 48, 49, 50] (by decide +kernel) (by decide +kernel)
set_option maxRecDepth 20000 in
theorem gX4_init_X1_init : GoodIn wsX4_init (wsX1_init) := ggX4_init_X1_init
set_option maxRecDepth 20000 in
theorem ggX4_makeRoom_X4_processAt : GoodIn wsX4_makeRoom wsX4_processAt := goodIn_ca (goodIn_r _ [15, 16, 17, 18, 36, 37, 38, 39, 40, 41, 42, 43, 44] (by decide +kernel) (by decide +kernel)) (goodIn_sub (fun _ h => List.mem_cons_of_mem _ (List.mem_append_right _ h)) (by decide +kernel))
set_option maxRecDepth 20000 in
theorem gX4_makeRoom_X4_processAt : GoodIn wsX4_makeRoom (wsV RX4 53 RX4 yX4_processAt wsX4_processAt) := goodIn_app (goodIn_of _ (by decide +kernel)) ggX4_makeRoom_X4_processAt
set_option maxRecDepth 20000 in
theorem ggX4_makeRoom_X3_init : GoodIn wsX4_makeRoom wsX3_init := goodIn_r _ [21, 22, 23, 24, 25, 26, 27, 28, 45, 46, 47, 48] (by decide +kernel) (by decide +kernel)
set_option maxRecDepth 20000 in
theorem gX4_makeRoom_X3_init : GoodIn wsX4_makeRoom (wsX3_init) := ggX4_makeRoom_X3_init
set_option maxRecDepth 20000 in
theorem ggX4_makeRoom_X1_moveInto : GoodIn wsX4_makeRoom wsX1_moveInto := goodIn_r _ [33, 34, 35, 49, 50, 51] (by decide +kernel) (by decide +kernel)
set_option maxRecDepth 20000 in
theorem gX4_makeRoom_X1_moveInto : GoodIn wsX4_makeRoom (wsV RX4 71 RX1 yX1_moveInto wsX1_moveInto) := goodIn_app (goodIn_of _ (by decide +kernel)) ggX4_makeRoom_X1_moveInto
set_option maxRecDepth 20000 in
theorem ggX4_line_X4_requireNumber : GoodIn wsX4_line wsX4_requireNumber := goodIn_ca (goodIn_r _ [12, 1, 2] (by decide +kernel) (by decide +kernel)) (goodIn_sub (fun _ h => List.mem_cons_of_mem _ (List.mem_append_left _ (List.mem_append_right _ h))) (by decide +kernel))
set_option maxRecDepth 20000 in
theorem gX4_line_X4_requireNumber : GoodIn wsX4_line (va_wsS RX4 76 yX4_requireNumber wsX4_requireNumber) := goodIn_app (goodIn_of _ (by decide +kernel)) ggX4_line_X4_requireNumber
set_option maxRecDepth 20000 in
theorem ggX4_line_X4_countOf : GoodIn wsX4_line wsX4_countOf := goodIn_r _ [15, 16, 36, 37, 38, 39] (by decide +kernel) (by decide +kernel)
set_option maxRecDepth 20000 in
theorem gX4_line_X4_countOf : GoodIn wsX4_line (va_wsS RX4 85 yX4_countOf wsX4_countOf) := goodIn_app (goodIn_of _ (by decide +kernel)) ggX4_line_X4_countOf
set_option maxRecDepth 20000 in
theorem ggX4_line_X2_init : GoodIn wsX4_line wsX2_init := goodIn_r _ [19, 20, 21, 22, 23, 24, 25, 26, 36, 37, 38, 39] (by decide +kernel) (by decide +kernel)
set_option maxRecDepth 20000 in
theorem gX4_line_X2_init : GoodIn wsX4_line (wsX2_init) := ggX4_line_X2_init
set_option maxRecDepth 20000 in
theorem ggX4_writeMap_X4_processAt : GoodIn wsX4_writeMap wsX4_processAt := goodIn_ca (goodIn_r _ [13, 1, 2, 14, 91, 92, 93, 94, 95, 96, 97, 98, 99] (by decide +kernel) (by decide +kernel)) (goodIn_sub (fun _ h => List.mem_cons_of_mem _ (List.mem_append_right _ h)) (by decide +kernel))
set_option maxRecDepth 20000 in
theorem gX4_writeMap_X4_processAt : GoodIn wsX4_writeMap (wsV RX4 53 RX4 yX4_processAt wsX4_processAt) := goodIn_app (goodIn_of _ (by decide +kernel)) ggX4_writeMap_X4_processAt
set_option maxRecDepth 20000 in
theorem ggX4_writeMap_X4_roomAt : GoodIn wsX4_writeMap wsX4_roomAt := goodIn_ca (goodIn_r _ [18, 1, 2, 19, 91, 92, 93, 94, 95, 96, 97, 98, 99] (by decide +kernel) (by decide +kernel)) (goodIn_sub (fun _ h => List.mem_cons_of_mem _ (List.mem_append_right _ h)) (by decide +kernel))
set_option maxRecDepth 20000 in
theorem gX4_writeMap_X4_roomAt : GoodIn wsX4_writeMap (wsV RX4 96 RX4 yX4_roomAt wsX4_roomAt) := goodIn_app (goodIn_of _ (by decide +kernel)) ggX4_writeMap_X4_roomAt
set_option maxRecDepth 20000 in
theorem ggX4_writeMap_X4_refuse : GoodIn wsX4_writeMap wsX4_refuse := goodIn_r _ [23, 24, 25, 91, 92, 93, 94, 95, 96, 97, 98, 99] (by decide +kernel) (by decide +kernel)
set_option maxRecDepth 20000 in
theorem gX4_writeMap_X4_refuse : GoodIn wsX4_writeMap (wsV RX4 111 RX4 yX4_refuse wsX4_refuse) := goodIn_app (goodIn_of _ (by decide +kernel)) ggX4_writeMap_X4_refuse
set_option maxRecDepth 20000 in
theorem ggX4_writeMap_X4_anyMeet : GoodIn wsX4_writeMap wsX4_anyMeet := goodIn_r _ [28, 29, 30, 31, 32, 33, 34, 35, 36, 37, 38, 39, 40, 103, 104, 105, 106] (by decide +kernel) (by decide +kernel)
set_option maxRecDepth 20000 in
theorem gX4_writeMap_X4_anyMeet : GoodIn wsX4_writeMap (va_wsS RX4 115 yX4_anyMeet wsX4_anyMeet) := goodIn_app (goodIn_of _ (by decide +kernel)) ggX4_writeMap_X4_anyMeet
set_option maxRecDepth 20000 in
theorem ggX4_writeMap_X4_allLeadOut : GoodIn wsX4_writeMap wsX4_allLeadOut := goodIn_r _ [43, 44, 8, 29, 45, 46, 12, 47, 3, 48, 49, 50, 51, 52, 53, 54, 55, 56, 57, 58, 103, 104, 105, 106, 87, 88, 89, 90] (by decide +kernel) (by decide +kernel)
set_option maxRecDepth 20000 in
theorem gX4_writeMap_X4_allLeadOut : GoodIn wsX4_writeMap (va_wsS RX4 119 yX4_allLeadOut wsX4_allLeadOut) := goodIn_app (goodIn_of _ (by decide +kernel)) ggX4_writeMap_X4_allLeadOut
set_option maxRecDepth 20000 in
theorem ggX4_writeMap_X2_isOfOneNumber : GoodIn wsX4_writeMap wsX2_isOfOneNumber := goodIn_r _ [62, 63, 36, 103, 104, 105, 106] (by decide +kernel) (by decide +kernel)
set_option maxRecDepth 20000 in
theorem gX4_writeMap_X2_isOfOneNumber : GoodIn wsX4_writeMap (wsV RX4 123 RX2 yX2_isOfOneNumber wsX2_isOfOneNumber) := goodIn_app (goodIn_of _ (by decide +kernel)) ggX4_writeMap_X2_isOfOneNumber
set_option maxRecDepth 20000 in
theorem ggX4_writeMap_X4_leadOut : GoodIn wsX4_writeMap wsX4_leadOut := goodIn_r _ [47, 3, 48, 49, 50, 51, 52, 53, 54, 55, 56, 57, 58, 87, 88, 89, 90, 103, 104, 105, 106] (by decide +kernel) (by decide +kernel)
set_option maxRecDepth 20000 in
theorem gX4_writeMap_X4_leadOut : GoodIn wsX4_writeMap (va_wsS RX4 132 yX4_leadOut wsX4_leadOut) := goodIn_app (goodIn_of _ (by decide +kernel)) ggX4_writeMap_X4_leadOut
set_option maxRecDepth 20000 in
theorem ggX4_writeMap_X1_hasRight : GoodIn wsX4_writeMap wsX1_hasRight := goodIn_r _ [68, 69, 70, 71, 67, 72, 73, 74, 75, 76, 77, 78, 79, 80, 81, 82, 12, 83, 3, 100, 101, 102, 87, 88, 89, 90] (by decide +kernel) (by decide +kernel)
set_option maxRecDepth 20000 in
theorem gX4_writeMap_X1_hasRight : GoodIn wsX4_writeMap (wsV RX4 136 RX1 yX1_hasRight wsX1_hasRight) := goodIn_app (goodIn_of _ (by decide +kernel)) ggX4_writeMap_X1_hasRight
set_option maxRecDepth 20000 in
theorem ggX4_writeMap_X4_countOf : GoodIn wsX4_writeMap wsX4_countOf := goodIn_r _ [86, 29, 103, 104, 105, 106] (by decide +kernel) (by decide +kernel)
set_option maxRecDepth 20000 in
theorem gX4_writeMap_X4_countOf : GoodIn wsX4_writeMap (va_wsS RX4 85 yX4_countOf wsX4_countOf) := goodIn_app (goodIn_of _ (by decide +kernel)) ggX4_writeMap_X4_countOf
set_option maxRecDepth 20000 in
theorem ggX4_outerOf_X4_roomAt : GoodIn wsX4_outerOf wsX4_roomAt := goodIn_ca (goodIn_r _ [6, 7, 8, 9, 18, 19, 20, 21, 22, 23, 24, 25, 26] (by decide +kernel) (by decide +kernel)) (goodIn_sub (fun _ h => List.mem_cons_of_mem _ (List.mem_append_right _ h)) (by decide +kernel))
set_option maxRecDepth 20000 in
theorem gX4_outerOf_X4_roomAt : GoodIn wsX4_outerOf (wsV RX4 96 RX4 yX4_roomAt wsX4_roomAt) := goodIn_app (goodIn_of _ (by decide +kernel)) ggX4_outerOf_X4_roomAt
set_option maxRecDepth 20000 in
theorem ggX4_outerOf_X4_numberOrNone : GoodIn wsX4_outerOf wsX4_numberOrNone := goodIn_r _ [12, 13, 14, 15, 16, 17] (by decide +kernel) (by decide +kernel)
set_option maxRecDepth 20000 in
theorem gX4_outerOf_X4_numberOrNone : GoodIn wsX4_outerOf (va_wsS RX4 140 yX4_numberOrNone wsX4_numberOrNone) := goodIn_app (goodIn_of _ (by decide +kernel)) ggX4_outerOf_X4_numberOrNone
set_option maxRecDepth 20000 in
theorem ggX4_leadsTo_X4_roomAt : GoodIn wsX4_leadsTo wsX4_roomAt := goodIn_ca (goodIn_r _ [5, 6, 7, 8, 29, 30, 31, 32, 33, 34, 35, 36, 37] (by decide +kernel) (by decide +kernel)) (goodIn_sub (fun _ h => List.mem_cons_of_mem _ (List.mem_append_left _ (List.mem_append_right _ h))) (by decide +kernel))
set_option maxRecDepth 20000 in
theorem gX4_leadsTo_X4_roomAt : GoodIn wsX4_leadsTo (wsV RX4 96 RX4 yX4_roomAt wsX4_roomAt) := goodIn_app (goodIn_of _ (by decide +kernel)) ggX4_leadsTo_X4_roomAt
set_option maxRecDepth 20000 in
theorem ggX4_leadsTo_X4_requireNumber : GoodIn wsX4_leadsTo wsX4_requireNumber := goodIn_ca (goodIn_r _ [11, 12, 13] (by decide +kernel) (by decide +kernel)) (goodIn_sub (fun _ h => List.mem_cons_of_mem _ (List.mem_append_right _ h)) (by decide +kernel))
set_option maxRecDepth 20000 in
theorem gX4_leadsTo_X4_requireNumber : GoodIn wsX4_leadsTo (va_wsS RX4 76 yX4_requireNumber wsX4_requireNumber) := goodIn_app (goodIn_of _ (by decide +kernel)) ggX4_leadsTo_X4_requireNumber
set_option maxRecDepth 20000 in
theorem ggX4_leadsTo_X4_leadOut : GoodIn wsX4_leadsTo wsX4_leadOut := goodIn_r _ [16, 17, 18, 19, 20, 21, 22, 23, 24, 25, 26, 27, 28, 38, 39, 40, 41, 42, 43, 44, 45] (by decide +kernel) (by decide +kernel)
set_option maxRecDepth 20000 in
theorem gX4_leadsTo_X4_leadOut : GoodIn wsX4_leadsTo (va_wsS RX4 132 yX4_leadOut wsX4_leadOut) := goodIn_app (goodIn_of _ (by decide +kernel)) ggX4_leadsTo_X4_leadOut
set_option maxRecDepth 20000 in
theorem ggX4_seenAs_X4_roomAt : GoodIn wsX4_seenAs wsX4_roomAt := goodIn_ca (goodIn_r _ [5, 6, 7, 8, 33, 34, 35, 36, 37, 38, 39, 40, 41] (by decide +kernel) (by decide +kernel)) (goodIn_sub (fun _ h => List.mem_cons_of_mem _ (List.mem_append_left _ (List.mem_append_right _ h))) (by decide +kernel))
set_option maxRecDepth 20000 in
theorem gX4_seenAs_X4_roomAt : GoodIn wsX4_seenAs (wsV RX4 96 RX4 yX4_roomAt wsX4_roomAt) := goodIn_app (goodIn_of _ (by decide +kernel)) ggX4_seenAs_X4_roomAt
set_option maxRecDepth 20000 in
theorem ggX4_seenAs_X4_requireNumber : GoodIn wsX4_seenAs wsX4_requireNumber := goodIn_ca (goodIn_r _ [11, 12, 13] (by decide +kernel) (by decide +kernel)) (goodIn_sub (fun _ h => List.mem_cons_of_mem _ (List.mem_append_right _ h)) (by decide +kernel))
set_option maxRecDepth 20000 in
theorem gX4_seenAs_X4_requireNumber : GoodIn wsX4_seenAs (va_wsS RX4 76 yX4_requireNumber wsX4_requireNumber) := goodIn_app (goodIn_of _ (by decide +kernel)) ggX4_seenAs_X4_requireNumber
set_option maxRecDepth 20000 in
theorem ggX4_seenAs_X4_seenFrom : GoodIn wsX4_seenAs wsX4_seenFrom := goodIn_r _ [17, 8, 18, 19, 4, 20, 21, 22, 23, 24, 25, 26, 27, 28, 29, 30, 31, 32, 33, 34, 35, 36, 37, 38, 39, 40, 41, 42, 43, 44, 45, 46, 47, 48, 49] (by decide +kernel) (by decide +kernel)
set_option maxRecDepth 20000 in
theorem gX4_seenAs_X4_seenFrom : GoodIn wsX4_seenAs (wsV RX4 144 RX4 yX4_seenFrom wsX4_seenFrom) := goodIn_app (goodIn_of _ (by decide +kernel)) ggX4_seenAs_X4_seenFrom
set_option maxRecDepth 20000 in
theorem ggX4_seenByLeading_X4_roomAt : GoodIn wsX4_seenByLeading wsX4_roomAt := goodIn_ca (goodIn_r _ [5, 6, 7, 8, 29, 30, 31, 32, 33, 34, 35, 36, 37] (by decide +kernel) (by decide +kernel)) (goodIn_sub (fun _ h => List.mem_cons_of_mem _ (List.mem_append_left _ (List.mem_append_right _ h))) (by decide +kernel))
set_option maxRecDepth 20000 in
theorem gX4_seenByLeading_X4_roomAt : GoodIn wsX4_seenByLeading (wsV RX4 96 RX4 yX4_roomAt wsX4_roomAt) := goodIn_app (goodIn_of _ (by decide +kernel)) ggX4_seenByLeading_X4_roomAt
set_option maxRecDepth 20000 in
theorem ggX4_seenByLeading_X4_requireNumber : GoodIn wsX4_seenByLeading wsX4_requireNumber := goodIn_ca (goodIn_r _ [11, 12, 13] (by decide +kernel) (by decide +kernel)) (goodIn_sub (fun _ h => List.mem_cons_of_mem _ (List.mem_append_right _ h)) (by decide +kernel))
set_option maxRecDepth 20000 in
theorem gX4_seenByLeading_X4_requireNumber : GoodIn wsX4_seenByLeading (va_wsS RX4 76 yX4_requireNumber wsX4_requireNumber) := goodIn_app (goodIn_of _ (by decide +kernel)) ggX4_seenByLeading_X4_requireNumber
set_option maxRecDepth 20000 in
theorem ggX4_seenByLeading_X4_leadOut : GoodIn wsX4_seenByLeading wsX4_leadOut := goodIn_r _ [16, 17, 18, 19, 20, 21, 22, 23, 24, 25, 26, 27, 28, 38, 39, 40, 41, 42, 43, 44, 45] (by decide +kernel) (by decide +kernel)
set_option maxRecDepth 20000 in
theorem gX4_seenByLeading_X4_leadOut : GoodIn wsX4_seenByLeading (va_wsS RX4 132 yX4_leadOut wsX4_leadOut) := goodIn_app (goodIn_of _ (by decide +kernel)) ggX4_seenByLeading_X4_leadOut
set_option maxRecDepth 20000 in
theorem ggX4_fork_X4_processAt : GoodIn wsX4_fork wsX4_processAt := goodIn_ca (goodIn_r _ [15, 16, 17, 4, 27, 28, 29, 30, 31, 32, 33, 34, 35] (by decide +kernel) (by decide +kernel)) (goodIn_sub (fun _ h => List.mem_cons_of_mem _ (List.mem_append_right _ h)) (by decide +kernel))
set_option maxRecDepth 20000 in
theorem gX4_fork_X4_processAt : GoodIn wsX4_fork (wsV RX4 53 RX4 yX4_processAt wsX4_processAt) := goodIn_app (goodIn_of _ (by decide +kernel)) ggX4_fork_X4_processAt
set_option maxRecDepth 20000 in
theorem ggX4_fork_X1_init : GoodIn wsX4_fork wsX1_init := goodIn_r _ [20, 21, 22, 23, 24, 25, 26, 36, 37, 38] (by decide +kernel) (by decide +kernel)
set_option maxRecDepth 20000 in
theorem gX4_fork_X1_init : GoodIn wsX4_fork (wsX1_init) := ggX4_fork_X1_init
set_option maxRecDepth 20000 in
theorem ggX4_drop_X4_processAt : GoodIn wsX4_drop wsX4_processAt := goodIn_ca (goodIn_r _ [8, 9, 10, 11, 15, 16, 17, 18, 19, 20, 21, 22, 23] (by decide +kernel) (by decide +kernel)) (goodIn_sub (fun _ h => List.mem_cons_of_mem _ (List.mem_append_right _ h)) (by decide +kernel))
set_option maxRecDepth 20000 in
theorem gX4_drop_X4_processAt : GoodIn wsX4_drop (wsV RX4 53 RX4 yX4_processAt wsX4_processAt) := goodIn_app (goodIn_of _ (by decide +kernel)) ggX4_drop_X4_processAt
set_option maxRecDepth 20000 in
theorem ggX4_enter_X4_processAt : GoodIn wsX4_enter wsX4_processAt := goodIn_ca (goodIn_r _ [8, 9, 10, 11, 55, 56, 57, 58, 59, 60, 61, 62, 63] (by decide +kernel) (by decide +kernel)) (goodIn_sub (fun _ h => List.mem_cons_of_mem _ (List.mem_append_right _ h)) (by decide +kernel))
set_option maxRecDepth 20000 in
theorem gX4_enter_X4_processAt : GoodIn wsX4_enter (wsV RX4 53 RX4 yX4_processAt wsX4_processAt) := goodIn_app (goodIn_of _ (by decide +kernel)) ggX4_enter_X4_processAt
set_option maxRecDepth 20000 in
theorem ggX4_enter_X4_roomAt : GoodIn wsX4_enter wsX4_roomAt := goodIn_ca (goodIn_r _ [15, 9, 10, 16, 55, 56, 57, 58, 59, 60, 61, 62, 63] (by decide +kernel) (by decide +kernel)) (goodIn_sub (fun _ h => List.mem_cons_of_mem _ (List.mem_append_right _ h)) (by decide +kernel))
set_option maxRecDepth 20000 in
theorem gX4_enter_X4_roomAt : GoodIn wsX4_enter (wsV RX4 96 RX4 yX4_roomAt wsX4_roomAt) := goodIn_app (goodIn_of _ (by decide +kernel)) ggX4_enter_X4_roomAt
set_option maxRecDepth 20000 in
theorem ggX4_enter_X4_isOrIsInside : GoodIn wsX4_enter wsX4_isOrIsInside := goodIn_r _ [19, 1, 48, 49, 50, 51] (by decide +kernel) (by decide +kernel)
set_option maxRecDepth 20000 in
theorem gX4_enter_X4_isOrIsInside : GoodIn wsX4_enter (va_wsS RX4 154 yX4_isOrIsInside wsX4_isOrIsInside) := goodIn_app (goodIn_of _ (by decide +kernel)) ggX4_enter_X4_isOrIsInside
set_option maxRecDepth 20000 in
theorem ggX4_enter_X4_refuse : GoodIn wsX4_enter wsX4_refuse := goodIn_r _ [23, 24, 25, 55, 56, 57, 58, 59, 60, 61, 62, 63] (by decide +kernel) (by decide +kernel)
set_option maxRecDepth 20000 in
theorem gX4_enter_X4_refuse : GoodIn wsX4_enter (wsV RX4 111 RX4 yX4_refuse wsX4_refuse) := goodIn_app (goodIn_of _ (by decide +kernel)) ggX4_enter_X4_refuse
set_option maxRecDepth 20000 in
theorem ggX4_enter_X1_hasRight : GoodIn wsX4_enter wsX1_hasRight := goodIn_r _ [30, 31, 32, 33, 29, 34, 35, 36, 37, 38, 39, 40, 41, 42, 43, 18, 7, 19, 1, 52, 53, 54, 48, 49, 50, 51] (by decide +kernel) (by decide +kernel)
set_option maxRecDepth 20000 in
theorem gX4_enter_X1_hasRight : GoodIn wsX4_enter (wsV RX4 136 RX1 yX1_hasRight wsX1_hasRight) := goodIn_app (goodIn_of _ (by decide +kernel)) ggX4_enter_X1_hasRight
set_option maxRecDepth 20000 in
theorem ggX4_enter_X1_moveInto : GoodIn wsX4_enter wsX1_moveInto := goodIn_r _ [47, 35, 36, 52, 53, 54] (by decide +kernel) (by decide +kernel)
set_option maxRecDepth 20000 in
theorem gX4_enter_X1_moveInto : GoodIn wsX4_enter (wsV RX4 71 RX1 yX1_moveInto wsX1_moveInto) := goodIn_app (goodIn_of _ (by decide +kernel)) ggX4_enter_X1_moveInto
set_option maxRecDepth 20000 in
theorem ggX4_setNumber_X4_processAt : GoodIn wsX4_setNumber wsX4_processAt := goodIn_ca (goodIn_r _ [8, 9, 10, 11, 71, 72, 73, 74, 75, 76, 77, 78, 79] (by decide +kernel) (by decide +kernel)) (goodIn_sub (fun _ h => List.mem_cons_of_mem _ (List.mem_append_left _ (List.mem_append_right _ h))) (by decide +kernel))
set_option maxRecDepth 20000 in
theorem gX4_setNumber_X4_processAt : GoodIn wsX4_setNumber (wsV RX4 53 RX4 yX4_processAt wsX4_processAt) := goodIn_app (goodIn_of _ (by decide +kernel)) ggX4_setNumber_X4_processAt
set_option maxRecDepth 20000 in
theorem ggX4_setNumber_X4_requireNumber : GoodIn wsX4_setNumber wsX4_requireNumber := goodIn_ca (goodIn_r _ [14, 15, 16] (by decide +kernel) (by decide +kernel)) (goodIn_sub (fun _ h => List.mem_cons_of_mem _ (List.mem_append_right _ h)) (by decide +kernel))
set_option maxRecDepth 20000 in
theorem gX4_setNumber_X4_requireNumber : GoodIn wsX4_setNumber (va_wsS RX4 76 yX4_requireNumber wsX4_requireNumber) := goodIn_app (goodIn_of _ (by decide +kernel)) ggX4_setNumber_X4_requireNumber
set_option maxRecDepth 20000 in
theorem ggX4_setNumber_X4_leadOut : GoodIn wsX4_setNumber wsX4_leadOut := goodIn_r _ [19, 20, 21, 22, 23, 24, 25, 26, 27, 28, 29, 30, 31, 80, 81, 82, 83, 84, 85, 86, 87] (by decide +kernel) (by decide +kernel)
set_option maxRecDepth 20000 in
theorem gX4_setNumber_X4_leadOut : GoodIn wsX4_setNumber (va_wsS RX4 132 yX4_leadOut wsX4_leadOut) := goodIn_app (goodIn_of _ (by decide +kernel)) ggX4_setNumber_X4_leadOut
set_option maxRecDepth 20000 in
theorem ggX4_setNumber_X4_refuse : GoodIn wsX4_setNumber wsX4_refuse := goodIn_r _ [35, 36, 37, 71, 72, 73, 74, 75, 76, 77, 78, 79] (by decide +kernel) (by decide +kernel)
set_option maxRecDepth 20000 in
theorem gX4_setNumber_X4_refuse : GoodIn wsX4_setNumber (wsV RX4 111 RX4 yX4_refuse wsX4_refuse) := goodIn_app (goodIn_of _ (by decide +kernel)) ggX4_setNumber_X4_refuse
set_option maxRecDepth 20000 in
theorem ggX4_setNumber_X1_hasRight : GoodIn wsX4_setNumber wsX1_hasRight := goodIn_r _ [42, 43, 44, 45, 41, 46, 47, 48, 49, 50, 51, 52, 53, 54, 55, 56, 7, 57, 20, 68, 69, 70, 80, 81, 82, 83] (by decide +kernel) (by decide +kernel)
set_option maxRecDepth 20000 in
theorem gX4_setNumber_X1_hasRight : GoodIn wsX4_setNumber (wsV RX4 136 RX1 yX1_hasRight wsX1_hasRight) := goodIn_app (goodIn_of _ (by decide +kernel)) ggX4_setNumber_X1_hasRight
set_option maxRecDepth 20000 in
theorem ggX4_setNumber_X4_seenFrom : GoodIn wsX4_setNumber wsX4_seenFrom := goodIn_r _ [61, 62, 63, 56, 7, 57, 20, 64, 65, 66, 24, 67, 26, 27, 30, 29, 28, 31, 71, 72, 73, 74, 75, 76, 77, 78, 79, 80, 81, 82, 83, 84, 85, 86, 87] (by decide +kernel) (by decide +kernel)
set_option maxRecDepth 20000 in
theorem gX4_setNumber_X4_seenFrom : GoodIn wsX4_setNumber (wsV RX4 144 RX4 yX4_seenFrom wsX4_seenFrom) := goodIn_app (goodIn_of _ (by decide +kernel)) ggX4_setNumber_X4_seenFrom
set_option maxRecDepth 20000 in
theorem ggX4_roomOf_X4_processAt : GoodIn wsX4_roomOf wsX4_processAt := goodIn_ca (goodIn_r _ [6, 7, 8, 9, 17, 18, 19, 20, 21, 22, 23, 24, 25] (by decide +kernel) (by decide +kernel)) (goodIn_sub (fun _ h => List.mem_cons_of_mem _ (List.mem_append_right _ h)) (by decide +kernel))
set_option maxRecDepth 20000 in
theorem gX4_roomOf_X4_processAt : GoodIn wsX4_roomOf (wsV RX4 53 RX4 yX4_processAt wsX4_processAt) := goodIn_app (goodIn_of _ (by decide +kernel)) ggX4_roomOf_X4_processAt
set_option maxRecDepth 20000 in
theorem ggX4_roomOf_X4_numberOrNone : GoodIn wsX4_roomOf wsX4_numberOrNone := goodIn_r _ [12, 13, 26, 27, 28, 29] (by decide +kernel) (by decide +kernel)
set_option maxRecDepth 20000 in
theorem gX4_roomOf_X4_numberOrNone : GoodIn wsX4_roomOf (va_wsS RX4 140 yX4_numberOrNone wsX4_numberOrNone) := goodIn_app (goodIn_of _ (by decide +kernel)) ggX4_roomOf_X4_numberOrNone
set_option maxRecDepth 20000 in
theorem ggX4_numberOf_X4_processAt : GoodIn wsX4_numberOf wsX4_processAt := goodIn_ca (goodIn_r _ [6, 7, 8, 9, 13, 14, 15, 16, 17, 18, 19, 20, 21] (by decide +kernel) (by decide +kernel)) (goodIn_sub (fun _ h => List.mem_cons_of_mem _ (List.mem_append_right _ h)) (by decide +kernel))
set_option maxRecDepth 20000 in
theorem gX4_numberOf_X4_processAt : GoodIn wsX4_numberOf (wsV RX4 53 RX4 yX4_processAt wsX4_processAt) := goodIn_app (goodIn_of _ (by decide +kernel)) ggX4_numberOf_X4_processAt
set_option maxRecDepth 20000 in
theorem ggX4_rightsIn_X4_processAt : GoodIn wsX4_rightsIn wsX4_processAt := goodIn_ca (goodIn_r _ [5, 6, 7, 8, 31, 32, 33, 34, 35, 36, 37, 38, 39] (by decide +kernel) (by decide +kernel)) (goodIn_sub (fun _ h => List.mem_cons_of_mem _ (List.mem_append_right _ h)) (by decide +kernel))
set_option maxRecDepth 20000 in
theorem gX4_rightsIn_X4_processAt : GoodIn wsX4_rightsIn (wsV RX4 53 RX4 yX4_processAt wsX4_processAt) := goodIn_app (goodIn_of _ (by decide +kernel)) ggX4_rightsIn_X4_processAt
set_option maxRecDepth 20000 in
theorem ggX4_rightsIn_X4_roomAt : GoodIn wsX4_rightsIn wsX4_roomAt := goodIn_ca (goodIn_r _ [12, 6, 7, 13, 31, 32, 33, 34, 35, 36, 37, 38, 39] (by decide +kernel) (by decide +kernel)) (goodIn_sub (fun _ h => List.mem_cons_of_mem _ (List.mem_append_right _ h)) (by decide +kernel))
set_option maxRecDepth 20000 in
theorem gX4_rightsIn_X4_roomAt : GoodIn wsX4_rightsIn (wsV RX4 96 RX4 yX4_roomAt wsX4_roomAt) := goodIn_app (goodIn_of _ (by decide +kernel)) ggX4_rightsIn_X4_roomAt
set_option maxRecDepth 20000 in
theorem ggX4_rightsIn_X1_rightsHeldIn : GoodIn wsX4_rightsIn wsX1_rightsHeldIn := goodIn_r _ [18, 19, 20, 21, 22, 23, 17, 24, 25, 26, 27, 28, 4, 29, 30, 40, 41, 42, 43, 44, 45, 46] (by decide +kernel) (by decide +kernel)
set_option maxRecDepth 20000 in
theorem gX4_rightsIn_X1_rightsHeldIn : GoodIn wsX4_rightsIn (wsV RX4 158 RX1 yX1_rightsHeldIn wsX1_rightsHeldIn) := goodIn_app (goodIn_of _ (by decide +kernel)) ggX4_rightsIn_X1_rightsHeldIn
set_option maxRecDepth 20000 in
theorem ggX4_makeFile_X4_processAt : GoodIn wsX4_makeFile wsX4_processAt := goodIn_ca (goodIn_r _ [16, 17, 18, 19, 54, 55, 56, 57, 58, 59, 60, 61, 62] (by decide +kernel) (by decide +kernel)) (goodIn_sub (fun _ h => List.mem_cons_of_mem _ (List.mem_append_right _ h)) (by decide +kernel))
set_option maxRecDepth 20000 in
theorem gX4_makeFile_X4_processAt : GoodIn wsX4_makeFile (wsV RX4 53 RX4 yX4_processAt wsX4_processAt) := goodIn_app (goodIn_of _ (by decide +kernel)) ggX4_makeFile_X4_processAt
set_option maxRecDepth 20000 in
theorem ggX4_makeFile_X4_seenFrom : GoodIn wsX4_makeFile wsX4_seenFrom := goodIn_r _ [23, 24, 25, 26, 15, 27, 28, 29, 30, 31, 32, 33, 34, 35, 36, 37, 38, 39, 54, 55, 56, 57, 58, 59, 60, 61, 62, 68, 69, 70, 71, 72, 73, 74, 75] (by decide +kernel) (by decide +kernel)
set_option maxRecDepth 20000 in
theorem gX4_makeFile_X4_seenFrom : GoodIn wsX4_makeFile (wsV RX4 144 RX4 yX4_seenFrom wsX4_seenFrom) := goodIn_app (goodIn_of _ (by decide +kernel)) ggX4_makeFile_X4_seenFrom
set_option maxRecDepth 20000 in
theorem ggX4_makeFile_X4_refuse : GoodIn wsX4_makeFile wsX4_refuse := goodIn_r _ [43, 44, 45, 54, 55, 56, 57, 58, 59, 60, 61, 62] (by decide +kernel) (by decide +kernel)
set_option maxRecDepth 20000 in
theorem gX4_makeFile_X4_refuse : GoodIn wsX4_makeFile (wsV RX4 111 RX4 yX4_refuse wsX4_refuse) := goodIn_app (goodIn_of _ (by decide +kernel)) ggX4_makeFile_X4_refuse
set_option maxRecDepth 20000 in
theorem ggX4_makeFile_X0_init : GoodIn wsX4_makeFile wsX0_init := goodIn_r _ [48, 49, 50, 51, 52, 53, 66, 67] (by decide +kernel) (by decide +kernel)
set_option maxRecDepth 20000 in
theorem gX4_makeFile_X0_init : GoodIn wsX4_makeFile (wsX0_init) := ggX4_makeFile_X0_init
set_option maxRecDepth 20000 in
theorem ggX4_handOver_X4_processAt : GoodIn wsX4_handOver wsX4_processAt := goodIn_ca (goodIn_r _ [7, 8, 9, 10, 77, 78, 79, 80, 81, 82, 83, 84, 85] (by decide +kernel) (by decide +kernel)) (goodIn_sub (fun _ h => List.mem_cons_of_mem _ (List.mem_append_left _ (List.mem_append_right _ h))) (by decide +kernel))
set_option maxRecDepth 20000 in
theorem gX4_handOver_X4_processAt : GoodIn wsX4_handOver (wsV RX4 53 RX4 yX4_processAt wsX4_processAt) := goodIn_app (goodIn_of _ (by decide +kernel)) ggX4_handOver_X4_processAt
set_option maxRecDepth 20000 in
theorem ggX4_handOver_X4_fileAt : GoodIn wsX4_handOver wsX4_fileAt := goodIn_ca (goodIn_r _ [14, 8, 9, 15, 77, 78, 79, 80, 81, 82, 83, 84, 85] (by decide +kernel) (by decide +kernel)) (goodIn_sub (fun _ h => List.mem_cons_of_mem _ (List.mem_append_left _ (List.mem_append_right _ h))) (by decide +kernel))
set_option maxRecDepth 20000 in
theorem gX4_handOver_X4_fileAt : GoodIn wsX4_handOver (wsV RX4 168 RX4 yX4_fileAt wsX4_fileAt) := goodIn_app (goodIn_of _ (by decide +kernel)) ggX4_handOver_X4_fileAt
set_option maxRecDepth 20000 in
theorem ggX4_handOver_X4_requireNumber : GoodIn wsX4_handOver wsX4_requireNumber := goodIn_ca (goodIn_r _ [18, 19, 20] (by decide +kernel) (by decide +kernel)) (goodIn_sub (fun _ h => List.mem_cons_of_mem _ (List.mem_append_right _ h)) (by decide +kernel))
set_option maxRecDepth 20000 in
theorem gX4_handOver_X4_requireNumber : GoodIn wsX4_handOver (va_wsS RX4 76 yX4_requireNumber wsX4_requireNumber) := goodIn_app (goodIn_of _ (by decide +kernel)) ggX4_handOver_X4_requireNumber
set_option maxRecDepth 20000 in
theorem ggX4_handOver_X4_leadOut : GoodIn wsX4_handOver wsX4_leadOut := goodIn_r _ [23, 24, 25, 26, 27, 28, 29, 30, 31, 32, 33, 34, 35, 86, 87, 88, 89, 90, 91, 92, 93] (by decide +kernel) (by decide +kernel)
set_option maxRecDepth 20000 in
theorem gX4_handOver_X4_leadOut : GoodIn wsX4_handOver (va_wsS RX4 132 yX4_leadOut wsX4_leadOut) := goodIn_app (goodIn_of _ (by decide +kernel)) ggX4_handOver_X4_leadOut
set_option maxRecDepth 20000 in
theorem ggX4_handOver_X4_seenFrom : GoodIn wsX4_handOver wsX4_seenFrom := goodIn_r _ [39, 40, 41, 42, 6, 43, 24, 44, 45, 46, 28, 47, 30, 31, 34, 33, 32, 35, 77, 78, 79, 80, 81, 82, 83, 84, 85, 86, 87, 88, 89, 90, 91, 92, 93] (by decide +kernel) (by decide +kernel)
set_option maxRecDepth 20000 in
theorem gX4_handOver_X4_seenFrom : GoodIn wsX4_handOver (wsV RX4 144 RX4 yX4_seenFrom wsX4_seenFrom) := goodIn_app (goodIn_of _ (by decide +kernel)) ggX4_handOver_X4_seenFrom
set_option maxRecDepth 20000 in
theorem ggX4_handOver_X4_refuse : GoodIn wsX4_handOver wsX4_refuse := goodIn_r _ [51, 52, 53, 77, 78, 79, 80, 81, 82, 83, 84, 85] (by decide +kernel) (by decide +kernel)
set_option maxRecDepth 20000 in
theorem gX4_handOver_X4_refuse : GoodIn wsX4_handOver (wsV RX4 111 RX4 yX4_refuse wsX4_refuse) := goodIn_app (goodIn_of _ (by decide +kernel)) ggX4_handOver_X4_refuse
set_option maxRecDepth 20000 in
theorem ggX4_handOver_X1_hasRight : GoodIn wsX4_handOver wsX1_hasRight := goodIn_r _ [58, 59, 60, 61, 57, 62, 63, 64, 65, 66, 67, 68, 69, 70, 71, 42, 6, 43, 24, 72, 73, 74, 86, 87, 88, 89] (by decide +kernel) (by decide +kernel)
set_option maxRecDepth 20000 in
theorem gX4_handOver_X1_hasRight : GoodIn wsX4_handOver (wsV RX4 136 RX1 yX1_hasRight wsX1_hasRight) := goodIn_app (goodIn_of _ (by decide +kernel)) ggX4_handOver_X1_hasRight
set_option maxRecDepth 20000 in
theorem ggX4_open_X4_processAt : GoodIn wsX4_open wsX4_processAt := goodIn_ca (goodIn_r _ [8, 9, 10, 11, 73, 74, 75, 76, 77, 78, 79, 80, 81] (by decide +kernel) (by decide +kernel)) (goodIn_sub (fun _ h => List.mem_cons_of_mem _ (List.mem_append_right _ h)) (by decide +kernel))
set_option maxRecDepth 20000 in
theorem gX4_open_X4_processAt : GoodIn wsX4_open (wsV RX4 53 RX4 yX4_processAt wsX4_processAt) := goodIn_app (goodIn_of _ (by decide +kernel)) ggX4_open_X4_processAt
set_option maxRecDepth 20000 in
theorem ggX4_open_X4_fileAt : GoodIn wsX4_open wsX4_fileAt := goodIn_ca (goodIn_r _ [15, 9, 10, 16, 73, 74, 75, 76, 77, 78, 79, 80, 81] (by decide +kernel) (by decide +kernel)) (goodIn_sub (fun _ h => List.mem_cons_of_mem _ (List.mem_append_right _ h)) (by decide +kernel))
set_option maxRecDepth 20000 in
theorem gX4_open_X4_fileAt : GoodIn wsX4_open (wsV RX4 168 RX4 yX4_fileAt wsX4_fileAt) := goodIn_app (goodIn_of _ (by decide +kernel)) ggX4_open_X4_fileAt
set_option maxRecDepth 20000 in
theorem ggX4_open_X0_allows : GoodIn wsX4_open wsX0_allows := goodIn_r _ [21, 22, 23, 71, 72] (by decide +kernel) (by decide +kernel)
set_option maxRecDepth 20000 in
theorem gX4_open_X0_allows : GoodIn wsX4_open (wsV RX4 173 RX0 yX0_allows wsX0_allows) := goodIn_app (goodIn_of _ (by decide +kernel)) ggX4_open_X0_allows
set_option maxRecDepth 20000 in
theorem ggX4_open_X1_hasRight : GoodIn wsX4_open wsX1_hasRight := goodIn_r _ [28, 29, 30, 31, 27, 32, 33, 34, 35, 36, 37, 38, 39, 40, 41, 42, 7, 43, 44, 68, 69, 70, 82, 83, 84, 85] (by decide +kernel) (by decide +kernel)
set_option maxRecDepth 20000 in
theorem gX4_open_X1_hasRight : GoodIn wsX4_open (wsV RX4 136 RX1 yX1_hasRight wsX1_hasRight) := goodIn_app (goodIn_of _ (by decide +kernel)) ggX4_open_X1_hasRight
set_option maxRecDepth 20000 in
theorem ggX4_open_X4_refuse : GoodIn wsX4_open wsX4_refuse := goodIn_r _ [48, 49, 50, 73, 74, 75, 76, 77, 78, 79, 80, 81] (by decide +kernel) (by decide +kernel)
set_option maxRecDepth 20000 in
theorem gX4_open_X4_refuse : GoodIn wsX4_open (wsV RX4 111 RX4 yX4_refuse wsX4_refuse) := goodIn_app (goodIn_of _ (by decide +kernel)) ggX4_open_X4_refuse
set_option maxRecDepth 20000 in
theorem ggX4_open_X4_seenFrom : GoodIn wsX4_open wsX4_seenFrom := goodIn_r _ [54, 55, 56, 42, 7, 43, 44, 57, 58, 59, 60, 61, 62, 63, 64, 65, 66, 67, 73, 74, 75, 76, 77, 78, 79, 80, 81, 82, 83, 84, 85, 86, 87, 88, 89] (by decide +kernel) (by decide +kernel)
set_option maxRecDepth 20000 in
theorem gX4_open_X4_seenFrom : GoodIn wsX4_open (wsV RX4 144 RX4 yX4_seenFrom wsX4_seenFrom) := goodIn_app (goodIn_of _ (by decide +kernel)) ggX4_open_X4_seenFrom
set_option maxRecDepth 20000 in
theorem ggX4_ownerSeenBy_X4_processAt : GoodIn wsX4_ownerSeenBy wsX4_processAt := goodIn_ca (goodIn_r _ [7, 8, 9, 10, 41, 42, 43, 44, 45, 46, 47, 48, 49] (by decide +kernel) (by decide +kernel)) (goodIn_sub (fun _ h => List.mem_cons_of_mem _ (List.mem_append_right _ h)) (by decide +kernel))
set_option maxRecDepth 20000 in
theorem gX4_ownerSeenBy_X4_processAt : GoodIn wsX4_ownerSeenBy (wsV RX4 53 RX4 yX4_processAt wsX4_processAt) := goodIn_app (goodIn_of _ (by decide +kernel)) ggX4_ownerSeenBy_X4_processAt
set_option maxRecDepth 20000 in
theorem ggX4_ownerSeenBy_X4_fileAt : GoodIn wsX4_ownerSeenBy wsX4_fileAt := goodIn_ca (goodIn_r _ [14, 8, 9, 15, 41, 42, 43, 44, 45, 46, 47, 48, 49] (by decide +kernel) (by decide +kernel)) (goodIn_sub (fun _ h => List.mem_cons_of_mem _ (List.mem_append_right _ h)) (by decide +kernel))
set_option maxRecDepth 20000 in
theorem gX4_ownerSeenBy_X4_fileAt : GoodIn wsX4_ownerSeenBy (wsV RX4 168 RX4 yX4_fileAt wsX4_fileAt) := goodIn_app (goodIn_of _ (by decide +kernel)) ggX4_ownerSeenBy_X4_fileAt
set_option maxRecDepth 20000 in
theorem ggX4_ownerSeenBy_X4_seenFrom : GoodIn wsX4_ownerSeenBy wsX4_seenFrom := goodIn_r _ [19, 20, 21, 22, 6, 23, 24, 25, 26, 27, 28, 29, 30, 31, 32, 33, 34, 35, 41, 42, 43, 44, 45, 46, 47, 48, 49, 50, 51, 52, 53, 54, 55, 56, 57] (by decide +kernel) (by decide +kernel)
set_option maxRecDepth 20000 in
theorem gX4_ownerSeenBy_X4_seenFrom : GoodIn wsX4_ownerSeenBy (wsV RX4 144 RX4 yX4_seenFrom wsX4_seenFrom) := goodIn_app (goodIn_of _ (by decide +kernel)) ggX4_ownerSeenBy_X4_seenFrom
set_option maxRecDepth 20000 in
theorem ggX4_seenFrom_X4_isOrIsInside : GoodIn wsX4_seenFrom wsX4_isOrIsInside := goodIn_r _ [5, 6, 27, 28, 29, 30] (by decide +kernel) (by decide +kernel)
set_option maxRecDepth 20000 in
theorem gX4_seenFrom_X4_isOrIsInside : GoodIn wsX4_seenFrom (va_wsS RX4 154 yX4_isOrIsInside wsX4_isOrIsInside) := goodIn_app (goodIn_of _ (by decide +kernel)) ggX4_seenFrom_X4_isOrIsInside
set_option maxRecDepth 20000 in
theorem ggX4_seenFrom_X3_fromOuter : GoodIn wsX4_seenFrom wsX3_fromOuter := goodIn_r _ [11, 12, 13, 14, 15, 16, 17, 27, 28, 29, 30, 31, 32, 33, 34] (by decide +kernel) (by decide +kernel)
set_option maxRecDepth 20000 in
theorem gX4_seenFrom_X3_fromOuter : GoodIn wsX4_seenFrom (wsV RX4 185 RX3 yX3_fromOuter wsX3_fromOuter) := goodIn_app (goodIn_of _ (by decide +kernel)) ggX4_seenFrom_X3_fromOuter
set_option maxRecDepth 20000 in
theorem ggX4_anyMeet_X2_meets : GoodIn wsX4_anyMeet wsX2_meets := goodIn_r _ [6, 7, 8, 9, 10, 11, 5, 12, 13, 14, 15, 16] (by decide +kernel) (by decide +kernel)
set_option maxRecDepth 20000 in
theorem gX4_anyMeet_X2_meets : GoodIn wsX4_anyMeet (wsV RX4 191 RX2 yX2_meets wsX2_meets) := goodIn_app (goodIn_of _ (by decide +kernel)) ggX4_anyMeet_X2_meets
set_option maxRecDepth 20000 in
theorem ggX4_allLeadOut_X4_leadOut : GoodIn wsX4_allLeadOut wsX4_leadOut := goodIn_r _ [7, 8, 9, 10, 11, 12, 13, 14, 15, 16, 17, 18, 19, 24, 25, 26, 27, 20, 21, 22, 23] (by decide +kernel) (by decide +kernel)
set_option maxRecDepth 20000 in
theorem gX4_allLeadOut_X4_leadOut : GoodIn wsX4_allLeadOut (va_wsS RX4 132 yX4_leadOut wsX4_leadOut) := goodIn_app (goodIn_of _ (by decide +kernel)) ggX4_allLeadOut_X4_leadOut
set_option maxRecDepth 20000 in
theorem ggX4_leadOut_X3_toOuter : GoodIn wsX4_leadOut wsX3_toOuter := goodIn_r _ [6, 7, 8, 9, 10, 11, 12, 13, 14, 15, 16, 17, 18, 19, 20] (by decide +kernel) (by decide +kernel)
set_option maxRecDepth 20000 in
theorem gX4_leadOut_X3_toOuter : GoodIn wsX4_leadOut (wsV RX4 197 RX3 yX3_toOuter wsX3_toOuter) := goodIn_app (goodIn_of _ (by decide +kernel)) ggX4_leadOut_X3_toOuter
set_option maxRecDepth 20000 in
theorem ggX5_isRoom_X5_in : GoodIn wsX5_isRoom wsX5_in := goodIn_r _ [5] (by decide +kernel) (by decide +kernel)
set_option maxRecDepth 20000 in
theorem gX5_isRoom_X5_in : GoodIn wsX5_isRoom (va_wsS RX5 59 yX5_in wsX5_in) := goodIn_app (goodIn_of _ (by decide +kernel)) ggX5_isRoom_X5_in
set_option maxRecDepth 20000 in
theorem ggX5_isProcess_X5_in : GoodIn wsX5_isProcess wsX5_in := goodIn_r _ [5] (by decide +kernel) (by decide +kernel)
set_option maxRecDepth 20000 in
theorem gX5_isProcess_X5_in : GoodIn wsX5_isProcess (va_wsS RX5 59 yX5_in wsX5_in) := goodIn_app (goodIn_of _ (by decide +kernel)) ggX5_isProcess_X5_in
set_option maxRecDepth 20000 in
theorem ggX5_isFile_X5_in : GoodIn wsX5_isFile wsX5_in := goodIn_r _ [5] (by decide +kernel) (by decide +kernel)
set_option maxRecDepth 20000 in
theorem gX5_isFile_X5_in : GoodIn wsX5_isFile (va_wsS RX5 59 yX5_in wsX5_in) := goodIn_app (goodIn_of _ (by decide +kernel)) ggX5_isFile_X5_in
set_option maxRecDepth 20000 in
theorem ggX5_isNumber_X5_in : GoodIn wsX5_isNumber wsX5_in := goodIn_r _ [4] (by decide +kernel) (by decide +kernel)
set_option maxRecDepth 20000 in
theorem gX5_isNumber_X5_in : GoodIn wsX5_isNumber (va_wsS RX5 59 yX5_in wsX5_in) := goodIn_app (goodIn_of _ (by decide +kernel)) ggX5_isNumber_X5_in
set_option maxRecDepth 20000 in
theorem ggX5_makeRoom_X5_isProcess : GoodIn wsX5_makeRoom wsX5_isProcess := goodIn_r _ [11, 12, 13, 14, 10, 15, 21, 22, 23, 24, 25, 26, 27, 28, 29, 30, 31, 32, 33, 34, 35, 36, 37, 38] (by decide +kernel) (by decide +kernel)
set_option maxRecDepth 20000 in
theorem gX5_makeRoom_X5_isProcess : GoodIn wsX5_makeRoom (wsV RX5 66 RX5 yX5_isProcess wsX5_isProcess) := goodIn_app (goodIn_of _ (by decide +kernel)) ggX5_makeRoom_X5_isProcess
set_option maxRecDepth 20000 in
theorem ggX5_makeRoom_X5_refused : GoodIn wsX5_makeRoom wsX5_refused := goodIn_r _ [19, 20, 21, 22, 23, 24, 25, 26, 27, 28, 29, 30, 31, 32, 33, 34, 35, 36, 37, 38] (by decide +kernel) (by decide +kernel)
set_option maxRecDepth 20000 in
theorem gX5_makeRoom_X5_refused : GoodIn wsX5_makeRoom (wsV RX5 70 RX5 yX5_refused wsX5_refused) := goodIn_app (goodIn_of _ (by decide +kernel)) ggX5_makeRoom_X5_refused
set_option maxRecDepth 20000 in
theorem ggX5_line_X5_isNumber : GoodIn wsX5_line wsX5_isNumber := goodIn_r _ [8, 9, 10, 7, 11] (by decide +kernel) (by decide +kernel)
set_option maxRecDepth 20000 in
theorem gX5_line_X5_isNumber : GoodIn wsX5_line (va_wsS RX5 73 yX5_isNumber wsX5_isNumber) := goodIn_app (goodIn_of _ (by decide +kernel)) ggX5_line_X5_isNumber
set_option maxRecDepth 20000 in
theorem ggX5_line_X5_in : GoodIn wsX5_line wsX5_in := goodIn_r _ [11] (by decide +kernel) (by decide +kernel)
set_option maxRecDepth 20000 in
theorem gX5_line_X5_in : GoodIn wsX5_line (va_wsS RX5 59 yX5_in wsX5_in) := goodIn_app (goodIn_of _ (by decide +kernel)) ggX5_line_X5_in
set_option maxRecDepth 20000 in
theorem ggX5_line_X5_refused : GoodIn wsX5_line wsX5_refused := goodIn_r _ [15, 16, 17, 18, 19, 20, 21, 22, 23, 24, 25, 26, 27, 28, 29, 30, 31, 32, 33, 34] (by decide +kernel) (by decide +kernel)
set_option maxRecDepth 20000 in
theorem gX5_line_X5_refused : GoodIn wsX5_line (wsV RX5 70 RX5 yX5_refused wsX5_refused) := goodIn_app (goodIn_of _ (by decide +kernel)) ggX5_line_X5_refused
set_option maxRecDepth 20000 in
theorem ggX5_mapped_X5_in : GoodIn wsX5_mapped wsX5_in := goodIn_r _ [8] (by decide +kernel) (by decide +kernel)
set_option maxRecDepth 20000 in
theorem gX5_mapped_X5_in : GoodIn wsX5_mapped (va_wsS RX5 59 yX5_in wsX5_in) := goodIn_app (goodIn_of _ (by decide +kernel)) ggX5_mapped_X5_in
set_option maxRecDepth 20000 in
theorem ggX5_led_X5_mapped : GoodIn wsX5_led wsX5_mapped := goodIn_r _ [6, 7, 8, 9, 10, 11, 12, 5, 13, 14, 15, 16, 17, 18, 19, 20, 21, 22, 23, 24, 25, 26, 27, 28, 29, 30, 31] (by decide +kernel) (by decide +kernel)
set_option maxRecDepth 20000 in
theorem gX5_led_X5_mapped : GoodIn wsX5_led (wsV RX5 79 RX5 yX5_mapped wsX5_mapped) := goodIn_app (goodIn_of _ (by decide +kernel)) ggX5_led_X5_mapped
set_option maxRecDepth 20000 in
theorem ggX5_isDraftBad_X5_meet : GoodIn wsX5_isDraftBad wsX5_meet := goodIn_r _ [8] (by decide +kernel) (by decide +kernel)
set_option maxRecDepth 20000 in
theorem gX5_isDraftBad_X5_meet : GoodIn wsX5_isDraftBad (va_wsS RX5 83 yX5_meet wsX5_meet) := goodIn_app (goodIn_of _ (by decide +kernel)) ggX5_isDraftBad_X5_meet
set_option maxRecDepth 20000 in
theorem ggX5_isDraftLost_X5_led : GoodIn wsX5_isDraftLost wsX5_led := goodIn_r _ [8, 9, 10, 11, 12, 7, 13, 14, 15, 3, 2, 16, 17, 18, 19, 20, 21, 22, 23, 24, 25, 26, 27, 28, 29, 30, 31, 32, 33, 34, 35, 36] (by decide +kernel) (by decide +kernel)
set_option maxRecDepth 20000 in
theorem gX5_isDraftLost_X5_led : GoodIn wsX5_isDraftLost (wsV RX5 87 RX5 yX5_led wsX5_led) := goodIn_app (goodIn_of _ (by decide +kernel)) ggX5_isDraftLost_X5_led
set_option maxRecDepth 20000 in
theorem ggX5_mayWrite_X5_led : GoodIn wsX5_mayWrite wsX5_led := goodIn_r _ [11, 5, 12, 13, 14, 10, 15, 16, 17, 2, 6, 18, 19, 20, 32, 33, 34, 35, 36, 37, 38, 39, 40, 41, 42, 43, 44, 45, 46, 47, 48, 49] (by decide +kernel) (by decide +kernel)
set_option maxRecDepth 20000 in
theorem gX5_mayWrite_X5_led : GoodIn wsX5_mayWrite (wsV RX5 87 RX5 yX5_led wsX5_led) := goodIn_app (goodIn_of _ (by decide +kernel)) ggX5_mayWrite_X5_led
set_option maxRecDepth 20000 in
theorem ggX5_mayWrite_X5_held : GoodIn wsX5_mayWrite wsX5_held := goodIn_r _ [24, 25, 4, 3, 5, 26, 27, 28, 29, 30, 10, 31, 32, 33, 34, 35, 36, 37, 38, 39, 40, 41, 42, 43, 44, 45, 46, 47, 48, 49] (by decide +kernel) (by decide +kernel)
set_option maxRecDepth 20000 in
theorem gX5_mayWrite_X5_held : GoodIn wsX5_mayWrite (wsV RX5 90 RX5 yX5_held wsX5_held) := goodIn_app (goodIn_of _ (by decide +kernel)) ggX5_mayWrite_X5_held
set_option maxRecDepth 20000 in
theorem ggX5_writeMap_X5_isProcess : GoodIn wsX5_writeMap wsX5_isProcess := goodIn_r _ [11, 12, 13, 14, 10, 15, 67, 68, 69, 70, 71, 72, 73, 74, 75, 76, 77, 78, 79, 80, 81, 82, 83, 84] (by decide +kernel) (by decide +kernel)
set_option maxRecDepth 20000 in
theorem gX5_writeMap_X5_isProcess : GoodIn wsX5_writeMap (wsV RX5 66 RX5 yX5_isProcess wsX5_isProcess) := goodIn_app (goodIn_of _ (by decide +kernel)) ggX5_writeMap_X5_isProcess
set_option maxRecDepth 20000 in
theorem ggX5_writeMap_X5_isRoom : GoodIn wsX5_writeMap wsX5_isRoom := goodIn_r _ [19, 20, 13, 14, 10, 15, 67, 68, 69, 70, 71, 72, 73, 74, 75, 76, 77, 78, 79, 80, 81, 82, 83, 84] (by decide +kernel) (by decide +kernel)
set_option maxRecDepth 20000 in
theorem gX5_writeMap_X5_isRoom : GoodIn wsX5_writeMap (wsV RX5 93 RX5 yX5_isRoom wsX5_isRoom) := goodIn_app (goodIn_of _ (by decide +kernel)) ggX5_writeMap_X5_isRoom
set_option maxRecDepth 20000 in
theorem ggX5_writeMap_X5_refused : GoodIn wsX5_writeMap wsX5_refused := goodIn_r _ [24, 25, 67, 68, 69, 70, 71, 72, 73, 74, 75, 76, 77, 78, 79, 80, 81, 82, 83, 84] (by decide +kernel) (by decide +kernel)
set_option maxRecDepth 20000 in
theorem gX5_writeMap_X5_refused : GoodIn wsX5_writeMap (wsV RX5 70 RX5 yX5_refused wsX5_refused) := goodIn_app (goodIn_of _ (by decide +kernel)) ggX5_writeMap_X5_refused
set_option maxRecDepth 20000 in
theorem ggX5_writeMap_X5_isDraftBad : GoodIn wsX5_writeMap wsX5_isDraftBad := goodIn_r _ [29, 3, 4, 6, 5, 30, 31, 10, 32, 67, 68, 69, 70, 71, 72, 73, 74, 75, 76, 77, 78, 79, 80, 81, 82, 83, 84] (by decide +kernel) (by decide +kernel)
set_option maxRecDepth 20000 in
theorem gX5_writeMap_X5_isDraftBad : GoodIn wsX5_writeMap (wsV RX5 96 RX5 yX5_isDraftBad wsX5_isDraftBad) := goodIn_app (goodIn_of _ (by decide +kernel)) ggX5_writeMap_X5_isDraftBad
set_option maxRecDepth 20000 in
theorem ggX5_writeMap_X5_isDraftLost : GoodIn wsX5_writeMap wsX5_isDraftLost := goodIn_r _ [36, 3, 5, 6, 37, 38, 39, 10, 40, 2, 41, 42, 43, 44, 1, 4, 13, 14, 15, 67, 68, 69, 70, 71, 72, 73, 74, 75, 76, 77, 78, 79, 80, 81, 82, 83, 84] (by decide +kernel) (by decide +kernel)
set_option maxRecDepth 20000 in
theorem gX5_writeMap_X5_isDraftLost : GoodIn wsX5_writeMap (wsV RX5 100 RX5 yX5_isDraftLost wsX5_isDraftLost) := goodIn_app (goodIn_of _ (by decide +kernel)) ggX5_writeMap_X5_isDraftLost
set_option maxRecDepth 20000 in
theorem ggX5_writeMap_X5_mayWrite : GoodIn wsX5_writeMap wsX5_mayWrite := goodIn_r _ [48, 3, 6, 49, 50, 2, 5, 37, 38, 39, 10, 40, 41, 42, 43, 44, 1, 4, 13, 14, 15, 51, 52, 53, 54, 20, 55, 56, 57, 58, 59, 60, 67, 68, 69, 70, 71, 72, 73, 74, 75, 76, 77, 78, 79, 80, 81, 82, 83, 84] (by decide +kernel) (by decide +kernel)
set_option maxRecDepth 20000 in
theorem gX5_writeMap_X5_mayWrite : GoodIn wsX5_writeMap (wsV RX5 103 RX5 yX5_mayWrite wsX5_mayWrite) := goodIn_app (goodIn_of _ (by decide +kernel)) ggX5_writeMap_X5_mayWrite
set_option maxRecDepth 20000 in
theorem ggX5_writeMap_X5_told : GoodIn wsX5_writeMap wsX5_told := goodIn_r _ [64, 65, 66, 67, 68, 69, 70, 71, 72, 73, 74, 75, 76, 77, 78, 79, 80, 81, 82, 83, 84] (by decide +kernel) (by decide +kernel)
set_option maxRecDepth 20000 in
theorem gX5_writeMap_X5_told : GoodIn wsX5_writeMap (wsV RX5 107 RX5 yX5_told wsX5_told) := goodIn_app (goodIn_of _ (by decide +kernel)) ggX5_writeMap_X5_told
set_option maxRecDepth 20000 in
theorem ggX5_rooms_X5_fine : GoodIn wsX5_rooms wsX5_fine := goodIn_r _ [6, 7, 8, 9, 10, 11, 12, 13, 14, 15, 16, 17, 18, 19, 20, 21, 22, 23, 24, 25] (by decide +kernel) (by decide +kernel)
set_option maxRecDepth 20000 in
theorem gX5_rooms_X5_fine : GoodIn wsX5_rooms (wsV RX5 111 RX5 yX5_fine wsX5_fine) := goodIn_app (goodIn_of _ (by decide +kernel)) ggX5_rooms_X5_fine
set_option maxRecDepth 20000 in
theorem ggX5_outerOf_X5_isRoom : GoodIn wsX5_outerOf wsX5_isRoom := goodIn_r _ [6, 7, 8, 9, 5, 10, 16, 17, 18, 19, 20, 21, 22, 23, 24, 25, 26, 27, 28, 29, 30, 31, 32, 33] (by decide +kernel) (by decide +kernel)
set_option maxRecDepth 20000 in
theorem gX5_outerOf_X5_isRoom : GoodIn wsX5_outerOf (wsV RX5 93 RX5 yX5_isRoom wsX5_isRoom) := goodIn_app (goodIn_of _ (by decide +kernel)) ggX5_outerOf_X5_isRoom
set_option maxRecDepth 20000 in
theorem ggX5_outerOf_X5_refused : GoodIn wsX5_outerOf wsX5_refused := goodIn_r _ [14, 15, 16, 17, 18, 19, 20, 21, 22, 23, 24, 25, 26, 27, 28, 29, 30, 31, 32, 33] (by decide +kernel) (by decide +kernel)
set_option maxRecDepth 20000 in
theorem gX5_outerOf_X5_refused : GoodIn wsX5_outerOf (wsV RX5 70 RX5 yX5_refused wsX5_refused) := goodIn_app (goodIn_of _ (by decide +kernel)) ggX5_outerOf_X5_refused
set_option maxRecDepth 20000 in
theorem ggX5_noNumber_X5_isRoom : GoodIn wsX5_noNumber wsX5_isRoom := goodIn_r _ [5, 6, 7, 8, 4, 9, 18, 19, 20, 21, 22, 23, 24, 25, 26, 27, 28, 29, 30, 31, 32, 33, 34, 35] (by decide +kernel) (by decide +kernel)
set_option maxRecDepth 20000 in
theorem gX5_noNumber_X5_isRoom : GoodIn wsX5_noNumber (wsV RX5 93 RX5 yX5_isRoom wsX5_isRoom) := goodIn_app (goodIn_of _ (by decide +kernel)) ggX5_noNumber_X5_isRoom
set_option maxRecDepth 20000 in
theorem ggX5_noNumber_X5_isNumber : GoodIn wsX5_noNumber wsX5_isNumber := goodIn_r _ [12, 7, 8, 4, 9] (by decide +kernel) (by decide +kernel)
set_option maxRecDepth 20000 in
theorem gX5_noNumber_X5_isNumber : GoodIn wsX5_noNumber (va_wsS RX5 73 yX5_isNumber wsX5_isNumber) := goodIn_app (goodIn_of _ (by decide +kernel)) ggX5_noNumber_X5_isNumber
set_option maxRecDepth 20000 in
theorem ggX5_noNumber_X5_refused : GoodIn wsX5_noNumber wsX5_refused := goodIn_r _ [16, 17, 18, 19, 20, 21, 22, 23, 24, 25, 26, 27, 28, 29, 30, 31, 32, 33, 34, 35] (by decide +kernel) (by decide +kernel)
set_option maxRecDepth 20000 in
theorem gX5_noNumber_X5_refused : GoodIn wsX5_noNumber (wsV RX5 70 RX5 yX5_refused wsX5_refused) := goodIn_app (goodIn_of _ (by decide +kernel)) ggX5_noNumber_X5_refused
set_option maxRecDepth 20000 in
theorem ggX5_leadsTo_X5_noNumber : GoodIn wsX5_leadsTo wsX5_noNumber := goodIn_r _ [5, 6, 7, 8, 4, 9, 10, 11, 12, 13, 14, 15, 16, 17, 18, 19, 20, 21, 35, 36, 37, 38, 39, 40, 41, 42, 43, 44, 45, 46, 47, 48, 49, 50, 51, 52] (by decide +kernel) (by decide +kernel)
set_option maxRecDepth 20000 in
theorem gX5_leadsTo_X5_noNumber : GoodIn wsX5_leadsTo (wsV RX5 114 RX5 yX5_noNumber wsX5_noNumber) := goodIn_app (goodIn_of _ (by decide +kernel)) ggX5_leadsTo_X5_noNumber
set_option maxRecDepth 20000 in
theorem ggX5_leadsTo_X5_led : GoodIn wsX5_leadsTo wsX5_led := goodIn_r _ [25, 26, 27, 28, 29, 4, 30, 31, 32, 33, 34, 11, 12, 13, 35, 36, 37, 38, 39, 40, 41, 42, 43, 44, 45, 46, 47, 48, 49, 50, 51, 52] (by decide +kernel) (by decide +kernel)
set_option maxRecDepth 20000 in
theorem gX5_leadsTo_X5_led : GoodIn wsX5_leadsTo (wsV RX5 87 RX5 yX5_led wsX5_led) := goodIn_app (goodIn_of _ (by decide +kernel)) ggX5_leadsTo_X5_led
set_option maxRecDepth 20000 in
theorem ggX5_seen_X5_led : GoodIn wsX5_seen wsX5_led := goodIn_r _ [5, 6, 7, 8, 9, 4, 10, 11, 12, 13, 14, 15, 16, 17, 18, 19, 20, 21, 22, 23, 24, 25, 26, 27, 28, 29, 30, 31, 32, 33, 34, 35] (by decide +kernel) (by decide +kernel)
set_option maxRecDepth 20000 in
theorem gX5_seen_X5_led : GoodIn wsX5_seen (wsV RX5 87 RX5 yX5_led wsX5_led) := goodIn_app (goodIn_of _ (by decide +kernel)) ggX5_seen_X5_led
set_option maxRecDepth 20000 in
theorem ggX5_seenAs_X5_noNumber : GoodIn wsX5_seenAs wsX5_noNumber := goodIn_r _ [5, 6, 7, 8, 4, 9, 10, 11, 12, 13, 14, 15, 16, 17, 18, 19, 20, 21, 39, 40, 41, 42, 43, 44, 45, 46, 47, 48, 49, 50, 51, 52, 53, 54, 55, 56] (by decide +kernel) (by decide +kernel)
set_option maxRecDepth 20000 in
theorem gX5_seenAs_X5_noNumber : GoodIn wsX5_seenAs (wsV RX5 114 RX5 yX5_noNumber wsX5_noNumber) := goodIn_app (goodIn_of _ (by decide +kernel)) ggX5_seenAs_X5_noNumber
set_option maxRecDepth 20000 in
theorem ggX5_seenAs_X5_seen : GoodIn wsX5_seenAs wsX5_seen := goodIn_r _ [25, 26, 27, 28, 4, 29, 30, 31, 32, 33, 34, 35, 36, 37, 38, 11, 12, 13, 39, 40, 41, 42, 43, 44, 45, 46, 47, 48, 49, 50, 51, 52, 53, 54, 55, 56] (by decide +kernel) (by decide +kernel)
set_option maxRecDepth 20000 in
theorem gX5_seenAs_X5_seen : GoodIn wsX5_seenAs (wsV RX5 117 RX5 yX5_seen wsX5_seen) := goodIn_app (goodIn_of _ (by decide +kernel)) ggX5_seenAs_X5_seen
set_option maxRecDepth 20000 in
theorem ggX5_seenByLeading_X5_seenAs : GoodIn wsX5_seenByLeading wsX5_seenAs := goodIn_r _ [5, 6, 7, 8, 4, 9, 10, 11, 12, 13, 14, 15, 16, 17, 18, 19, 20, 21, 22, 23, 24, 25, 26, 27, 28, 29, 30, 31, 32, 33, 34, 35, 36, 37, 38, 39, 40, 41, 42, 43, 44, 45, 46, 47, 48, 49, 50, 51, 52, 53, 54, 55, 56, 57, 58, 59, 60] (by decide +kernel) (by decide +kernel)
set_option maxRecDepth 20000 in
theorem gX5_seenByLeading_X5_seenAs : GoodIn wsX5_seenByLeading (wsV RX5 120 RX5 yX5_seenAs wsX5_seenAs) := goodIn_app (goodIn_of _ (by decide +kernel)) ggX5_seenByLeading_X5_seenAs
set_option maxRecDepth 20000 in
theorem ggX5_held_X5_isInside : GoodIn wsX5_held wsX5_isInside := goodIn_r _ [11, 4, 12, 13, 14, 15, 16, 17, 18, 19, 20, 21, 22, 23, 24, 25, 26, 27, 28, 29] (by decide +kernel) (by decide +kernel)
set_option maxRecDepth 20000 in
theorem gX5_held_X5_isInside : GoodIn wsX5_held (wsV RX5 123 RX5 yX5_isInside wsX5_isInside) := goodIn_app (goodIn_of _ (by decide +kernel)) ggX5_held_X5_isInside
set_option maxRecDepth 20000 in
theorem ggX5_fork_X5_isProcess : GoodIn wsX5_fork wsX5_isProcess := goodIn_r _ [9, 1, 10, 11, 8, 12, 18, 19, 20, 21, 22, 23, 24, 25, 26, 27, 28, 29, 30, 31, 32, 33, 34, 35] (by decide +kernel) (by decide +kernel)
set_option maxRecDepth 20000 in
theorem gX5_fork_X5_isProcess : GoodIn wsX5_fork (wsV RX5 66 RX5 yX5_isProcess wsX5_isProcess) := goodIn_app (goodIn_of _ (by decide +kernel)) ggX5_fork_X5_isProcess
set_option maxRecDepth 20000 in
theorem ggX5_fork_X5_refused : GoodIn wsX5_fork wsX5_refused := goodIn_r _ [16, 17, 18, 19, 20, 21, 22, 23, 24, 25, 26, 27, 28, 29, 30, 31, 32, 33, 34, 35] (by decide +kernel) (by decide +kernel)
set_option maxRecDepth 20000 in
theorem gX5_fork_X5_refused : GoodIn wsX5_fork (wsV RX5 70 RX5 yX5_refused wsX5_refused) := goodIn_app (goodIn_of _ (by decide +kernel)) ggX5_fork_X5_refused
set_option maxRecDepth 20000 in
theorem ggX5_drop_X5_isProcess : GoodIn wsX5_drop wsX5_isProcess := goodIn_r _ [6, 7, 8, 9, 5, 10, 16, 17, 18, 19, 20, 21, 22, 23, 24, 25, 26, 27, 28, 29, 30, 31, 32, 33] (by decide +kernel) (by decide +kernel)
set_option maxRecDepth 20000 in
theorem gX5_drop_X5_isProcess : GoodIn wsX5_drop (wsV RX5 66 RX5 yX5_isProcess wsX5_isProcess) := goodIn_app (goodIn_of _ (by decide +kernel)) ggX5_drop_X5_isProcess
set_option maxRecDepth 20000 in
theorem ggX5_drop_X5_in : GoodIn wsX5_drop wsX5_in := goodIn_r _ [10] (by decide +kernel) (by decide +kernel)
set_option maxRecDepth 20000 in
theorem gX5_drop_X5_in : GoodIn wsX5_drop (va_wsS RX5 59 yX5_in wsX5_in) := goodIn_app (goodIn_of _ (by decide +kernel)) ggX5_drop_X5_in
set_option maxRecDepth 20000 in
theorem ggX5_drop_X5_refused : GoodIn wsX5_drop wsX5_refused := goodIn_r _ [14, 15, 16, 17, 18, 19, 20, 21, 22, 23, 24, 25, 26, 27, 28, 29, 30, 31, 32, 33] (by decide +kernel) (by decide +kernel)
set_option maxRecDepth 20000 in
theorem gX5_drop_X5_refused : GoodIn wsX5_drop (wsV RX5 70 RX5 yX5_refused wsX5_refused) := goodIn_app (goodIn_of _ (by decide +kernel)) ggX5_drop_X5_refused
set_option maxRecDepth 20000 in
theorem ggX5_enter_X5_isProcess : GoodIn wsX5_enter wsX5_isProcess := goodIn_r _ [7, 8, 9, 10, 6, 11, 39, 40, 41, 42, 43, 44, 45, 46, 47, 48, 49, 50, 51, 52, 53, 54, 55, 56] (by decide +kernel) (by decide +kernel)
set_option maxRecDepth 20000 in
theorem gX5_enter_X5_isProcess : GoodIn wsX5_enter (wsV RX5 66 RX5 yX5_isProcess wsX5_isProcess) := goodIn_app (goodIn_of _ (by decide +kernel)) ggX5_enter_X5_isProcess
set_option maxRecDepth 20000 in
theorem ggX5_enter_X5_isRoom : GoodIn wsX5_enter wsX5_isRoom := goodIn_r _ [15, 16, 9, 10, 6, 11, 39, 40, 41, 42, 43, 44, 45, 46, 47, 48, 49, 50, 51, 52, 53, 54, 55, 56] (by decide +kernel) (by decide +kernel)
set_option maxRecDepth 20000 in
theorem gX5_enter_X5_isRoom : GoodIn wsX5_enter (wsV RX5 93 RX5 yX5_isRoom wsX5_isRoom) := goodIn_app (goodIn_of _ (by decide +kernel)) ggX5_enter_X5_isRoom
set_option maxRecDepth 20000 in
theorem ggX5_enter_X5_refused : GoodIn wsX5_enter wsX5_refused := goodIn_r _ [20, 21, 39, 40, 41, 42, 43, 44, 45, 46, 47, 48, 49, 50, 51, 52, 53, 54, 55, 56] (by decide +kernel) (by decide +kernel)
set_option maxRecDepth 20000 in
theorem gX5_enter_X5_refused : GoodIn wsX5_enter (wsV RX5 70 RX5 yX5_refused wsX5_refused) := goodIn_app (goodIn_of _ (by decide +kernel)) ggX5_enter_X5_refused
set_option maxRecDepth 20000 in
theorem ggX5_enter_X5_isInside : GoodIn wsX5_enter wsX5_isInside := goodIn_r _ [25, 26, 39, 40, 41, 42, 43, 44, 45, 46, 47, 48, 49, 50, 51, 52, 53, 54, 55, 56] (by decide +kernel) (by decide +kernel)
set_option maxRecDepth 20000 in
theorem gX5_enter_X5_isInside : GoodIn wsX5_enter (wsV RX5 123 RX5 yX5_isInside wsX5_isInside) := goodIn_app (goodIn_of _ (by decide +kernel)) ggX5_enter_X5_isInside
set_option maxRecDepth 20000 in
theorem ggX5_enter_X5_held : GoodIn wsX5_enter wsX5_held := goodIn_r _ [30, 16, 31, 32, 26, 1, 2, 22, 23, 24, 6, 25, 39, 40, 41, 42, 43, 44, 45, 46, 47, 48, 49, 50, 51, 52, 53, 54, 55, 56] (by decide +kernel) (by decide +kernel)
set_option maxRecDepth 20000 in
theorem gX5_enter_X5_held : GoodIn wsX5_enter (wsV RX5 90 RX5 yX5_held wsX5_held) := goodIn_app (goodIn_of _ (by decide +kernel)) ggX5_enter_X5_held
set_option maxRecDepth 20000 in
theorem ggX5_enter_X5_told : GoodIn wsX5_enter wsX5_told := goodIn_r _ [36, 37, 38, 39, 40, 41, 42, 43, 44, 45, 46, 47, 48, 49, 50, 51, 52, 53, 54, 55, 56] (by decide +kernel) (by decide +kernel)
set_option maxRecDepth 20000 in
theorem gX5_enter_X5_told : GoodIn wsX5_enter (wsV RX5 107 RX5 yX5_told wsX5_told) := goodIn_app (goodIn_of _ (by decide +kernel)) ggX5_enter_X5_told
set_option maxRecDepth 20000 in
theorem ggX5_setNumber_X5_isProcess : GoodIn wsX5_setNumber wsX5_isProcess := goodIn_r _ [8, 9, 10, 11, 7, 12, 44, 45, 46, 47, 48, 49, 50, 51, 52, 53, 54, 55, 56, 57, 58, 59, 60, 61] (by decide +kernel) (by decide +kernel)
set_option maxRecDepth 20000 in
theorem gX5_setNumber_X5_isProcess : GoodIn wsX5_setNumber (wsV RX5 66 RX5 yX5_isProcess wsX5_isProcess) := goodIn_app (goodIn_of _ (by decide +kernel)) ggX5_setNumber_X5_isProcess
set_option maxRecDepth 20000 in
theorem ggX5_setNumber_X5_isNumber : GoodIn wsX5_setNumber wsX5_isNumber := goodIn_r _ [15, 10, 11, 7, 12] (by decide +kernel) (by decide +kernel)
set_option maxRecDepth 20000 in
theorem gX5_setNumber_X5_isNumber : GoodIn wsX5_setNumber (va_wsS RX5 73 yX5_isNumber wsX5_isNumber) := goodIn_app (goodIn_of _ (by decide +kernel)) ggX5_setNumber_X5_isNumber
set_option maxRecDepth 20000 in
theorem ggX5_setNumber_X5_refused : GoodIn wsX5_setNumber wsX5_refused := goodIn_r _ [19, 20, 44, 45, 46, 47, 48, 49, 50, 51, 52, 53, 54, 55, 56, 57, 58, 59, 60, 61] (by decide +kernel) (by decide +kernel)
set_option maxRecDepth 20000 in
theorem gX5_setNumber_X5_refused : GoodIn wsX5_setNumber (wsV RX5 70 RX5 yX5_refused wsX5_refused) := goodIn_app (goodIn_of _ (by decide +kernel)) ggX5_setNumber_X5_refused
set_option maxRecDepth 20000 in
theorem ggX5_setNumber_X5_led : GoodIn wsX5_setNumber wsX5_led := goodIn_r _ [24, 25, 26, 27, 28, 7, 29, 30, 31, 32, 33, 10, 11, 12, 44, 45, 46, 47, 48, 49, 50, 51, 52, 53, 54, 55, 56, 57, 58, 59, 60, 61] (by decide +kernel) (by decide +kernel)
set_option maxRecDepth 20000 in
theorem gX5_setNumber_X5_led : GoodIn wsX5_setNumber (wsV RX5 87 RX5 yX5_led wsX5_led) := goodIn_app (goodIn_of _ (by decide +kernel)) ggX5_setNumber_X5_led
set_option maxRecDepth 20000 in
theorem ggX5_setNumber_X5_told : GoodIn wsX5_setNumber wsX5_told := goodIn_r _ [37, 38, 39, 44, 45, 46, 47, 48, 49, 50, 51, 52, 53, 54, 55, 56, 57, 58, 59, 60, 61] (by decide +kernel) (by decide +kernel)
set_option maxRecDepth 20000 in
theorem gX5_setNumber_X5_told : GoodIn wsX5_setNumber (wsV RX5 107 RX5 yX5_told wsX5_told) := goodIn_app (goodIn_of _ (by decide +kernel)) ggX5_setNumber_X5_told
set_option maxRecDepth 20000 in
theorem ggX5_setNumber_X5_seen : GoodIn wsX5_setNumber wsX5_seen := goodIn_r _ [43, 21, 22, 23, 7, 24, 25, 26, 27, 28, 29, 30, 31, 32, 33, 10, 11, 12, 44, 45, 46, 47, 48, 49, 50, 51, 52, 53, 54, 55, 56, 57, 58, 59, 60, 61] (by decide +kernel) (by decide +kernel)
set_option maxRecDepth 20000 in
theorem gX5_setNumber_X5_seen : GoodIn wsX5_setNumber (wsV RX5 117 RX5 yX5_seen wsX5_seen) := goodIn_app (goodIn_of _ (by decide +kernel)) ggX5_setNumber_X5_seen
set_option maxRecDepth 20000 in
theorem ggX5_processes_X5_fine : GoodIn wsX5_processes wsX5_fine := goodIn_r _ [6, 7, 8, 9, 10, 11, 12, 13, 14, 15, 16, 17, 18, 19, 20, 21, 22, 23, 24, 25] (by decide +kernel) (by decide +kernel)
set_option maxRecDepth 20000 in
theorem gX5_processes_X5_fine : GoodIn wsX5_processes (wsV RX5 111 RX5 yX5_fine wsX5_fine) := goodIn_app (goodIn_of _ (by decide +kernel)) ggX5_processes_X5_fine
set_option maxRecDepth 20000 in
theorem ggX5_noProcess_X5_isProcess : GoodIn wsX5_noProcess wsX5_isProcess := goodIn_r _ [5, 6, 7, 8, 4, 9, 15, 16, 17, 18, 19, 20, 21, 22, 23, 24, 25, 26, 27, 28, 29, 30, 31, 32] (by decide +kernel) (by decide +kernel)
set_option maxRecDepth 20000 in
theorem gX5_noProcess_X5_isProcess : GoodIn wsX5_noProcess (wsV RX5 66 RX5 yX5_isProcess wsX5_isProcess) := goodIn_app (goodIn_of _ (by decide +kernel)) ggX5_noProcess_X5_isProcess
set_option maxRecDepth 20000 in
theorem ggX5_noProcess_X5_refused : GoodIn wsX5_noProcess wsX5_refused := goodIn_r _ [13, 14, 15, 16, 17, 18, 19, 20, 21, 22, 23, 24, 25, 26, 27, 28, 29, 30, 31, 32] (by decide +kernel) (by decide +kernel)
set_option maxRecDepth 20000 in
theorem gX5_noProcess_X5_refused : GoodIn wsX5_noProcess (wsV RX5 70 RX5 yX5_refused wsX5_refused) := goodIn_app (goodIn_of _ (by decide +kernel)) ggX5_noProcess_X5_refused
set_option maxRecDepth 20000 in
theorem ggX5_roomOf_X5_noProcess : GoodIn wsX5_roomOf wsX5_noProcess := goodIn_r _ [6, 7, 8, 9, 5, 10, 11, 12, 13, 14, 15, 16, 17, 18, 19, 20, 21, 22, 23, 24, 25, 26, 27, 28, 29, 30, 31, 32, 33, 34, 35, 36, 37] (by decide +kernel) (by decide +kernel)
set_option maxRecDepth 20000 in
theorem gX5_roomOf_X5_noProcess : GoodIn wsX5_roomOf (wsV RX5 126 RX5 yX5_noProcess wsX5_noProcess) := goodIn_app (goodIn_of _ (by decide +kernel)) ggX5_roomOf_X5_noProcess
set_option maxRecDepth 20000 in
theorem ggX5_numberOf_X5_noProcess : GoodIn wsX5_numberOf wsX5_noProcess := goodIn_r _ [6, 7, 8, 9, 5, 10, 11, 12, 13, 14, 15, 16, 17, 18, 19, 20, 21, 22, 23, 24, 25, 26, 27, 28, 29, 30, 31, 32, 33, 34, 35, 36, 37] (by decide +kernel) (by decide +kernel)
set_option maxRecDepth 20000 in
theorem gX5_numberOf_X5_noProcess : GoodIn wsX5_numberOf (wsV RX5 126 RX5 yX5_noProcess wsX5_noProcess) := goodIn_app (goodIn_of _ (by decide +kernel)) ggX5_numberOf_X5_noProcess
set_option maxRecDepth 20000 in
theorem ggX5_rightsIn_X5_isProcess : GoodIn wsX5_rightsIn wsX5_isProcess := goodIn_r _ [5, 6, 7, 8, 4, 9, 33, 34, 35, 36, 37, 38, 39, 40, 41, 42, 43, 44, 45, 46, 47, 48, 49, 50] (by decide +kernel) (by decide +kernel)
set_option maxRecDepth 20000 in
theorem gX5_rightsIn_X5_isProcess : GoodIn wsX5_rightsIn (wsV RX5 66 RX5 yX5_isProcess wsX5_isProcess) := goodIn_app (goodIn_of _ (by decide +kernel)) ggX5_rightsIn_X5_isProcess
set_option maxRecDepth 20000 in
theorem ggX5_rightsIn_X5_isRoom : GoodIn wsX5_rightsIn wsX5_isRoom := goodIn_r _ [13, 14, 7, 8, 4, 9, 33, 34, 35, 36, 37, 38, 39, 40, 41, 42, 43, 44, 45, 46, 47, 48, 49, 50] (by decide +kernel) (by decide +kernel)
set_option maxRecDepth 20000 in
theorem gX5_rightsIn_X5_isRoom : GoodIn wsX5_rightsIn (wsV RX5 93 RX5 yX5_isRoom wsX5_isRoom) := goodIn_app (goodIn_of _ (by decide +kernel)) ggX5_rightsIn_X5_isRoom
set_option maxRecDepth 20000 in
theorem ggX5_rightsIn_X5_refused : GoodIn wsX5_rightsIn wsX5_refused := goodIn_r _ [18, 19, 33, 34, 35, 36, 37, 38, 39, 40, 41, 42, 43, 44, 45, 46, 47, 48, 49, 50] (by decide +kernel) (by decide +kernel)
set_option maxRecDepth 20000 in
theorem gX5_rightsIn_X5_refused : GoodIn wsX5_rightsIn (wsV RX5 70 RX5 yX5_refused wsX5_refused) := goodIn_app (goodIn_of _ (by decide +kernel)) ggX5_rightsIn_X5_refused
set_option maxRecDepth 20000 in
theorem ggX5_rightsIn_X5_held : GoodIn wsX5_rightsIn wsX5_held := goodIn_r _ [23, 14, 24, 25, 26, 27, 28, 29, 30, 31, 4, 32, 33, 34, 35, 36, 37, 38, 39, 40, 41, 42, 43, 44, 45, 46, 47, 48, 49, 50] (by decide +kernel) (by decide +kernel)
set_option maxRecDepth 20000 in
theorem gX5_rightsIn_X5_held : GoodIn wsX5_rightsIn (wsV RX5 90 RX5 yX5_held wsX5_held) := goodIn_app (goodIn_of _ (by decide +kernel)) ggX5_rightsIn_X5_held
set_option maxRecDepth 20000 in
theorem ggX5_makeFile_X5_isProcess : GoodIn wsX5_makeFile wsX5_isProcess := goodIn_r _ [10, 11, 12, 13, 9, 14, 43, 44, 45, 46, 47, 48, 49, 50, 51, 52, 53, 54, 55, 56, 57, 58, 59, 60] (by decide +kernel) (by decide +kernel)
set_option maxRecDepth 20000 in
theorem gX5_makeFile_X5_isProcess : GoodIn wsX5_makeFile (wsV RX5 66 RX5 yX5_isProcess wsX5_isProcess) := goodIn_app (goodIn_of _ (by decide +kernel)) ggX5_makeFile_X5_isProcess
set_option maxRecDepth 20000 in
theorem ggX5_makeFile_X5_in : GoodIn wsX5_makeFile wsX5_in := goodIn_r _ [14] (by decide +kernel) (by decide +kernel)
set_option maxRecDepth 20000 in
theorem gX5_makeFile_X5_in : GoodIn wsX5_makeFile (va_wsS RX5 59 yX5_in wsX5_in) := goodIn_app (goodIn_of _ (by decide +kernel)) ggX5_makeFile_X5_in
set_option maxRecDepth 20000 in
theorem ggX5_makeFile_X5_refused : GoodIn wsX5_makeFile wsX5_refused := goodIn_r _ [18, 19, 43, 44, 45, 46, 47, 48, 49, 50, 51, 52, 53, 54, 55, 56, 57, 58, 59, 60] (by decide +kernel) (by decide +kernel)
set_option maxRecDepth 20000 in
theorem gX5_makeFile_X5_refused : GoodIn wsX5_makeFile (wsV RX5 70 RX5 yX5_refused wsX5_refused) := goodIn_app (goodIn_of _ (by decide +kernel)) ggX5_makeFile_X5_refused
set_option maxRecDepth 20000 in
theorem ggX5_makeFile_X5_seen : GoodIn wsX5_makeFile wsX5_seen := goodIn_r _ [23, 24, 25, 26, 9, 27, 28, 29, 30, 31, 32, 33, 34, 35, 36, 12, 13, 14, 43, 44, 45, 46, 47, 48, 49, 50, 51, 52, 53, 54, 55, 56, 57, 58, 59, 60] (by decide +kernel) (by decide +kernel)
set_option maxRecDepth 20000 in
theorem gX5_makeFile_X5_seen : GoodIn wsX5_makeFile (wsV RX5 117 RX5 yX5_seen wsX5_seen) := goodIn_app (goodIn_of _ (by decide +kernel)) ggX5_makeFile_X5_seen
set_option maxRecDepth 20000 in
theorem ggX5_makeFile_X5_told : GoodIn wsX5_makeFile wsX5_told := goodIn_r _ [40, 41, 42, 43, 44, 45, 46, 47, 48, 49, 50, 51, 52, 53, 54, 55, 56, 57, 58, 59, 60] (by decide +kernel) (by decide +kernel)
set_option maxRecDepth 20000 in
theorem gX5_makeFile_X5_told : GoodIn wsX5_makeFile (wsV RX5 107 RX5 yX5_told wsX5_told) := goodIn_app (goodIn_of _ (by decide +kernel)) ggX5_makeFile_X5_told
set_option maxRecDepth 20000 in
theorem ggX5_handOver_X5_isProcess : GoodIn wsX5_handOver wsX5_isProcess := goodIn_r _ [8, 9, 10, 11, 7, 12, 49, 50, 51, 52, 53, 54, 55, 56, 57, 58, 59, 60, 61, 62, 63, 64, 65, 66] (by decide +kernel) (by decide +kernel)
set_option maxRecDepth 20000 in
theorem gX5_handOver_X5_isProcess : GoodIn wsX5_handOver (wsV RX5 66 RX5 yX5_isProcess wsX5_isProcess) := goodIn_app (goodIn_of _ (by decide +kernel)) ggX5_handOver_X5_isProcess
set_option maxRecDepth 20000 in
theorem ggX5_handOver_X5_isFile : GoodIn wsX5_handOver wsX5_isFile := goodIn_r _ [16, 17, 10, 11, 7, 12, 49, 50, 51, 52, 53, 54, 55, 56, 57, 58, 59, 60, 61, 62, 63, 64, 65, 66] (by decide +kernel) (by decide +kernel)
set_option maxRecDepth 20000 in
theorem gX5_handOver_X5_isFile : GoodIn wsX5_handOver (wsV RX5 129 RX5 yX5_isFile wsX5_isFile) := goodIn_app (goodIn_of _ (by decide +kernel)) ggX5_handOver_X5_isFile
set_option maxRecDepth 20000 in
theorem ggX5_handOver_X5_isNumber : GoodIn wsX5_handOver wsX5_isNumber := goodIn_r _ [20, 10, 11, 7, 12] (by decide +kernel) (by decide +kernel)
set_option maxRecDepth 20000 in
theorem gX5_handOver_X5_isNumber : GoodIn wsX5_handOver (va_wsS RX5 73 yX5_isNumber wsX5_isNumber) := goodIn_app (goodIn_of _ (by decide +kernel)) ggX5_handOver_X5_isNumber
set_option maxRecDepth 20000 in
theorem ggX5_handOver_X5_refused : GoodIn wsX5_handOver wsX5_refused := goodIn_r _ [24, 25, 49, 50, 51, 52, 53, 54, 55, 56, 57, 58, 59, 60, 61, 62, 63, 64, 65, 66] (by decide +kernel) (by decide +kernel)
set_option maxRecDepth 20000 in
theorem gX5_handOver_X5_refused : GoodIn wsX5_handOver (wsV RX5 70 RX5 yX5_refused wsX5_refused) := goodIn_app (goodIn_of _ (by decide +kernel)) ggX5_handOver_X5_refused
set_option maxRecDepth 20000 in
theorem ggX5_handOver_X5_led : GoodIn wsX5_handOver wsX5_led := goodIn_r _ [29, 30, 31, 32, 33, 7, 34, 35, 36, 37, 38, 10, 11, 12, 49, 50, 51, 52, 53, 54, 55, 56, 57, 58, 59, 60, 61, 62, 63, 64, 65, 66] (by decide +kernel) (by decide +kernel)
set_option maxRecDepth 20000 in
theorem gX5_handOver_X5_led : GoodIn wsX5_handOver (wsV RX5 87 RX5 yX5_led wsX5_led) := goodIn_app (goodIn_of _ (by decide +kernel)) ggX5_handOver_X5_led
set_option maxRecDepth 20000 in
theorem ggX5_handOver_X5_seen : GoodIn wsX5_handOver wsX5_seen := goodIn_r _ [42, 26, 27, 28, 7, 29, 30, 31, 32, 33, 34, 35, 36, 37, 38, 10, 11, 12, 49, 50, 51, 52, 53, 54, 55, 56, 57, 58, 59, 60, 61, 62, 63, 64, 65, 66] (by decide +kernel) (by decide +kernel)
set_option maxRecDepth 20000 in
theorem gX5_handOver_X5_seen : GoodIn wsX5_handOver (wsV RX5 117 RX5 yX5_seen wsX5_seen) := goodIn_app (goodIn_of _ (by decide +kernel)) ggX5_handOver_X5_seen
set_option maxRecDepth 20000 in
theorem ggX5_handOver_X5_told : GoodIn wsX5_handOver wsX5_told := goodIn_r _ [46, 47, 48, 49, 50, 51, 52, 53, 54, 55, 56, 57, 58, 59, 60, 61, 62, 63, 64, 65, 66] (by decide +kernel) (by decide +kernel)
set_option maxRecDepth 20000 in
theorem gX5_handOver_X5_told : GoodIn wsX5_handOver (wsV RX5 107 RX5 yX5_told wsX5_told) := goodIn_app (goodIn_of _ (by decide +kernel)) ggX5_handOver_X5_told
set_option maxRecDepth 20000 in
theorem ggX5_open_X5_isProcess : GoodIn wsX5_open wsX5_isProcess := goodIn_r _ [10, 11, 12, 13, 9, 14, 48, 49, 50, 51, 52, 53, 54, 55, 56, 57, 58, 59, 60, 61, 62, 63, 64, 65] (by decide +kernel) (by decide +kernel)
set_option maxRecDepth 20000 in
theorem gX5_open_X5_isProcess : GoodIn wsX5_open (wsV RX5 66 RX5 yX5_isProcess wsX5_isProcess) := goodIn_app (goodIn_of _ (by decide +kernel)) ggX5_open_X5_isProcess
set_option maxRecDepth 20000 in
theorem ggX5_open_X5_isFile : GoodIn wsX5_open wsX5_isFile := goodIn_r _ [18, 19, 12, 13, 9, 14, 48, 49, 50, 51, 52, 53, 54, 55, 56, 57, 58, 59, 60, 61, 62, 63, 64, 65] (by decide +kernel) (by decide +kernel)
set_option maxRecDepth 20000 in
theorem gX5_open_X5_isFile : GoodIn wsX5_open (wsV RX5 129 RX5 yX5_isFile wsX5_isFile) := goodIn_app (goodIn_of _ (by decide +kernel)) ggX5_open_X5_isFile
set_option maxRecDepth 20000 in
theorem ggX5_open_X5_refused : GoodIn wsX5_open wsX5_refused := goodIn_r _ [23, 24, 48, 49, 50, 51, 52, 53, 54, 55, 56, 57, 58, 59, 60, 61, 62, 63, 64, 65] (by decide +kernel) (by decide +kernel)
set_option maxRecDepth 20000 in
theorem gX5_open_X5_refused : GoodIn wsX5_open (wsV RX5 70 RX5 yX5_refused wsX5_refused) := goodIn_app (goodIn_of _ (by decide +kernel)) ggX5_open_X5_refused
set_option maxRecDepth 20000 in
theorem ggX5_open_X5_told : GoodIn wsX5_open wsX5_told := goodIn_r _ [28, 29, 30, 48, 49, 50, 51, 52, 53, 54, 55, 56, 57, 58, 59, 60, 61, 62, 63, 64, 65] (by decide +kernel) (by decide +kernel)
set_option maxRecDepth 20000 in
theorem gX5_open_X5_told : GoodIn wsX5_open (wsV RX5 107 RX5 yX5_told wsX5_told) := goodIn_app (goodIn_of _ (by decide +kernel)) ggX5_open_X5_told
set_option maxRecDepth 20000 in
theorem ggX5_open_X5_seen : GoodIn wsX5_open wsX5_seen := goodIn_r _ [34, 35, 36, 37, 9, 38, 39, 40, 41, 42, 43, 44, 45, 46, 47, 12, 13, 14, 48, 49, 50, 51, 52, 53, 54, 55, 56, 57, 58, 59, 60, 61, 62, 63, 64, 65] (by decide +kernel) (by decide +kernel)
set_option maxRecDepth 20000 in
theorem gX5_open_X5_seen : GoodIn wsX5_open (wsV RX5 117 RX5 yX5_seen wsX5_seen) := goodIn_app (goodIn_of _ (by decide +kernel)) ggX5_open_X5_seen
set_option maxRecDepth 20000 in
theorem ggX5_ownerSeenBy_X5_isProcess : GoodIn wsX5_ownerSeenBy wsX5_isProcess := goodIn_r _ [7, 8, 9, 10, 6, 11, 39, 40, 41, 42, 43, 44, 45, 46, 47, 48, 49, 50, 51, 52, 53, 54, 55, 56] (by decide +kernel) (by decide +kernel)
set_option maxRecDepth 20000 in
theorem gX5_ownerSeenBy_X5_isProcess : GoodIn wsX5_ownerSeenBy (wsV RX5 66 RX5 yX5_isProcess wsX5_isProcess) := goodIn_app (goodIn_of _ (by decide +kernel)) ggX5_ownerSeenBy_X5_isProcess
set_option maxRecDepth 20000 in
theorem ggX5_ownerSeenBy_X5_isFile : GoodIn wsX5_ownerSeenBy wsX5_isFile := goodIn_r _ [15, 16, 9, 10, 6, 11, 39, 40, 41, 42, 43, 44, 45, 46, 47, 48, 49, 50, 51, 52, 53, 54, 55, 56] (by decide +kernel) (by decide +kernel)
set_option maxRecDepth 20000 in
theorem gX5_ownerSeenBy_X5_isFile : GoodIn wsX5_ownerSeenBy (wsV RX5 129 RX5 yX5_isFile wsX5_isFile) := goodIn_app (goodIn_of _ (by decide +kernel)) ggX5_ownerSeenBy_X5_isFile
set_option maxRecDepth 20000 in
theorem ggX5_ownerSeenBy_X5_refused : GoodIn wsX5_ownerSeenBy wsX5_refused := goodIn_r _ [20, 21, 39, 40, 41, 42, 43, 44, 45, 46, 47, 48, 49, 50, 51, 52, 53, 54, 55, 56] (by decide +kernel) (by decide +kernel)
set_option maxRecDepth 20000 in
theorem gX5_ownerSeenBy_X5_refused : GoodIn wsX5_ownerSeenBy (wsV RX5 70 RX5 yX5_refused wsX5_refused) := goodIn_app (goodIn_of _ (by decide +kernel)) ggX5_ownerSeenBy_X5_refused
set_option maxRecDepth 20000 in
theorem ggX5_ownerSeenBy_X5_seen : GoodIn wsX5_ownerSeenBy wsX5_seen := goodIn_r _ [25, 26, 27, 28, 6, 29, 30, 31, 32, 33, 34, 35, 36, 37, 38, 9, 10, 11, 39, 40, 41, 42, 43, 44, 45, 46, 47, 48, 49, 50, 51, 52, 53, 54, 55, 56] (by decide +kernel) (by decide +kernel)
set_option maxRecDepth 20000 in
theorem gX5_ownerSeenBy_X5_seen : GoodIn wsX5_ownerSeenBy (wsV RX5 117 RX5 yX5_seen wsX5_seen) := goodIn_app (goodIn_of _ (by decide +kernel)) ggX5_ownerSeenBy_X5_seen
set_option maxRecDepth 20000 in
theorem ggX5_files_X5_fine : GoodIn wsX5_files wsX5_fine := goodIn_r _ [6, 7, 8, 9, 10, 11, 12, 13, 14, 15, 16, 17, 18, 19, 20, 21, 22, 23, 24, 25] (by decide +kernel) (by decide +kernel)
set_option maxRecDepth 20000 in
theorem gX5_files_X5_fine : GoodIn wsX5_files (wsV RX5 111 RX5 yX5_fine wsX5_fine) := goodIn_app (goodIn_of _ (by decide +kernel)) ggX5_files_X5_fine
set_option maxRecDepth 20000 in
theorem ggX5_refusals_X5_fine : GoodIn wsX5_refusals wsX5_fine := goodIn_r _ [6, 7, 8, 9, 10, 11, 12, 13, 14, 15, 16, 17, 18, 19, 20, 21, 22, 23, 24, 25] (by decide +kernel) (by decide +kernel)
set_option maxRecDepth 20000 in
theorem gX5_refusals_X5_fine : GoodIn wsX5_refusals (wsV RX5 111 RX5 yX5_fine wsX5_fine) := goodIn_app (goodIn_of _ (by decide +kernel)) ggX5_refusals_X5_fine
set_option maxRecDepth 20000 in
theorem ggX5_lastRefusal_X5_fine : GoodIn wsX5_lastRefusal wsX5_fine := goodIn_r _ [6, 7, 8, 9, 10, 11, 12, 13, 14, 15, 16, 17, 18, 19, 20, 21, 22, 23, 24, 25] (by decide +kernel) (by decide +kernel)
set_option maxRecDepth 20000 in
theorem gX5_lastRefusal_X5_fine : GoodIn wsX5_lastRefusal (wsV RX5 111 RX5 yX5_fine wsX5_fine) := goodIn_app (goodIn_of _ (by decide +kernel)) ggX5_lastRefusal_X5_fine
set_option maxRecDepth 20000 in
theorem ggL_makeRoom_X4_makeRoom : GoodIn wsL_makeRoom wsX4_makeRoom := goodIn_ca (goodIn_ca (goodIn_r _ [7, 8, 9, 10, 11, 12, 13, 14, 15, 16, 17, 18, 19, 20, 6, 21, 22, 23, 24, 25, 26, 27, 28, 29, 30, 31, 32, 33, 34, 35, 36, 37, 38, 39, 40, 41, 42, 43, 44, 45, 46, 47, 48, 49, 50, 51, 52, 53, 54, 55, 56, 57] (by decide +kernel) (by decide +kernel)) (goodIn_sub (fun _ h => List.mem_cons_of_mem _ (List.mem_append_left _ (List.mem_append_right _ h))) (by decide +kernel))) (goodIn_sub (fun _ h => List.mem_cons_of_mem _ (List.mem_append_right _ h)) (by decide +kernel))
set_option maxRecDepth 20000 in
theorem gL_makeRoom_X4_makeRoom : GoodIn wsL_makeRoom (wsV RL 7 RX4 yX4_makeRoom wsX4_makeRoom) := goodIn_app (goodIn_of _ (by decide +kernel)) ggL_makeRoom_X4_makeRoom
set_option maxRecDepth 20000 in
theorem ggL_line_X4_line : GoodIn wsL_line wsX4_line := goodIn_ca (goodIn_ca (goodIn_r _ [7, 8, 9, 10, 11, 12, 13, 14, 15, 16, 17, 6, 18, 19, 20, 21, 22, 23, 24, 25, 26, 27, 28, 29, 30, 31, 32, 33, 34, 35, 36, 37, 38, 39, 40, 41, 42, 43, 44, 45] (by decide +kernel) (by decide +kernel)) (goodIn_sub (fun _ h => List.mem_cons_of_mem _ (List.mem_append_left _ (List.mem_append_right _ h))) (by decide +kernel))) (goodIn_sub (fun _ h => List.mem_cons_of_mem _ (List.mem_append_right _ h)) (by decide +kernel))
set_option maxRecDepth 20000 in
theorem gL_line_X4_line : GoodIn wsL_line (wsV RL 17 RX4 yX4_line wsX4_line) := goodIn_app (goodIn_of _ (by decide +kernel)) ggL_line_X4_line
set_option maxRecDepth 20000 in
theorem ggL_writeMap_X4_writeMap : GoodIn wsL_writeMap wsX4_writeMap := goodIn_ca (goodIn_r _ [6, 7, 8, 9, 10, 11, 12, 13, 14, 15, 16, 17, 5, 18, 19, 20, 21, 22, 23, 24, 25, 26, 27, 28, 29, 30, 31, 32, 33, 34, 35, 36, 37, 38, 39, 40, 41, 42, 43, 44, 45, 46, 47, 48, 49, 50, 51, 52, 53, 54, 55, 56, 57, 58, 59, 60, 61, 62, 63, 64, 65, 66, 67, 68, 69, 70, 71, 72, 73, 74, 75, 76, 77, 78, 79, 80, 81, 82, 83, 84, 85, 86, 87, 88, 89, 90, 91, 92, 93, 94, 95, 96, 97, 98, 99, 100, 101, 102, 103, 104, 105, 106, 107, 108, 109, 110, 111] (by decide +kernel) (by decide +kernel)) (goodIn_sub (fun _ h => List.mem_cons_of_mem _ (List.mem_append_right _ h)) (by decide +kernel))
set_option maxRecDepth 20000 in
theorem gL_writeMap_X4_writeMap : GoodIn wsL_writeMap (wsV RL 23 RX4 yX4_writeMap wsX4_writeMap) := goodIn_app (goodIn_of _ (by decide +kernel)) ggL_writeMap_X4_writeMap
set_option maxRecDepth 20000 in
theorem ggL_outerOf_X4_outerOf : GoodIn wsL_outerOf wsX4_outerOf := goodIn_ca (goodIn_r _ [6, 7, 8, 9, 10, 5, 11, 12, 13, 14, 15, 16, 17, 18, 19, 20, 21, 22, 23, 24, 25, 26, 27, 28, 29, 30, 31] (by decide +kernel) (by decide +kernel)) (goodIn_sub (fun _ h => List.mem_cons_of_mem _ (List.mem_append_right _ h)) (by decide +kernel))
set_option maxRecDepth 20000 in
theorem gL_outerOf_X4_outerOf : GoodIn wsL_outerOf (wsV RL 27 RX4 yX4_outerOf wsX4_outerOf) := goodIn_app (goodIn_of _ (by decide +kernel)) ggL_outerOf_X4_outerOf
set_option maxRecDepth 20000 in
theorem ggL_leadsTo_X4_leadsTo : GoodIn wsL_leadsTo wsX4_leadsTo := goodIn_ca (goodIn_ca (goodIn_r _ [7, 8, 9, 10, 6, 11, 12, 13, 14, 15, 16, 17, 18, 19, 20, 21, 22, 23, 24, 25, 26, 27, 28, 29, 30, 31, 32, 33, 34, 35, 36, 37, 38, 39, 40, 41, 42, 43, 44, 45, 46, 47, 48, 49, 50, 51] (by decide +kernel) (by decide +kernel)) (goodIn_sub (fun _ h => List.mem_cons_of_mem _ (List.mem_append_left _ (List.mem_append_right _ h))) (by decide +kernel))) (goodIn_sub (fun _ h => List.mem_cons_of_mem _ (List.mem_append_right _ h)) (by decide +kernel))
set_option maxRecDepth 20000 in
theorem gL_leadsTo_X4_leadsTo : GoodIn wsL_leadsTo (wsV RL 30 RX4 yX4_leadsTo wsX4_leadsTo) := goodIn_app (goodIn_of _ (by decide +kernel)) ggL_leadsTo_X4_leadsTo
set_option maxRecDepth 20000 in
theorem ggL_seenAs_X4_seenAs : GoodIn wsL_seenAs wsX4_seenAs := goodIn_ca (goodIn_ca (goodIn_r _ [7, 8, 9, 10, 6, 11, 12, 13, 14, 15, 16, 17, 18, 19, 20, 21, 22, 23, 24, 25, 26, 27, 28, 29, 30, 31, 32, 33, 34, 35, 36, 37, 38, 39, 40, 41, 42, 43, 44, 45, 46, 47, 48, 49, 50, 51, 52, 53, 54, 55] (by decide +kernel) (by decide +kernel)) (goodIn_sub (fun _ h => List.mem_cons_of_mem _ (List.mem_append_left _ (List.mem_append_right _ h))) (by decide +kernel))) (goodIn_sub (fun _ h => List.mem_cons_of_mem _ (List.mem_append_right _ h)) (by decide +kernel))
set_option maxRecDepth 20000 in
theorem gL_seenAs_X4_seenAs : GoodIn wsL_seenAs (wsV RL 33 RX4 yX4_seenAs wsX4_seenAs) := goodIn_app (goodIn_of _ (by decide +kernel)) ggL_seenAs_X4_seenAs
set_option maxRecDepth 20000 in
theorem ggL_seenByLeading_X4_seenByLeading : GoodIn wsL_seenByLeading wsX4_seenByLeading := goodIn_ca (goodIn_ca (goodIn_r _ [7, 8, 9, 10, 6, 11, 12, 13, 14, 15, 16, 17, 18, 19, 20, 21, 22, 23, 24, 25, 26, 27, 28, 29, 30, 31, 32, 33, 34, 35, 36, 37, 38, 39, 40, 41, 42, 43, 44, 45, 46, 47, 48, 49, 50, 51] (by decide +kernel) (by decide +kernel)) (goodIn_sub (fun _ h => List.mem_cons_of_mem _ (List.mem_append_left _ (List.mem_append_right _ h))) (by decide +kernel))) (goodIn_sub (fun _ h => List.mem_cons_of_mem _ (List.mem_append_right _ h)) (by decide +kernel))
set_option maxRecDepth 20000 in
theorem gL_seenByLeading_X4_seenByLeading : GoodIn wsL_seenByLeading (wsV RL 36 RX4 yX4_seenByLeading wsX4_seenByLeading) := goodIn_app (goodIn_of _ (by decide +kernel)) ggL_seenByLeading_X4_seenByLeading
set_option maxRecDepth 20000 in
theorem ggL_fork_X4_fork : GoodIn wsL_fork wsX4_fork := goodIn_ca (goodIn_ca (goodIn_r _ [7, 8, 9, 10, 11, 12, 13, 14, 15, 16, 17, 18, 19, 20, 6, 21, 22, 23, 24, 25, 26, 27, 28, 29, 30, 31, 32, 33, 34, 35, 36, 37, 38, 39, 40, 41, 42, 43, 44] (by decide +kernel) (by decide +kernel)) (goodIn_sub (fun _ h => List.mem_cons_of_mem _ (List.mem_append_left _ (List.mem_append_right _ h))) (by decide +kernel))) (goodIn_sub (fun _ h => List.mem_cons_of_mem _ (List.mem_append_right _ h)) (by decide +kernel))
set_option maxRecDepth 20000 in
theorem gL_fork_X4_fork : GoodIn wsL_fork (wsV RL 39 RX4 yX4_fork wsX4_fork) := goodIn_app (goodIn_of _ (by decide +kernel)) ggL_fork_X4_fork
set_option maxRecDepth 20000 in
theorem ggL_drop_X4_drop : GoodIn wsL_drop wsX4_drop := goodIn_ca (goodIn_ca (goodIn_r _ [7, 8, 9, 10, 11, 12, 13, 6, 14, 15, 16, 17, 18, 19, 20, 21, 22, 23, 24, 25, 26, 27, 28, 29] (by decide +kernel) (by decide +kernel)) (goodIn_sub (fun _ h => List.mem_cons_of_mem _ (List.mem_append_left _ (List.mem_append_right _ h))) (by decide +kernel))) (goodIn_sub (fun _ h => List.mem_cons_of_mem _ (List.mem_append_right _ h)) (by decide +kernel))
set_option maxRecDepth 20000 in
theorem gL_drop_X4_drop : GoodIn wsL_drop (wsV RL 42 RX4 yX4_drop wsX4_drop) := goodIn_app (goodIn_of _ (by decide +kernel)) ggL_drop_X4_drop
set_option maxRecDepth 20000 in
theorem ggL_enter_X4_enter : GoodIn wsL_enter wsX4_enter := goodIn_ca (goodIn_r _ [6, 7, 8, 9, 10, 11, 12, 5, 13, 14, 15, 16, 17, 18, 19, 20, 21, 22, 23, 24, 25, 26, 27, 28, 29, 30, 31, 32, 33, 34, 35, 36, 37, 38, 39, 40, 41, 42, 43, 44, 45, 46, 47, 48, 49, 50, 51, 52, 53, 54, 55, 56, 57, 58, 59, 60, 61, 62, 63, 64, 65, 66, 67, 68] (by decide +kernel) (by decide +kernel)) (goodIn_sub (fun _ h => List.mem_cons_of_mem _ (List.mem_append_right _ h)) (by decide +kernel))
set_option maxRecDepth 20000 in
theorem gL_enter_X4_enter : GoodIn wsL_enter (wsV RL 45 RX4 yX4_enter wsX4_enter) := goodIn_app (goodIn_of _ (by decide +kernel)) ggL_enter_X4_enter
set_option maxRecDepth 20000 in
theorem ggL_setNumber_X4_setNumber : GoodIn wsL_setNumber wsX4_setNumber := goodIn_ca (goodIn_ca (goodIn_r _ [7, 8, 9, 10, 11, 12, 13, 6, 14, 15, 16, 17, 18, 19, 20, 21, 22, 23, 24, 25, 26, 27, 28, 29, 30, 31, 32, 33, 34, 35, 36, 37, 38, 39, 40, 41, 42, 43, 44, 45, 46, 47, 48, 49, 50, 51, 52, 53, 54, 55, 56, 57, 58, 59, 60, 61, 62, 63, 64, 65, 66, 67, 68, 69, 70, 71, 72, 73, 74, 75, 76, 77, 78, 79, 80, 81, 82, 83, 84, 85, 86, 87, 88, 89, 90, 91, 92, 93] (by decide +kernel) (by decide +kernel)) (goodIn_sub (fun _ h => List.mem_cons_of_mem _ (List.mem_append_left _ (List.mem_append_right _ h))) (by decide +kernel))) (goodIn_sub (fun _ h => List.mem_cons_of_mem _ (List.mem_append_right _ h)) (by decide +kernel))
set_option maxRecDepth 20000 in
theorem gL_setNumber_X4_setNumber : GoodIn wsL_setNumber (wsV RL 48 RX4 yX4_setNumber wsX4_setNumber) := goodIn_app (goodIn_of _ (by decide +kernel)) ggL_setNumber_X4_setNumber
set_option maxRecDepth 20000 in
theorem ggL_roomOf_X4_roomOf : GoodIn wsL_roomOf wsX4_roomOf := goodIn_ca (goodIn_r _ [6, 7, 8, 9, 10, 5, 11, 12, 13, 14, 15, 16, 17, 18, 19, 20, 21, 22, 23, 24, 25, 26, 27, 28, 29, 30, 31, 32, 33, 34] (by decide +kernel) (by decide +kernel)) (goodIn_sub (fun _ h => List.mem_cons_of_mem _ (List.mem_append_right _ h)) (by decide +kernel))
set_option maxRecDepth 20000 in
theorem gL_roomOf_X4_roomOf : GoodIn wsL_roomOf (wsV RL 51 RX4 yX4_roomOf wsX4_roomOf) := goodIn_app (goodIn_of _ (by decide +kernel)) ggL_roomOf_X4_roomOf
set_option maxRecDepth 20000 in
theorem ggL_numberOf_X4_numberOf : GoodIn wsL_numberOf wsX4_numberOf := goodIn_ca (goodIn_r _ [6, 7, 8, 9, 10, 5, 11, 12, 13, 14, 15, 16, 17, 18, 19, 20, 21, 22, 23, 24, 25, 26] (by decide +kernel) (by decide +kernel)) (goodIn_sub (fun _ h => List.mem_cons_of_mem _ (List.mem_append_right _ h)) (by decide +kernel))
set_option maxRecDepth 20000 in
theorem gL_numberOf_X4_numberOf : GoodIn wsL_numberOf (wsV RL 54 RX4 yX4_numberOf wsX4_numberOf) := goodIn_app (goodIn_of _ (by decide +kernel)) ggL_numberOf_X4_numberOf
set_option maxRecDepth 20000 in
theorem ggL_rightsIn_X4_rightsIn : GoodIn wsL_rightsIn wsX4_rightsIn := goodIn_ca (goodIn_r _ [6, 7, 8, 9, 5, 10, 11, 12, 13, 14, 15, 16, 17, 18, 19, 20, 21, 22, 23, 24, 25, 26, 27, 28, 29, 30, 31, 32, 33, 34, 35, 36, 37, 38, 39, 40, 41, 42, 43, 44, 45, 46, 47, 48, 49, 50, 51] (by decide +kernel) (by decide +kernel)) (goodIn_sub (fun _ h => List.mem_cons_of_mem _ (List.mem_append_right _ h)) (by decide +kernel))
set_option maxRecDepth 20000 in
theorem gL_rightsIn_X4_rightsIn : GoodIn wsL_rightsIn (wsV RL 57 RX4 yX4_rightsIn wsX4_rightsIn) := goodIn_app (goodIn_of _ (by decide +kernel)) ggL_rightsIn_X4_rightsIn
set_option maxRecDepth 20000 in
theorem ggL_makeFile_X4_makeFile : GoodIn wsL_makeFile wsX4_makeFile := goodIn_ca (goodIn_ca (goodIn_ca (goodIn_r _ [8, 9, 10, 11, 12, 13, 14, 15, 16, 17, 18, 19, 20, 21, 22, 7, 23, 24, 25, 26, 27, 28, 29, 30, 31, 32, 33, 34, 35, 36, 37, 38, 39, 40, 41, 42, 43, 44, 45, 46, 47, 48, 49, 50, 51, 52, 53, 54, 55, 56, 57, 58, 59, 60, 61, 62, 63, 64, 65, 66, 67, 68, 69, 70, 71, 72, 73, 74, 75, 76, 77, 78, 79, 80, 81, 82] (by decide +kernel) (by decide +kernel)) (goodIn_sub (fun _ h => List.mem_cons_of_mem _ (List.mem_append_left _ (List.mem_append_left _ (List.mem_append_right _ h)))) (by decide +kernel))) (goodIn_sub (fun _ h => List.mem_cons_of_mem _ (List.mem_append_left _ (List.mem_append_right _ h))) (by decide +kernel))) (goodIn_sub (fun _ h => List.mem_cons_of_mem _ (List.mem_append_right _ h)) (by decide +kernel))
set_option maxRecDepth 20000 in
theorem gL_makeFile_X4_makeFile : GoodIn wsL_makeFile (wsV RL 60 RX4 yX4_makeFile wsX4_makeFile) := goodIn_app (goodIn_of _ (by decide +kernel)) ggL_makeFile_X4_makeFile
set_option maxRecDepth 20000 in
theorem ggL_handOver_X4_handOver : GoodIn wsL_handOver wsX4_handOver := goodIn_ca (goodIn_ca (goodIn_r _ [7, 8, 9, 10, 11, 12, 6, 13, 14, 15, 16, 17, 18, 19, 20, 21, 22, 23, 24, 25, 26, 27, 28, 29, 30, 31, 32, 33, 34, 35, 36, 37, 38, 39, 40, 41, 42, 43, 44, 45, 46, 47, 48, 49, 50, 51, 52, 53, 54, 55, 56, 57, 58, 59, 60, 61, 62, 63, 64, 65, 66, 67, 68, 69, 70, 71, 72, 73, 74, 75, 76, 77, 78, 79, 80, 81, 82, 83, 84, 85, 86, 87, 88, 89, 90, 91, 92, 93, 94, 95, 96, 97, 98, 99] (by decide +kernel) (by decide +kernel)) (goodIn_sub (fun _ h => List.mem_cons_of_mem _ (List.mem_append_left _ (List.mem_append_right _ h))) (by decide +kernel))) (goodIn_sub (fun _ h => List.mem_cons_of_mem _ (List.mem_append_right _ h)) (by decide +kernel))
set_option maxRecDepth 20000 in
theorem gL_handOver_X4_handOver : GoodIn wsL_handOver (wsV RL 63 RX4 yX4_handOver wsX4_handOver) := goodIn_app (goodIn_of _ (by decide +kernel)) ggL_handOver_X4_handOver
set_option maxRecDepth 20000 in
theorem ggL_open_X4_open : GoodIn wsL_open wsX4_open := goodIn_ca (goodIn_r _ [6, 7, 8, 9, 10, 11, 12, 5, 13, 14, 15, 16, 17, 18, 19, 20, 21, 22, 23, 24, 25, 26, 27, 28, 29, 30, 31, 32, 33, 34, 35, 36, 37, 38, 39, 40, 41, 42, 43, 44, 45, 46, 47, 48, 49, 50, 51, 52, 53, 54, 55, 56, 57, 58, 59, 60, 61, 62, 63, 64, 65, 66, 67, 68, 69, 70, 71, 72, 73, 74, 75, 76, 77, 78, 79, 80, 81, 82, 83, 84, 85, 86, 87, 88, 89, 90, 91, 92, 93, 94] (by decide +kernel) (by decide +kernel)) (goodIn_sub (fun _ h => List.mem_cons_of_mem _ (List.mem_append_right _ h)) (by decide +kernel))
set_option maxRecDepth 20000 in
theorem gL_open_X4_open : GoodIn wsL_open (wsV RL 66 RX4 yX4_open wsX4_open) := goodIn_app (goodIn_of _ (by decide +kernel)) ggL_open_X4_open
set_option maxRecDepth 20000 in
theorem ggL_ownerSeenBy_X4_ownerSeenBy : GoodIn wsL_ownerSeenBy wsX4_ownerSeenBy := goodIn_ca (goodIn_r _ [6, 7, 8, 9, 10, 11, 5, 12, 13, 14, 15, 16, 17, 18, 19, 20, 21, 22, 23, 24, 25, 26, 27, 28, 29, 30, 31, 32, 33, 34, 35, 36, 37, 38, 39, 40, 41, 42, 43, 44, 45, 46, 47, 48, 49, 50, 51, 52, 53, 54, 55, 56, 57, 58, 59, 60, 61, 62] (by decide +kernel) (by decide +kernel)) (goodIn_sub (fun _ h => List.mem_cons_of_mem _ (List.mem_append_right _ h)) (by decide +kernel))
set_option maxRecDepth 20000 in
theorem gL_ownerSeenBy_X4_ownerSeenBy : GoodIn wsL_ownerSeenBy (wsV RL 70 RX4 yX4_ownerSeenBy wsX4_ownerSeenBy) := goodIn_app (goodIn_of _ (by decide +kernel)) ggL_ownerSeenBy_X4_ownerSeenBy
