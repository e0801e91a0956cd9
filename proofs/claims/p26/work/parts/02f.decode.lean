theorem dX0_init_0 : decode cX0_init 0 = .ok (.aload_n 0, 1) := by decide +kernel
theorem dX0_init_1 : decode cX0_init 1 = .ok (.invokespecial 3, 3) := by decide +kernel
theorem dX0_init_4 : decode cX0_init 4 = .ok (.aload_n 0, 1) := by decide +kernel
theorem dX0_init_5 : decode cX0_init 5 = .ok (.iload_n 1, 1) := by decide +kernel
theorem dX0_init_6 : decode cX0_init 6 = .ok (.putfield 9, 3) := by decide +kernel
theorem dX0_init_9 : decode cX0_init 9 = .ok (.aload_n 0, 1) := by decide +kernel
theorem dX0_init_10 : decode cX0_init 10 = .ok (.iload_n 2, 1) := by decide +kernel
theorem dX0_init_11 : decode cX0_init 11 = .ok (.putfield 15, 3) := by decide +kernel
theorem dX0_init_14 : decode cX0_init 14 = .ok (.return_, 1) := by decide +kernel
theorem dX0_allows_0 : decode cX0_allows 0 = .ok (.iload_n 2, 1) := by decide +kernel
theorem dX0_allows_1 : decode cX0_allows 1 = .ok (.ifCond .eq 7, 3) := by decide +kernel
theorem dX0_allows_4 : decode cX0_allows 4 = .ok (.iconst 2, 1) := by decide +kernel
theorem dX0_allows_5 : decode cX0_allows 5 = .ok (.goto 4, 3) := by decide +kernel
theorem dX0_allows_8 : decode cX0_allows 8 = .ok (.iconst 1, 1) := by decide +kernel
theorem dX0_allows_9 : decode cX0_allows 9 = .ok (.istore_n 3, 1) := by decide +kernel
theorem dX0_allows_10 : decode cX0_allows 10 = .ok (.iload_n 2, 1) := by decide +kernel
theorem dX0_allows_11 : decode cX0_allows 11 = .ok (.ifCond .eq 8, 3) := by decide +kernel
theorem dX0_allows_14 : decode cX0_allows 14 = .ok (.bipush 8, 2) := by decide +kernel
theorem dX0_allows_16 : decode cX0_allows 16 = .ok (.goto 4, 3) := by decide +kernel
theorem dX0_allows_19 : decode cX0_allows 19 = .ok (.iconst 4, 1) := by decide +kernel
theorem dX0_allows_20 : decode cX0_allows 20 = .ok (.istore 4, 2) := by decide +kernel
theorem dX0_allows_22 : decode cX0_allows 22 = .ok (.aload_n 0, 1) := by decide +kernel
theorem dX0_allows_23 : decode cX0_allows 23 = .ok (.getfield 15, 3) := by decide +kernel
theorem dX0_allows_26 : decode cX0_allows 26 = .ok (.iload_n 1, 1) := by decide +kernel
theorem dX0_allows_27 : decode cX0_allows 27 = .ok (.aload_n 0, 1) := by decide +kernel
theorem dX0_allows_28 : decode cX0_allows 28 = .ok (.getfield 9, 3) := by decide +kernel
theorem dX0_allows_31 : decode cX0_allows 31 = .ok (.if_icmp .ne 7, 3) := by decide +kernel
theorem dX0_allows_34 : decode cX0_allows 34 = .ok (.iload_n 3, 1) := by decide +kernel
theorem dX0_allows_35 : decode cX0_allows 35 = .ok (.goto 5, 3) := by decide +kernel
theorem dX0_allows_38 : decode cX0_allows 38 = .ok (.iload 4, 2) := by decide +kernel
theorem dX0_allows_40 : decode cX0_allows 40 = .ok (.iand, 1) := by decide +kernel
theorem dX0_allows_41 : decode cX0_allows 41 = .ok (.ifCond .eq 7, 3) := by decide +kernel
theorem dX0_allows_44 : decode cX0_allows 44 = .ok (.iconst 1, 1) := by decide +kernel
theorem dX0_allows_45 : decode cX0_allows 45 = .ok (.goto 4, 3) := by decide +kernel
theorem dX0_allows_48 : decode cX0_allows 48 = .ok (.iconst 0, 1) := by decide +kernel
theorem dX0_allows_49 : decode cX0_allows 49 = .ok (.ireturn, 1) := by decide +kernel
theorem dX1_init_0 : decode cX1_init 0 = .ok (.aload_n 0, 1) := by decide +kernel
theorem dX1_init_1 : decode cX1_init 1 = .ok (.invokespecial 3, 3) := by decide +kernel
theorem dX1_init_4 : decode cX1_init 4 = .ok (.aload_n 0, 1) := by decide +kernel
theorem dX1_init_5 : decode cX1_init 5 = .ok (.aload_n 1, 1) := by decide +kernel
theorem dX1_init_6 : decode cX1_init 6 = .ok (.putfield 9, 3) := by decide +kernel
theorem dX1_init_9 : decode cX1_init 9 = .ok (.aload_n 0, 1) := by decide +kernel
theorem dX1_init_10 : decode cX1_init 10 = .ok (.iload_n 2, 1) := by decide +kernel
theorem dX1_init_11 : decode cX1_init 11 = .ok (.putfield 15, 3) := by decide +kernel
theorem dX1_init_14 : decode cX1_init 14 = .ok (.aload_n 0, 1) := by decide +kernel
theorem dX1_init_15 : decode cX1_init 15 = .ok (.iload_n 3, 1) := by decide +kernel
theorem dX1_init_16 : decode cX1_init 16 = .ok (.putfield 19, 3) := by decide +kernel
theorem dX1_init_19 : decode cX1_init 19 = .ok (.return_, 1) := by decide +kernel
theorem dX1_moveInto_0 : decode cX1_moveInto 0 = .ok (.aload_n 0, 1) := by decide +kernel
theorem dX1_moveInto_1 : decode cX1_moveInto 1 = .ok (.aload_n 1, 1) := by decide +kernel
theorem dX1_moveInto_2 : decode cX1_moveInto 2 = .ok (.putfield 9, 3) := by decide +kernel
theorem dX1_moveInto_5 : decode cX1_moveInto 5 = .ok (.aload_n 0, 1) := by decide +kernel
theorem dX1_moveInto_6 : decode cX1_moveInto 6 = .ok (.bipush 15, 2) := by decide +kernel
theorem dX1_moveInto_8 : decode cX1_moveInto 8 = .ok (.putfield 19, 3) := by decide +kernel
theorem dX1_moveInto_11 : decode cX1_moveInto 11 = .ok (.return_, 1) := by decide +kernel
theorem dX1_rightsHeldIn_0 : decode cX1_rightsHeldIn 0 = .ok (.aload_n 0, 1) := by decide +kernel
theorem dX1_rightsHeldIn_1 : decode cX1_rightsHeldIn 1 = .ok (.aload_n 1, 1) := by decide +kernel
theorem dX1_rightsHeldIn_2 : decode cX1_rightsHeldIn 2 = .ok (.invokevirtual 22, 3) := by decide +kernel
theorem dX1_rightsHeldIn_5 : decode cX1_rightsHeldIn 5 = .ok (.ifCond .eq 6, 3) := by decide +kernel
theorem dX1_rightsHeldIn_8 : decode cX1_rightsHeldIn 8 = .ok (.bipush 15, 2) := by decide +kernel
theorem dX1_rightsHeldIn_10 : decode cX1_rightsHeldIn 10 = .ok (.ireturn, 1) := by decide +kernel
theorem dX1_rightsHeldIn_11 : decode cX1_rightsHeldIn 11 = .ok (.aload_n 1, 1) := by decide +kernel
theorem dX1_rightsHeldIn_12 : decode cX1_rightsHeldIn 12 = .ok (.aload_n 0, 1) := by decide +kernel
theorem dX1_rightsHeldIn_13 : decode cX1_rightsHeldIn 13 = .ok (.getfield 9, 3) := by decide +kernel
theorem dX1_rightsHeldIn_16 : decode cX1_rightsHeldIn 16 = .ok (.invokestatic 26, 3) := by decide +kernel
theorem dX1_rightsHeldIn_19 : decode cX1_rightsHeldIn 19 = .ok (.ifCond .eq 10, 3) := by decide +kernel
theorem dX1_rightsHeldIn_22 : decode cX1_rightsHeldIn 22 = .ok (.aload_n 0, 1) := by decide +kernel
theorem dX1_rightsHeldIn_23 : decode cX1_rightsHeldIn 23 = .ok (.getfield 19, 3) := by decide +kernel
theorem dX1_rightsHeldIn_26 : decode cX1_rightsHeldIn 26 = .ok (.goto 4, 3) := by decide +kernel
theorem dX1_rightsHeldIn_29 : decode cX1_rightsHeldIn 29 = .ok (.iconst 0, 1) := by decide +kernel
theorem dX1_rightsHeldIn_30 : decode cX1_rightsHeldIn 30 = .ok (.ireturn, 1) := by decide +kernel
theorem dX1_hasRight_0 : decode cX1_hasRight 0 = .ok (.aload_n 0, 1) := by decide +kernel
theorem dX1_hasRight_1 : decode cX1_hasRight 1 = .ok (.aload_n 2, 1) := by decide +kernel
theorem dX1_hasRight_2 : decode cX1_hasRight 2 = .ok (.invokevirtual 30, 3) := by decide +kernel
theorem dX1_hasRight_5 : decode cX1_hasRight 5 = .ok (.iload_n 1, 1) := by decide +kernel
theorem dX1_hasRight_6 : decode cX1_hasRight 6 = .ok (.iand, 1) := by decide +kernel
theorem dX1_hasRight_7 : decode cX1_hasRight 7 = .ok (.ifCond .eq 7, 3) := by decide +kernel
theorem dX1_hasRight_10 : decode cX1_hasRight 10 = .ok (.iconst 1, 1) := by decide +kernel
theorem dX1_hasRight_11 : decode cX1_hasRight 11 = .ok (.goto 4, 3) := by decide +kernel
theorem dX1_hasRight_14 : decode cX1_hasRight 14 = .ok (.iconst 0, 1) := by decide +kernel
theorem dX1_hasRight_15 : decode cX1_hasRight 15 = .ok (.ireturn, 1) := by decide +kernel
theorem dX1_ownsRoomAround_0 : decode cX1_ownsRoomAround 0 = .ok (.aload_n 1, 1) := by decide +kernel
theorem dX1_ownsRoomAround_1 : decode cX1_ownsRoomAround 1 = .ok (.astore_n 2, 1) := by decide +kernel
theorem dX1_ownsRoomAround_2 : decode cX1_ownsRoomAround 2 = .ok (.aload_n 2, 1) := by decide +kernel
theorem dX1_ownsRoomAround_3 : decode cX1_ownsRoomAround 3 = .ok (.ifnull 35, 3) := by decide +kernel
theorem dX1_ownsRoomAround_6 : decode cX1_ownsRoomAround 6 = .ok (.aload_n 2, 1) := by decide +kernel
theorem dX1_ownsRoomAround_7 : decode cX1_ownsRoomAround 7 = .ok (.getfield 34, 3) := by decide +kernel
theorem dX1_ownsRoomAround_10 : decode cX1_ownsRoomAround 10 = .ok (.aload_n 0, 1) := by decide +kernel
theorem dX1_ownsRoomAround_11 : decode cX1_ownsRoomAround 11 = .ok (.getfield 9, 3) := by decide +kernel
theorem dX1_ownsRoomAround_14 : decode cX1_ownsRoomAround 14 = .ok (.if_acmp .ne 16, 3) := by decide +kernel
theorem dX1_ownsRoomAround_17 : decode cX1_ownsRoomAround 17 = .ok (.aload_n 2, 1) := by decide +kernel
theorem dX1_ownsRoomAround_18 : decode cX1_ownsRoomAround 18 = .ok (.getfield 39, 3) := by decide +kernel
theorem dX1_ownsRoomAround_21 : decode cX1_ownsRoomAround 21 = .ok (.aload_n 0, 1) := by decide +kernel
theorem dX1_ownsRoomAround_22 : decode cX1_ownsRoomAround 22 = .ok (.getfield 15, 3) := by decide +kernel
theorem dX1_ownsRoomAround_25 : decode cX1_ownsRoomAround 25 = .ok (.if_icmp .ne 5, 3) := by decide +kernel
theorem dX1_ownsRoomAround_28 : decode cX1_ownsRoomAround 28 = .ok (.iconst 1, 1) := by decide +kernel
theorem dX1_ownsRoomAround_29 : decode cX1_ownsRoomAround 29 = .ok (.ireturn, 1) := by decide +kernel
theorem dX1_ownsRoomAround_30 : decode cX1_ownsRoomAround 30 = .ok (.aload_n 2, 1) := by decide +kernel
theorem dX1_ownsRoomAround_31 : decode cX1_ownsRoomAround 31 = .ok (.getfield 34, 3) := by decide +kernel
theorem dX1_ownsRoomAround_34 : decode cX1_ownsRoomAround 34 = .ok (.astore_n 2, 1) := by decide +kernel
theorem dX1_ownsRoomAround_35 : decode cX1_ownsRoomAround 35 = .ok (.goto (-33), 3) := by decide +kernel
theorem dX1_ownsRoomAround_38 : decode cX1_ownsRoomAround 38 = .ok (.iconst 0, 1) := by decide +kernel
theorem dX1_ownsRoomAround_39 : decode cX1_ownsRoomAround 39 = .ok (.ireturn, 1) := by decide +kernel
theorem dX2_init_0 : decode cX2_init 0 = .ok (.aload_n 0, 1) := by decide +kernel
theorem dX2_init_1 : decode cX2_init 1 = .ok (.invokespecial 1, 3) := by decide +kernel
theorem dX2_init_4 : decode cX2_init 4 = .ok (.aload_n 0, 1) := by decide +kernel
theorem dX2_init_5 : decode cX2_init 5 = .ok (.iload_n 1, 1) := by decide +kernel
theorem dX2_init_6 : decode cX2_init 6 = .ok (.putfield 7, 3) := by decide +kernel
theorem dX2_init_9 : decode cX2_init 9 = .ok (.aload_n 0, 1) := by decide +kernel
theorem dX2_init_10 : decode cX2_init 10 = .ok (.iload_n 2, 1) := by decide +kernel
theorem dX2_init_11 : decode cX2_init 11 = .ok (.putfield 13, 3) := by decide +kernel
theorem dX2_init_14 : decode cX2_init 14 = .ok (.aload_n 0, 1) := by decide +kernel
theorem dX2_init_15 : decode cX2_init 15 = .ok (.iload_n 3, 1) := by decide +kernel
theorem dX2_init_16 : decode cX2_init 16 = .ok (.putfield 16, 3) := by decide +kernel
theorem dX2_init_19 : decode cX2_init 19 = .ok (.aload_n 0, 1) := by decide +kernel
theorem dX2_init_20 : decode cX2_init 20 = .ok (.aload 4, 2) := by decide +kernel
theorem dX2_init_22 : decode cX2_init 22 = .ok (.putfield 19, 3) := by decide +kernel
theorem dX2_init_25 : decode cX2_init 25 = .ok (.return_, 1) := by decide +kernel
theorem dX2_isOfOneNumber_0 : decode cX2_isOfOneNumber 0 = .ok (.aload_n 0, 1) := by decide +kernel
theorem dX2_isOfOneNumber_1 : decode cX2_isOfOneNumber 1 = .ok (.getfield 19, 3) := by decide +kernel
theorem dX2_isOfOneNumber_4 : decode cX2_isOfOneNumber 4 = .ok (.ifnonnull 15, 3) := by decide +kernel
theorem dX2_isOfOneNumber_7 : decode cX2_isOfOneNumber 7 = .ok (.aload_n 0, 1) := by decide +kernel
theorem dX2_isOfOneNumber_8 : decode cX2_isOfOneNumber 8 = .ok (.getfield 16, 3) := by decide +kernel
theorem dX2_isOfOneNumber_11 : decode cX2_isOfOneNumber 11 = .ok (.iconst 1, 1) := by decide +kernel
theorem dX2_isOfOneNumber_12 : decode cX2_isOfOneNumber 12 = .ok (.if_icmp .ne 7, 3) := by decide +kernel
theorem dX2_isOfOneNumber_15 : decode cX2_isOfOneNumber 15 = .ok (.iconst 1, 1) := by decide +kernel
theorem dX2_isOfOneNumber_16 : decode cX2_isOfOneNumber 16 = .ok (.goto 4, 3) := by decide +kernel
theorem dX2_isOfOneNumber_19 : decode cX2_isOfOneNumber 19 = .ok (.iconst 0, 1) := by decide +kernel
theorem dX2_isOfOneNumber_20 : decode cX2_isOfOneNumber 20 = .ok (.ireturn, 1) := by decide +kernel
theorem dX2_meets_0 : decode cX2_meets 0 = .ok (.aload_n 0, 1) := by decide +kernel
theorem dX2_meets_1 : decode cX2_meets 1 = .ok (.getfield 7, 3) := by decide +kernel
theorem dX2_meets_4 : decode cX2_meets 4 = .ok (.aload_n 0, 1) := by decide +kernel
theorem dX2_meets_5 : decode cX2_meets 5 = .ok (.getfield 16, 3) := by decide +kernel
theorem dX2_meets_8 : decode cX2_meets 8 = .ok (.aload_n 1, 1) := by decide +kernel
theorem dX2_meets_9 : decode cX2_meets 9 = .ok (.getfield 7, 3) := by decide +kernel
theorem dX2_meets_12 : decode cX2_meets 12 = .ok (.aload_n 1, 1) := by decide +kernel
theorem dX2_meets_13 : decode cX2_meets 13 = .ok (.getfield 16, 3) := by decide +kernel
theorem dX2_meets_16 : decode cX2_meets 16 = .ok (.invokestatic 23, 3) := by decide +kernel
theorem dX2_meets_19 : decode cX2_meets 19 = .ok (.ifCond .ne 25, 3) := by decide +kernel
theorem dX2_meets_22 : decode cX2_meets 22 = .ok (.aload_n 0, 1) := by decide +kernel
theorem dX2_meets_23 : decode cX2_meets 23 = .ok (.getfield 13, 3) := by decide +kernel
theorem dX2_meets_26 : decode cX2_meets 26 = .ok (.aload_n 0, 1) := by decide +kernel
theorem dX2_meets_27 : decode cX2_meets 27 = .ok (.getfield 16, 3) := by decide +kernel
theorem dX2_meets_30 : decode cX2_meets 30 = .ok (.aload_n 1, 1) := by decide +kernel
theorem dX2_meets_31 : decode cX2_meets 31 = .ok (.getfield 13, 3) := by decide +kernel
theorem dX2_meets_34 : decode cX2_meets 34 = .ok (.aload_n 1, 1) := by decide +kernel
theorem dX2_meets_35 : decode cX2_meets 35 = .ok (.getfield 16, 3) := by decide +kernel
theorem dX2_meets_38 : decode cX2_meets 38 = .ok (.invokestatic 23, 3) := by decide +kernel
theorem dX2_meets_41 : decode cX2_meets 41 = .ok (.ifCond .eq 7, 3) := by decide +kernel
theorem dX2_meets_44 : decode cX2_meets 44 = .ok (.iconst 1, 1) := by decide +kernel
theorem dX2_meets_45 : decode cX2_meets 45 = .ok (.goto 4, 3) := by decide +kernel
theorem dX2_meets_48 : decode cX2_meets 48 = .ok (.iconst 0, 1) := by decide +kernel
theorem dX2_meets_49 : decode cX2_meets 49 = .ok (.ireturn, 1) := by decide +kernel
theorem dX2_rangesMeet_0 : decode cX2_rangesMeet 0 = .ok (.iload_n 0, 1) := by decide +kernel
theorem dX2_rangesMeet_1 : decode cX2_rangesMeet 1 = .ok (.iload_n 2, 1) := by decide +kernel
theorem dX2_rangesMeet_2 : decode cX2_rangesMeet 2 = .ok (.iload_n 3, 1) := by decide +kernel
theorem dX2_rangesMeet_3 : decode cX2_rangesMeet 3 = .ok (.iadd, 1) := by decide +kernel
theorem dX2_rangesMeet_4 : decode cX2_rangesMeet 4 = .ok (.if_icmp .ge 14, 3) := by decide +kernel
theorem dX2_rangesMeet_7 : decode cX2_rangesMeet 7 = .ok (.iload_n 2, 1) := by decide +kernel
theorem dX2_rangesMeet_8 : decode cX2_rangesMeet 8 = .ok (.iload_n 0, 1) := by decide +kernel
theorem dX2_rangesMeet_9 : decode cX2_rangesMeet 9 = .ok (.iload_n 1, 1) := by decide +kernel
theorem dX2_rangesMeet_10 : decode cX2_rangesMeet 10 = .ok (.iadd, 1) := by decide +kernel
theorem dX2_rangesMeet_11 : decode cX2_rangesMeet 11 = .ok (.if_icmp .ge 7, 3) := by decide +kernel
theorem dX2_rangesMeet_14 : decode cX2_rangesMeet 14 = .ok (.iconst 1, 1) := by decide +kernel
theorem dX2_rangesMeet_15 : decode cX2_rangesMeet 15 = .ok (.goto 4, 3) := by decide +kernel
theorem dX2_rangesMeet_18 : decode cX2_rangesMeet 18 = .ok (.iconst 0, 1) := by decide +kernel
theorem dX2_rangesMeet_19 : decode cX2_rangesMeet 19 = .ok (.ireturn, 1) := by decide +kernel
theorem dX3_init_0 : decode cX3_init 0 = .ok (.aload_n 0, 1) := by decide +kernel
theorem dX3_init_1 : decode cX3_init 1 = .ok (.invokespecial 3, 3) := by decide +kernel
theorem dX3_init_4 : decode cX3_init 4 = .ok (.aload_n 0, 1) := by decide +kernel
theorem dX3_init_5 : decode cX3_init 5 = .ok (.iload_n 1, 1) := by decide +kernel
theorem dX3_init_6 : decode cX3_init 6 = .ok (.putfield 9, 3) := by decide +kernel
theorem dX3_init_9 : decode cX3_init 9 = .ok (.aload_n 0, 1) := by decide +kernel
theorem dX3_init_10 : decode cX3_init 10 = .ok (.aload_n 2, 1) := by decide +kernel
theorem dX3_init_11 : decode cX3_init 11 = .ok (.putfield 15, 3) := by decide +kernel
theorem dX3_init_14 : decode cX3_init 14 = .ok (.aload_n 0, 1) := by decide +kernel
theorem dX3_init_15 : decode cX3_init 15 = .ok (.iload_n 3, 1) := by decide +kernel
theorem dX3_init_16 : decode cX3_init 16 = .ok (.putfield 19, 3) := by decide +kernel
theorem dX3_init_19 : decode cX3_init 19 = .ok (.aload_n 0, 1) := by decide +kernel
theorem dX3_init_20 : decode cX3_init 20 = .ok (.aconst_null, 1) := by decide +kernel
theorem dX3_init_21 : decode cX3_init 21 = .ok (.putfield 22, 3) := by decide +kernel
theorem dX3_init_24 : decode cX3_init 24 = .ok (.return_, 1) := by decide +kernel
theorem dX3_toOuter_0 : decode cX3_toOuter 0 = .ok (.aload_n 0, 1) := by decide +kernel
theorem dX3_toOuter_1 : decode cX3_toOuter 1 = .ok (.getfield 15, 3) := by decide +kernel
theorem dX3_toOuter_4 : decode cX3_toOuter 4 = .ok (.ifnonnull 5, 3) := by decide +kernel
theorem dX3_toOuter_7 : decode cX3_toOuter 7 = .ok (.iload_n 1, 1) := by decide +kernel
theorem dX3_toOuter_8 : decode cX3_toOuter 8 = .ok (.ireturn, 1) := by decide +kernel
theorem dX3_toOuter_9 : decode cX3_toOuter 9 = .ok (.aload_n 0, 1) := by decide +kernel
theorem dX3_toOuter_10 : decode cX3_toOuter 10 = .ok (.getfield 22, 3) := by decide +kernel
theorem dX3_toOuter_13 : decode cX3_toOuter 13 = .ok (.astore_n 2, 1) := by decide +kernel
theorem dX3_toOuter_14 : decode cX3_toOuter 14 = .ok (.aload_n 2, 1) := by decide +kernel
theorem dX3_toOuter_15 : decode cX3_toOuter 15 = .ok (.ifnull 44, 3) := by decide +kernel
theorem dX3_toOuter_18 : decode cX3_toOuter 18 = .ok (.iload_n 1, 1) := by decide +kernel
theorem dX3_toOuter_19 : decode cX3_toOuter 19 = .ok (.aload_n 2, 1) := by decide +kernel
theorem dX3_toOuter_20 : decode cX3_toOuter 20 = .ok (.getfield 26, 3) := by decide +kernel
theorem dX3_toOuter_23 : decode cX3_toOuter 23 = .ok (.if_icmp .lt 28, 3) := by decide +kernel
theorem dX3_toOuter_26 : decode cX3_toOuter 26 = .ok (.iload_n 1, 1) := by decide +kernel
theorem dX3_toOuter_27 : decode cX3_toOuter 27 = .ok (.aload_n 2, 1) := by decide +kernel
theorem dX3_toOuter_28 : decode cX3_toOuter 28 = .ok (.getfield 26, 3) := by decide +kernel
theorem dX3_toOuter_31 : decode cX3_toOuter 31 = .ok (.aload_n 2, 1) := by decide +kernel
theorem dX3_toOuter_32 : decode cX3_toOuter 32 = .ok (.getfield 31, 3) := by decide +kernel
theorem dX3_toOuter_35 : decode cX3_toOuter 35 = .ok (.iadd, 1) := by decide +kernel
theorem dX3_toOuter_36 : decode cX3_toOuter 36 = .ok (.if_icmp .ge 15, 3) := by decide +kernel
theorem dX3_toOuter_39 : decode cX3_toOuter 39 = .ok (.aload_n 2, 1) := by decide +kernel
theorem dX3_toOuter_40 : decode cX3_toOuter 40 = .ok (.getfield 34, 3) := by decide +kernel
theorem dX3_toOuter_43 : decode cX3_toOuter 43 = .ok (.iload_n 1, 1) := by decide +kernel
theorem dX3_toOuter_44 : decode cX3_toOuter 44 = .ok (.aload_n 2, 1) := by decide +kernel
theorem dX3_toOuter_45 : decode cX3_toOuter 45 = .ok (.getfield 26, 3) := by decide +kernel
theorem dX3_toOuter_48 : decode cX3_toOuter 48 = .ok (.isub, 1) := by decide +kernel
theorem dX3_toOuter_49 : decode cX3_toOuter 49 = .ok (.iadd, 1) := by decide +kernel
theorem dX3_toOuter_50 : decode cX3_toOuter 50 = .ok (.ireturn, 1) := by decide +kernel
theorem dX3_toOuter_51 : decode cX3_toOuter 51 = .ok (.aload_n 2, 1) := by decide +kernel
theorem dX3_toOuter_52 : decode cX3_toOuter 52 = .ok (.getfield 36, 3) := by decide +kernel
theorem dX3_toOuter_55 : decode cX3_toOuter 55 = .ok (.astore_n 2, 1) := by decide +kernel
theorem dX3_toOuter_56 : decode cX3_toOuter 56 = .ok (.goto (-42), 3) := by decide +kernel
theorem dX3_toOuter_59 : decode cX3_toOuter 59 = .ok (.iconst (-1), 1) := by decide +kernel
theorem dX3_toOuter_60 : decode cX3_toOuter 60 = .ok (.ireturn, 1) := by decide +kernel
theorem dX3_fromOuter_0 : decode cX3_fromOuter 0 = .ok (.aload_n 0, 1) := by decide +kernel
theorem dX3_fromOuter_1 : decode cX3_fromOuter 1 = .ok (.getfield 15, 3) := by decide +kernel
theorem dX3_fromOuter_4 : decode cX3_fromOuter 4 = .ok (.ifnonnull 5, 3) := by decide +kernel
theorem dX3_fromOuter_7 : decode cX3_fromOuter 7 = .ok (.iload_n 1, 1) := by decide +kernel
theorem dX3_fromOuter_8 : decode cX3_fromOuter 8 = .ok (.ireturn, 1) := by decide +kernel
theorem dX3_fromOuter_9 : decode cX3_fromOuter 9 = .ok (.aload_n 0, 1) := by decide +kernel
theorem dX3_fromOuter_10 : decode cX3_fromOuter 10 = .ok (.getfield 22, 3) := by decide +kernel
theorem dX3_fromOuter_13 : decode cX3_fromOuter 13 = .ok (.astore_n 2, 1) := by decide +kernel
theorem dX3_fromOuter_14 : decode cX3_fromOuter 14 = .ok (.aload_n 2, 1) := by decide +kernel
theorem dX3_fromOuter_15 : decode cX3_fromOuter 15 = .ok (.ifnull 44, 3) := by decide +kernel
theorem dX3_fromOuter_18 : decode cX3_fromOuter 18 = .ok (.iload_n 1, 1) := by decide +kernel
theorem dX3_fromOuter_19 : decode cX3_fromOuter 19 = .ok (.aload_n 2, 1) := by decide +kernel
theorem dX3_fromOuter_20 : decode cX3_fromOuter 20 = .ok (.getfield 34, 3) := by decide +kernel
theorem dX3_fromOuter_23 : decode cX3_fromOuter 23 = .ok (.if_icmp .lt 28, 3) := by decide +kernel
theorem dX3_fromOuter_26 : decode cX3_fromOuter 26 = .ok (.iload_n 1, 1) := by decide +kernel
theorem dX3_fromOuter_27 : decode cX3_fromOuter 27 = .ok (.aload_n 2, 1) := by decide +kernel
theorem dX3_fromOuter_28 : decode cX3_fromOuter 28 = .ok (.getfield 34, 3) := by decide +kernel
theorem dX3_fromOuter_31 : decode cX3_fromOuter 31 = .ok (.aload_n 2, 1) := by decide +kernel
theorem dX3_fromOuter_32 : decode cX3_fromOuter 32 = .ok (.getfield 31, 3) := by decide +kernel
theorem dX3_fromOuter_35 : decode cX3_fromOuter 35 = .ok (.iadd, 1) := by decide +kernel
theorem dX3_fromOuter_36 : decode cX3_fromOuter 36 = .ok (.if_icmp .ge 15, 3) := by decide +kernel
theorem dX3_fromOuter_39 : decode cX3_fromOuter 39 = .ok (.aload_n 2, 1) := by decide +kernel
theorem dX3_fromOuter_40 : decode cX3_fromOuter 40 = .ok (.getfield 26, 3) := by decide +kernel
theorem dX3_fromOuter_43 : decode cX3_fromOuter 43 = .ok (.iload_n 1, 1) := by decide +kernel
theorem dX3_fromOuter_44 : decode cX3_fromOuter 44 = .ok (.aload_n 2, 1) := by decide +kernel
theorem dX3_fromOuter_45 : decode cX3_fromOuter 45 = .ok (.getfield 34, 3) := by decide +kernel
theorem dX3_fromOuter_48 : decode cX3_fromOuter 48 = .ok (.isub, 1) := by decide +kernel
theorem dX3_fromOuter_49 : decode cX3_fromOuter 49 = .ok (.iadd, 1) := by decide +kernel
theorem dX3_fromOuter_50 : decode cX3_fromOuter 50 = .ok (.ireturn, 1) := by decide +kernel
theorem dX3_fromOuter_51 : decode cX3_fromOuter 51 = .ok (.aload_n 2, 1) := by decide +kernel
theorem dX3_fromOuter_52 : decode cX3_fromOuter 52 = .ok (.getfield 36, 3) := by decide +kernel
theorem dX3_fromOuter_55 : decode cX3_fromOuter 55 = .ok (.astore_n 2, 1) := by decide +kernel
theorem dX3_fromOuter_56 : decode cX3_fromOuter 56 = .ok (.goto (-42), 3) := by decide +kernel
theorem dX3_fromOuter_59 : decode cX3_fromOuter 59 = .ok (.sipush 999, 3) := by decide +kernel
theorem dX3_fromOuter_62 : decode cX3_fromOuter 62 = .ok (.ireturn, 1) := by decide +kernel
theorem dX4_init_0 : decode cX4_init 0 = .ok (.aload_n 0, 1) := by decide +kernel
theorem dX4_init_1 : decode cX4_init 1 = .ok (.invokespecial 1, 3) := by decide +kernel
theorem dX4_init_4 : decode cX4_init 4 = .ok (.new 7, 3) := by decide +kernel
theorem dX4_init_7 : decode cX4_init 7 = .ok (.dup, 1) := by decide +kernel
theorem dX4_init_8 : decode cX4_init 8 = .ok (.iconst 0, 1) := by decide +kernel
theorem dX4_init_9 : decode cX4_init 9 = .ok (.aconst_null, 1) := by decide +kernel
theorem dX4_init_10 : decode cX4_init 10 = .ok (.iconst (-1), 1) := by decide +kernel
theorem dX4_init_11 : decode cX4_init 11 = .ok (.invokespecial 11, 3) := by decide +kernel
theorem dX4_init_14 : decode cX4_init 14 = .ok (.astore_n 1, 1) := by decide +kernel
theorem dX4_init_15 : decode cX4_init 15 = .ok (.aload_n 0, 1) := by decide +kernel
theorem dX4_init_16 : decode cX4_init 16 = .ok (.bipush 10, 2) := by decide +kernel
theorem dX4_init_18 : decode cX4_init 18 = .ok (.anewarray 7, 3) := by decide +kernel
theorem dX4_init_21 : decode cX4_init 21 = .ok (.putfield 14, 3) := by decide +kernel
theorem dX4_init_24 : decode cX4_init 24 = .ok (.aload_n 0, 1) := by decide +kernel
theorem dX4_init_25 : decode cX4_init 25 = .ok (.getfield 14, 3) := by decide +kernel
theorem dX4_init_28 : decode cX4_init 28 = .ok (.iconst 0, 1) := by decide +kernel
theorem dX4_init_29 : decode cX4_init 29 = .ok (.aload_n 1, 1) := by decide +kernel
theorem dX4_init_30 : decode cX4_init 30 = .ok (.aastore, 1) := by decide +kernel
theorem dX4_init_31 : decode cX4_init 31 = .ok (.aload_n 0, 1) := by decide +kernel
theorem dX4_init_32 : decode cX4_init 32 = .ok (.iconst 1, 1) := by decide +kernel
theorem dX4_init_33 : decode cX4_init 33 = .ok (.putfield 18, 3) := by decide +kernel
theorem dX4_init_36 : decode cX4_init 36 = .ok (.aload_n 0, 1) := by decide +kernel
theorem dX4_init_37 : decode cX4_init 37 = .ok (.bipush 12, 2) := by decide +kernel
theorem dX4_init_39 : decode cX4_init 39 = .ok (.anewarray 22, 3) := by decide +kernel
theorem dX4_init_42 : decode cX4_init 42 = .ok (.putfield 24, 3) := by decide +kernel
theorem dX4_init_45 : decode cX4_init 45 = .ok (.aload_n 0, 1) := by decide +kernel
theorem dX4_init_46 : decode cX4_init 46 = .ok (.getfield 24, 3) := by decide +kernel
theorem dX4_init_49 : decode cX4_init 49 = .ok (.iconst 0, 1) := by decide +kernel
theorem dX4_init_50 : decode cX4_init 50 = .ok (.new 22, 3) := by decide +kernel
theorem dX4_init_53 : decode cX4_init 53 = .ok (.dup, 1) := by decide +kernel
theorem dX4_init_54 : decode cX4_init 54 = .ok (.aload_n 1, 1) := by decide +kernel
theorem dX4_init_55 : decode cX4_init 55 = .ok (.iconst 0, 1) := by decide +kernel
theorem dX4_init_56 : decode cX4_init 56 = .ok (.bipush 15, 2) := by decide +kernel
theorem dX4_init_58 : decode cX4_init 58 = .ok (.invokespecial 28, 3) := by decide +kernel
theorem dX4_init_61 : decode cX4_init 61 = .ok (.aastore, 1) := by decide +kernel
theorem dX4_init_62 : decode cX4_init 62 = .ok (.aload_n 0, 1) := by decide +kernel
theorem dX4_init_63 : decode cX4_init 63 = .ok (.iconst 1, 1) := by decide +kernel
theorem dX4_init_64 : decode cX4_init 64 = .ok (.putfield 31, 3) := by decide +kernel
theorem dX4_init_67 : decode cX4_init 67 = .ok (.aload_n 0, 1) := by decide +kernel
theorem dX4_init_68 : decode cX4_init 68 = .ok (.bipush 20, 2) := by decide +kernel
theorem dX4_init_70 : decode cX4_init 70 = .ok (.anewarray 34, 3) := by decide +kernel
theorem dX4_init_73 : decode cX4_init 73 = .ok (.putfield 36, 3) := by decide +kernel
theorem dX4_init_76 : decode cX4_init 76 = .ok (.aload_n 0, 1) := by decide +kernel
theorem dX4_init_77 : decode cX4_init 77 = .ok (.iconst 0, 1) := by decide +kernel
theorem dX4_init_78 : decode cX4_init 78 = .ok (.putfield 40, 3) := by decide +kernel
theorem dX4_init_81 : decode cX4_init 81 = .ok (.aload_n 0, 1) := by decide +kernel
theorem dX4_init_82 : decode cX4_init 82 = .ok (.aconst_null, 1) := by decide +kernel
theorem dX4_init_83 : decode cX4_init 83 = .ok (.putfield 43, 3) := by decide +kernel
theorem dX4_init_86 : decode cX4_init 86 = .ok (.aload_n 0, 1) := by decide +kernel
theorem dX4_init_87 : decode cX4_init 87 = .ok (.iconst 0, 1) := by decide +kernel
theorem dX4_init_88 : decode cX4_init 88 = .ok (.putfield 47, 3) := by decide +kernel
theorem dX4_init_91 : decode cX4_init 91 = .ok (.aload_n 0, 1) := by decide +kernel
theorem dX4_init_92 : decode cX4_init 92 = .ok (.iconst 0, 1) := by decide +kernel
theorem dX4_init_93 : decode cX4_init 93 = .ok (.putfield 50, 3) := by decide +kernel
theorem dX4_init_96 : decode cX4_init 96 = .ok (.return_, 1) := by decide +kernel
theorem dX4_makeRoom_0 : decode cX4_makeRoom 0 = .ok (.aload_n 0, 1) := by decide +kernel
theorem dX4_makeRoom_1 : decode cX4_makeRoom 1 = .ok (.iload_n 1, 1) := by decide +kernel
theorem dX4_makeRoom_2 : decode cX4_makeRoom 2 = .ok (.invokevirtual 53, 3) := by decide +kernel
theorem dX4_makeRoom_5 : decode cX4_makeRoom 5 = .ok (.astore_n 2, 1) := by decide +kernel
theorem dX4_makeRoom_6 : decode cX4_makeRoom 6 = .ok (.aload_n 0, 1) := by decide +kernel
theorem dX4_makeRoom_7 : decode cX4_makeRoom 7 = .ok (.getfield 18, 3) := by decide +kernel
theorem dX4_makeRoom_10 : decode cX4_makeRoom 10 = .ok (.aload_n 0, 1) := by decide +kernel
theorem dX4_makeRoom_11 : decode cX4_makeRoom 11 = .ok (.getfield 14, 3) := by decide +kernel
theorem dX4_makeRoom_14 : decode cX4_makeRoom 14 = .ok (.arraylength, 1) := by decide +kernel
theorem dX4_makeRoom_15 : decode cX4_makeRoom 15 = .ok (.if_icmp .lt 13, 3) := by decide +kernel
theorem dX4_makeRoom_18 : decode cX4_makeRoom 18 = .ok (.new 57, 3) := by decide +kernel
theorem dX4_makeRoom_21 : decode cX4_makeRoom 21 = .ok (.dup, 1) := by decide +kernel
theorem dX4_makeRoom_22 : decode cX4_makeRoom 22 = .ok (.ldc 59, 2) := by decide +kernel
theorem dX4_makeRoom_24 : decode cX4_makeRoom 24 = .ok (.invokespecial 61, 3) := by decide +kernel
theorem dX4_makeRoom_27 : decode cX4_makeRoom 27 = .ok (.athrow, 1) := by decide +kernel
theorem dX4_makeRoom_28 : decode cX4_makeRoom 28 = .ok (.new 7, 3) := by decide +kernel
theorem dX4_makeRoom_31 : decode cX4_makeRoom 31 = .ok (.dup, 1) := by decide +kernel
theorem dX4_makeRoom_32 : decode cX4_makeRoom 32 = .ok (.aload_n 0, 1) := by decide +kernel
theorem dX4_makeRoom_33 : decode cX4_makeRoom 33 = .ok (.getfield 18, 3) := by decide +kernel
theorem dX4_makeRoom_36 : decode cX4_makeRoom 36 = .ok (.aload_n 2, 1) := by decide +kernel
theorem dX4_makeRoom_37 : decode cX4_makeRoom 37 = .ok (.getfield 64, 3) := by decide +kernel
theorem dX4_makeRoom_40 : decode cX4_makeRoom 40 = .ok (.aload_n 2, 1) := by decide +kernel
theorem dX4_makeRoom_41 : decode cX4_makeRoom 41 = .ok (.getfield 68, 3) := by decide +kernel
theorem dX4_makeRoom_44 : decode cX4_makeRoom 44 = .ok (.invokespecial 11, 3) := by decide +kernel
theorem dX4_makeRoom_47 : decode cX4_makeRoom 47 = .ok (.astore_n 3, 1) := by decide +kernel
theorem dX4_makeRoom_48 : decode cX4_makeRoom 48 = .ok (.aload_n 0, 1) := by decide +kernel
theorem dX4_makeRoom_49 : decode cX4_makeRoom 49 = .ok (.getfield 14, 3) := by decide +kernel
theorem dX4_makeRoom_52 : decode cX4_makeRoom 52 = .ok (.aload_n 0, 1) := by decide +kernel
theorem dX4_makeRoom_53 : decode cX4_makeRoom 53 = .ok (.getfield 18, 3) := by decide +kernel
theorem dX4_makeRoom_56 : decode cX4_makeRoom 56 = .ok (.aload_n 3, 1) := by decide +kernel
theorem dX4_makeRoom_57 : decode cX4_makeRoom 57 = .ok (.aastore, 1) := by decide +kernel
theorem dX4_makeRoom_58 : decode cX4_makeRoom 58 = .ok (.aload_n 0, 1) := by decide +kernel
theorem dX4_makeRoom_59 : decode cX4_makeRoom 59 = .ok (.dup, 1) := by decide +kernel
theorem dX4_makeRoom_60 : decode cX4_makeRoom 60 = .ok (.getfield 18, 3) := by decide +kernel
theorem dX4_makeRoom_63 : decode cX4_makeRoom 63 = .ok (.iconst 1, 1) := by decide +kernel
theorem dX4_makeRoom_64 : decode cX4_makeRoom 64 = .ok (.iadd, 1) := by decide +kernel
theorem dX4_makeRoom_65 : decode cX4_makeRoom 65 = .ok (.putfield 18, 3) := by decide +kernel
theorem dX4_makeRoom_68 : decode cX4_makeRoom 68 = .ok (.aload_n 2, 1) := by decide +kernel
theorem dX4_makeRoom_69 : decode cX4_makeRoom 69 = .ok (.aload_n 3, 1) := by decide +kernel
theorem dX4_makeRoom_70 : decode cX4_makeRoom 70 = .ok (.invokevirtual 71, 3) := by decide +kernel
theorem dX4_makeRoom_73 : decode cX4_makeRoom 73 = .ok (.aload_n 3, 1) := by decide +kernel
theorem dX4_makeRoom_74 : decode cX4_makeRoom 74 = .ok (.getfield 75, 3) := by decide +kernel
theorem dX4_makeRoom_77 : decode cX4_makeRoom 77 = .ok (.ireturn, 1) := by decide +kernel
theorem dX4_line_0 : decode cX4_line 0 = .ok (.iload_n 1, 1) := by decide +kernel
theorem dX4_line_1 : decode cX4_line 1 = .ok (.invokestatic 76, 3) := by decide +kernel
theorem dX4_line_4 : decode cX4_line 4 = .ok (.iload_n 2, 1) := by decide +kernel
theorem dX4_line_5 : decode cX4_line 5 = .ok (.invokestatic 76, 3) := by decide +kernel
theorem dX4_line_8 : decode cX4_line 8 = .ok (.iload_n 3, 1) := by decide +kernel
theorem dX4_line_9 : decode cX4_line 9 = .ok (.iconst 1, 1) := by decide +kernel
theorem dX4_line_10 : decode cX4_line 10 = .ok (.if_icmp .lt 10, 3) := by decide +kernel
theorem dX4_line_13 : decode cX4_line 13 = .ok (.iload_n 3, 1) := by decide +kernel
theorem dX4_line_14 : decode cX4_line 14 = .ok (.sipush 999, 3) := by decide +kernel
theorem dX4_line_17 : decode cX4_line 17 = .ok (.if_icmp .le 13, 3) := by decide +kernel
theorem dX4_line_20 : decode cX4_line 20 = .ok (.new 80, 3) := by decide +kernel
theorem dX4_line_23 : decode cX4_line 23 = .ok (.dup, 1) := by decide +kernel
theorem dX4_line_24 : decode cX4_line 24 = .ok (.ldc 82, 2) := by decide +kernel
theorem dX4_line_26 : decode cX4_line 26 = .ok (.invokespecial 84, 3) := by decide +kernel
theorem dX4_line_29 : decode cX4_line 29 = .ok (.athrow, 1) := by decide +kernel
theorem dX4_line_30 : decode cX4_line 30 = .ok (.iload_n 1, 1) := by decide +kernel
theorem dX4_line_31 : decode cX4_line 31 = .ok (.iload_n 3, 1) := by decide +kernel
theorem dX4_line_32 : decode cX4_line 32 = .ok (.iadd, 1) := by decide +kernel
theorem dX4_line_33 : decode cX4_line 33 = .ok (.iconst 1, 1) := by decide +kernel
theorem dX4_line_34 : decode cX4_line 34 = .ok (.isub, 1) := by decide +kernel
theorem dX4_line_35 : decode cX4_line 35 = .ok (.invokestatic 76, 3) := by decide +kernel
theorem dX4_line_38 : decode cX4_line 38 = .ok (.iload_n 2, 1) := by decide +kernel
theorem dX4_line_39 : decode cX4_line 39 = .ok (.iload_n 3, 1) := by decide +kernel
theorem dX4_line_40 : decode cX4_line 40 = .ok (.iadd, 1) := by decide +kernel
theorem dX4_line_41 : decode cX4_line 41 = .ok (.iconst 1, 1) := by decide +kernel
theorem dX4_line_42 : decode cX4_line 42 = .ok (.isub, 1) := by decide +kernel
theorem dX4_line_43 : decode cX4_line 43 = .ok (.invokestatic 76, 3) := by decide +kernel
theorem dX4_line_46 : decode cX4_line 46 = .ok (.aload_n 0, 1) := by decide +kernel
theorem dX4_line_47 : decode cX4_line 47 = .ok (.getfield 43, 3) := by decide +kernel
theorem dX4_line_50 : decode cX4_line 50 = .ok (.invokestatic 85, 3) := by decide +kernel
theorem dX4_line_53 : decode cX4_line 53 = .ok (.istore 4, 2) := by decide +kernel
theorem dX4_line_55 : decode cX4_line 55 = .ok (.iload 4, 2) := by decide +kernel
theorem dX4_line_57 : decode cX4_line 57 = .ok (.iconst 3, 1) := by decide +kernel
theorem dX4_line_58 : decode cX4_line 58 = .ok (.if_icmp .lt 13, 3) := by decide +kernel
theorem dX4_line_61 : decode cX4_line 61 = .ok (.new 57, 3) := by decide +kernel
theorem dX4_line_64 : decode cX4_line 64 = .ok (.dup, 1) := by decide +kernel
theorem dX4_line_65 : decode cX4_line 65 = .ok (.ldc 89, 2) := by decide +kernel
theorem dX4_line_67 : decode cX4_line 67 = .ok (.invokespecial 61, 3) := by decide +kernel
theorem dX4_line_70 : decode cX4_line 70 = .ok (.athrow, 1) := by decide +kernel
theorem dX4_line_71 : decode cX4_line 71 = .ok (.aload_n 0, 1) := by decide +kernel
theorem dX4_line_72 : decode cX4_line 72 = .ok (.new 91, 3) := by decide +kernel
theorem dX4_line_75 : decode cX4_line 75 = .ok (.dup, 1) := by decide +kernel
theorem dX4_line_76 : decode cX4_line 76 = .ok (.iload_n 1, 1) := by decide +kernel
theorem dX4_line_77 : decode cX4_line 77 = .ok (.iload_n 2, 1) := by decide +kernel
theorem dX4_line_78 : decode cX4_line 78 = .ok (.iload_n 3, 1) := by decide +kernel
theorem dX4_line_79 : decode cX4_line 79 = .ok (.aload_n 0, 1) := by decide +kernel
theorem dX4_line_80 : decode cX4_line 80 = .ok (.getfield 43, 3) := by decide +kernel
theorem dX4_line_83 : decode cX4_line 83 = .ok (.invokespecial 93, 3) := by decide +kernel
theorem dX4_line_86 : decode cX4_line 86 = .ok (.putfield 43, 3) := by decide +kernel
theorem dX4_line_89 : decode cX4_line 89 = .ok (.iload 4, 2) := by decide +kernel
theorem dX4_line_91 : decode cX4_line 91 = .ok (.iconst 1, 1) := by decide +kernel
theorem dX4_line_92 : decode cX4_line 92 = .ok (.iadd, 1) := by decide +kernel
theorem dX4_line_93 : decode cX4_line 93 = .ok (.ireturn, 1) := by decide +kernel
theorem dX4_writeMap_0 : decode cX4_writeMap 0 = .ok (.aload_n 0, 1) := by decide +kernel
theorem dX4_writeMap_1 : decode cX4_writeMap 1 = .ok (.iload_n 1, 1) := by decide +kernel
theorem dX4_writeMap_2 : decode cX4_writeMap 2 = .ok (.invokevirtual 53, 3) := by decide +kernel
theorem dX4_writeMap_5 : decode cX4_writeMap 5 = .ok (.astore_n 3, 1) := by decide +kernel
theorem dX4_writeMap_6 : decode cX4_writeMap 6 = .ok (.aload_n 0, 1) := by decide +kernel
theorem dX4_writeMap_7 : decode cX4_writeMap 7 = .ok (.iload_n 2, 1) := by decide +kernel
theorem dX4_writeMap_8 : decode cX4_writeMap 8 = .ok (.invokevirtual 96, 3) := by decide +kernel
theorem dX4_writeMap_11 : decode cX4_writeMap 11 = .ok (.astore 4, 2) := by decide +kernel
theorem dX4_writeMap_13 : decode cX4_writeMap 13 = .ok (.aload 4, 2) := by decide +kernel
theorem dX4_writeMap_15 : decode cX4_writeMap 15 = .ok (.getfield 100, 3) := by decide +kernel
theorem dX4_writeMap_18 : decode cX4_writeMap 18 = .ok (.astore 5, 2) := by decide +kernel
theorem dX4_writeMap_20 : decode cX4_writeMap 20 = .ok (.aload 5, 2) := by decide +kernel
theorem dX4_writeMap_22 : decode cX4_writeMap 22 = .ok (.ifnonnull 13, 3) := by decide +kernel
theorem dX4_writeMap_25 : decode cX4_writeMap 25 = .ok (.new 103, 3) := by decide +kernel
theorem dX4_writeMap_28 : decode cX4_writeMap 28 = .ok (.dup, 1) := by decide +kernel
theorem dX4_writeMap_29 : decode cX4_writeMap 29 = .ok (.ldc 105, 2) := by decide +kernel
theorem dX4_writeMap_31 : decode cX4_writeMap 31 = .ok (.invokespecial 107, 3) := by decide +kernel
theorem dX4_writeMap_34 : decode cX4_writeMap 34 = .ok (.athrow, 1) := by decide +kernel
theorem dX4_writeMap_35 : decode cX4_writeMap 35 = .ok (.aload_n 0, 1) := by decide +kernel
theorem dX4_writeMap_36 : decode cX4_writeMap 36 = .ok (.getfield 43, 3) := by decide +kernel
theorem dX4_writeMap_39 : decode cX4_writeMap 39 = .ok (.astore 6, 2) := by decide +kernel
theorem dX4_writeMap_41 : decode cX4_writeMap 41 = .ok (.aload_n 0, 1) := by decide +kernel
theorem dX4_writeMap_42 : decode cX4_writeMap 42 = .ok (.aconst_null, 1) := by decide +kernel
theorem dX4_writeMap_43 : decode cX4_writeMap 43 = .ok (.putfield 43, 3) := by decide +kernel
theorem dX4_writeMap_46 : decode cX4_writeMap 46 = .ok (.aload 4, 2) := by decide +kernel
theorem dX4_writeMap_48 : decode cX4_writeMap 48 = .ok (.getfield 108, 3) := by decide +kernel
theorem dX4_writeMap_51 : decode cX4_writeMap 51 = .ok (.ifnull 10, 3) := by decide +kernel
theorem dX4_writeMap_54 : decode cX4_writeMap 54 = .ok (.aload_n 0, 1) := by decide +kernel
theorem dX4_writeMap_55 : decode cX4_writeMap 55 = .ok (.bipush (-4), 2) := by decide +kernel
theorem dX4_writeMap_57 : decode cX4_writeMap 57 = .ok (.invokevirtual 111, 3) := by decide +kernel
theorem dX4_writeMap_60 : decode cX4_writeMap 60 = .ok (.ireturn, 1) := by decide +kernel
theorem dX4_writeMap_61 : decode cX4_writeMap 61 = .ok (.aload 6, 2) := by decide +kernel
theorem dX4_writeMap_63 : decode cX4_writeMap 63 = .ok (.ifnull 11, 3) := by decide +kernel
theorem dX4_writeMap_66 : decode cX4_writeMap 66 = .ok (.aload 6, 2) := by decide +kernel
theorem dX4_writeMap_68 : decode cX4_writeMap 68 = .ok (.invokestatic 115, 3) := by decide +kernel
theorem dX4_writeMap_71 : decode cX4_writeMap 71 = .ok (.ifCond .eq 10, 3) := by decide +kernel
theorem dX4_writeMap_74 : decode cX4_writeMap 74 = .ok (.aload_n 0, 1) := by decide +kernel
theorem dX4_writeMap_75 : decode cX4_writeMap 75 = .ok (.bipush (-3), 2) := by decide +kernel
theorem dX4_writeMap_77 : decode cX4_writeMap 77 = .ok (.invokevirtual 111, 3) := by decide +kernel
theorem dX4_writeMap_80 : decode cX4_writeMap 80 = .ok (.ireturn, 1) := by decide +kernel
theorem dX4_writeMap_81 : decode cX4_writeMap 81 = .ok (.aload 6, 2) := by decide +kernel
theorem dX4_writeMap_83 : decode cX4_writeMap 83 = .ok (.aload 5, 2) := by decide +kernel
theorem dX4_writeMap_85 : decode cX4_writeMap 85 = .ok (.invokestatic 119, 3) := by decide +kernel
theorem dX4_writeMap_88 : decode cX4_writeMap 88 = .ok (.ifCond .ne 10, 3) := by decide +kernel
theorem dX4_writeMap_91 : decode cX4_writeMap 91 = .ok (.aload_n 0, 1) := by decide +kernel
theorem dX4_writeMap_92 : decode cX4_writeMap 92 = .ok (.bipush (-2), 2) := by decide +kernel
theorem dX4_writeMap_94 : decode cX4_writeMap 94 = .ok (.invokevirtual 111, 3) := by decide +kernel
theorem dX4_writeMap_97 : decode cX4_writeMap 97 = .ok (.ireturn, 1) := by decide +kernel
theorem dX4_writeMap_98 : decode cX4_writeMap 98 = .ok (.aload 6, 2) := by decide +kernel
theorem dX4_writeMap_100 : decode cX4_writeMap 100 = .ok (.invokevirtual 123, 3) := by decide +kernel
theorem dX4_writeMap_103 : decode cX4_writeMap 103 = .ok (.ifCond .eq 36, 3) := by decide +kernel
theorem dX4_writeMap_106 : decode cX4_writeMap 106 = .ok (.aload_n 3, 1) := by decide +kernel
theorem dX4_writeMap_107 : decode cX4_writeMap 107 = .ok (.getfield 68, 3) := by decide +kernel
theorem dX4_writeMap_110 : decode cX4_writeMap 110 = .ok (.aload 4, 2) := by decide +kernel
theorem dX4_writeMap_112 : decode cX4_writeMap 112 = .ok (.getfield 127, 3) := by decide +kernel
theorem dX4_writeMap_115 : decode cX4_writeMap 115 = .ok (.if_icmp .ne 24, 3) := by decide +kernel
theorem dX4_writeMap_118 : decode cX4_writeMap 118 = .ok (.aload 5, 2) := by decide +kernel
theorem dX4_writeMap_120 : decode cX4_writeMap 120 = .ok (.aload 6, 2) := by decide +kernel
theorem dX4_writeMap_122 : decode cX4_writeMap 122 = .ok (.getfield 130, 3) := by decide +kernel
theorem dX4_writeMap_125 : decode cX4_writeMap 125 = .ok (.invokestatic 132, 3) := by decide +kernel
theorem dX4_writeMap_128 : decode cX4_writeMap 128 = .ok (.aload_n 3, 1) := by decide +kernel
theorem dX4_writeMap_129 : decode cX4_writeMap 129 = .ok (.getfield 68, 3) := by decide +kernel
theorem dX4_writeMap_132 : decode cX4_writeMap 132 = .ok (.if_icmp .ne 7, 3) := by decide +kernel
theorem dX4_writeMap_135 : decode cX4_writeMap 135 = .ok (.iconst 1, 1) := by decide +kernel
theorem dX4_writeMap_136 : decode cX4_writeMap 136 = .ok (.goto 4, 3) := by decide +kernel
theorem dX4_writeMap_139 : decode cX4_writeMap 139 = .ok (.iconst 0, 1) := by decide +kernel
theorem dX4_writeMap_140 : decode cX4_writeMap 140 = .ok (.istore 7, 2) := by decide +kernel
theorem dX4_writeMap_142 : decode cX4_writeMap 142 = .ok (.iload 7, 2) := by decide +kernel
theorem dX4_writeMap_144 : decode cX4_writeMap 144 = .ok (.ifCond .ne 20, 3) := by decide +kernel
theorem dX4_writeMap_147 : decode cX4_writeMap 147 = .ok (.aload_n 3, 1) := by decide +kernel
theorem dX4_writeMap_148 : decode cX4_writeMap 148 = .ok (.bipush 8, 2) := by decide +kernel
theorem dX4_writeMap_150 : decode cX4_writeMap 150 = .ok (.aload 5, 2) := by decide +kernel
theorem dX4_writeMap_152 : decode cX4_writeMap 152 = .ok (.invokevirtual 136, 3) := by decide +kernel
theorem dX4_writeMap_155 : decode cX4_writeMap 155 = .ok (.ifCond .ne 9, 3) := by decide +kernel
theorem dX4_writeMap_158 : decode cX4_writeMap 158 = .ok (.aload_n 0, 1) := by decide +kernel
theorem dX4_writeMap_159 : decode cX4_writeMap 159 = .ok (.iconst (-1), 1) := by decide +kernel
theorem dX4_writeMap_160 : decode cX4_writeMap 160 = .ok (.invokevirtual 111, 3) := by decide +kernel
theorem dX4_writeMap_163 : decode cX4_writeMap 163 = .ok (.ireturn, 1) := by decide +kernel
theorem dX4_writeMap_164 : decode cX4_writeMap 164 = .ok (.aload 4, 2) := by decide +kernel
theorem dX4_writeMap_166 : decode cX4_writeMap 166 = .ok (.aload 6, 2) := by decide +kernel
theorem dX4_writeMap_168 : decode cX4_writeMap 168 = .ok (.putfield 108, 3) := by decide +kernel
theorem dX4_writeMap_171 : decode cX4_writeMap 171 = .ok (.aload 6, 2) := by decide +kernel
theorem dX4_writeMap_173 : decode cX4_writeMap 173 = .ok (.invokestatic 85, 3) := by decide +kernel
theorem dX4_writeMap_176 : decode cX4_writeMap 176 = .ok (.ireturn, 1) := by decide +kernel
theorem dX4_rooms_0 : decode cX4_rooms 0 = .ok (.aload_n 0, 1) := by decide +kernel
theorem dX4_rooms_1 : decode cX4_rooms 1 = .ok (.getfield 18, 3) := by decide +kernel
theorem dX4_rooms_4 : decode cX4_rooms 4 = .ok (.ireturn, 1) := by decide +kernel
theorem dX4_outerOf_0 : decode cX4_outerOf 0 = .ok (.aload_n 0, 1) := by decide +kernel
theorem dX4_outerOf_1 : decode cX4_outerOf 1 = .ok (.iload_n 1, 1) := by decide +kernel
theorem dX4_outerOf_2 : decode cX4_outerOf 2 = .ok (.invokevirtual 96, 3) := by decide +kernel
theorem dX4_outerOf_5 : decode cX4_outerOf 5 = .ok (.getfield 100, 3) := by decide +kernel
theorem dX4_outerOf_8 : decode cX4_outerOf 8 = .ok (.invokestatic 140, 3) := by decide +kernel
theorem dX4_outerOf_11 : decode cX4_outerOf 11 = .ok (.ireturn, 1) := by decide +kernel
theorem dX4_leadsTo_0 : decode cX4_leadsTo 0 = .ok (.aload_n 0, 1) := by decide +kernel
theorem dX4_leadsTo_1 : decode cX4_leadsTo 1 = .ok (.iload_n 1, 1) := by decide +kernel
theorem dX4_leadsTo_2 : decode cX4_leadsTo 2 = .ok (.invokevirtual 96, 3) := by decide +kernel
theorem dX4_leadsTo_5 : decode cX4_leadsTo 5 = .ok (.astore_n 3, 1) := by decide +kernel
theorem dX4_leadsTo_6 : decode cX4_leadsTo 6 = .ok (.iload_n 2, 1) := by decide +kernel
theorem dX4_leadsTo_7 : decode cX4_leadsTo 7 = .ok (.invokestatic 76, 3) := by decide +kernel
theorem dX4_leadsTo_10 : decode cX4_leadsTo 10 = .ok (.aload_n 3, 1) := by decide +kernel
theorem dX4_leadsTo_11 : decode cX4_leadsTo 11 = .ok (.iload_n 2, 1) := by decide +kernel
theorem dX4_leadsTo_12 : decode cX4_leadsTo 12 = .ok (.invokestatic 132, 3) := by decide +kernel
theorem dX4_leadsTo_15 : decode cX4_leadsTo 15 = .ok (.ireturn, 1) := by decide +kernel
theorem dX4_seenAs_0 : decode cX4_seenAs 0 = .ok (.aload_n 0, 1) := by decide +kernel
theorem dX4_seenAs_1 : decode cX4_seenAs 1 = .ok (.iload_n 1, 1) := by decide +kernel
theorem dX4_seenAs_2 : decode cX4_seenAs 2 = .ok (.invokevirtual 96, 3) := by decide +kernel
theorem dX4_seenAs_5 : decode cX4_seenAs 5 = .ok (.astore_n 3, 1) := by decide +kernel
theorem dX4_seenAs_6 : decode cX4_seenAs 6 = .ok (.iload_n 2, 1) := by decide +kernel
theorem dX4_seenAs_7 : decode cX4_seenAs 7 = .ok (.invokestatic 76, 3) := by decide +kernel
theorem dX4_seenAs_10 : decode cX4_seenAs 10 = .ok (.aload_n 0, 1) := by decide +kernel
theorem dX4_seenAs_11 : decode cX4_seenAs 11 = .ok (.aload_n 3, 1) := by decide +kernel
theorem dX4_seenAs_12 : decode cX4_seenAs 12 = .ok (.iload_n 2, 1) := by decide +kernel
theorem dX4_seenAs_13 : decode cX4_seenAs 13 = .ok (.invokevirtual 144, 3) := by decide +kernel
theorem dX4_seenAs_16 : decode cX4_seenAs 16 = .ok (.ireturn, 1) := by decide +kernel
theorem dX4_seenByLeading_0 : decode cX4_seenByLeading 0 = .ok (.aload_n 0, 1) := by decide +kernel
theorem dX4_seenByLeading_1 : decode cX4_seenByLeading 1 = .ok (.iload_n 1, 1) := by decide +kernel
theorem dX4_seenByLeading_2 : decode cX4_seenByLeading 2 = .ok (.invokevirtual 96, 3) := by decide +kernel
theorem dX4_seenByLeading_5 : decode cX4_seenByLeading 5 = .ok (.astore_n 3, 1) := by decide +kernel
theorem dX4_seenByLeading_6 : decode cX4_seenByLeading 6 = .ok (.iload_n 2, 1) := by decide +kernel
theorem dX4_seenByLeading_7 : decode cX4_seenByLeading 7 = .ok (.invokestatic 76, 3) := by decide +kernel
theorem dX4_seenByLeading_10 : decode cX4_seenByLeading 10 = .ok (.iconst 0, 1) := by decide +kernel
theorem dX4_seenByLeading_11 : decode cX4_seenByLeading 11 = .ok (.istore 4, 2) := by decide +kernel
theorem dX4_seenByLeading_13 : decode cX4_seenByLeading 13 = .ok (.iload 4, 2) := by decide +kernel
theorem dX4_seenByLeading_15 : decode cX4_seenByLeading 15 = .ok (.sipush 998, 3) := by decide +kernel
theorem dX4_seenByLeading_18 : decode cX4_seenByLeading 18 = .ok (.if_icmp .gt 22, 3) := by decide +kernel
theorem dX4_seenByLeading_21 : decode cX4_seenByLeading 21 = .ok (.aload_n 3, 1) := by decide +kernel
theorem dX4_seenByLeading_22 : decode cX4_seenByLeading 22 = .ok (.iload 4, 2) := by decide +kernel
theorem dX4_seenByLeading_24 : decode cX4_seenByLeading 24 = .ok (.invokestatic 132, 3) := by decide +kernel
theorem dX4_seenByLeading_27 : decode cX4_seenByLeading 27 = .ok (.iload_n 2, 1) := by decide +kernel
theorem dX4_seenByLeading_28 : decode cX4_seenByLeading 28 = .ok (.if_icmp .ne 6, 3) := by decide +kernel
theorem dX4_seenByLeading_31 : decode cX4_seenByLeading 31 = .ok (.iload 4, 2) := by decide +kernel
theorem dX4_seenByLeading_33 : decode cX4_seenByLeading 33 = .ok (.ireturn, 1) := by decide +kernel
theorem dX4_seenByLeading_34 : decode cX4_seenByLeading 34 = .ok (.iinc 4 1, 3) := by decide +kernel
theorem dX4_seenByLeading_37 : decode cX4_seenByLeading 37 = .ok (.goto (-24), 3) := by decide +kernel
theorem dX4_seenByLeading_40 : decode cX4_seenByLeading 40 = .ok (.sipush 999, 3) := by decide +kernel
theorem dX4_seenByLeading_43 : decode cX4_seenByLeading 43 = .ok (.ireturn, 1) := by decide +kernel
theorem dX4_fork_0 : decode cX4_fork 0 = .ok (.aload_n 0, 1) := by decide +kernel
theorem dX4_fork_1 : decode cX4_fork 1 = .ok (.iload_n 1, 1) := by decide +kernel
theorem dX4_fork_2 : decode cX4_fork 2 = .ok (.invokevirtual 53, 3) := by decide +kernel
theorem dX4_fork_5 : decode cX4_fork 5 = .ok (.astore_n 2, 1) := by decide +kernel
theorem dX4_fork_6 : decode cX4_fork 6 = .ok (.aload_n 0, 1) := by decide +kernel
theorem dX4_fork_7 : decode cX4_fork 7 = .ok (.getfield 31, 3) := by decide +kernel
theorem dX4_fork_10 : decode cX4_fork 10 = .ok (.aload_n 0, 1) := by decide +kernel
theorem dX4_fork_11 : decode cX4_fork 11 = .ok (.getfield 24, 3) := by decide +kernel
theorem dX4_fork_14 : decode cX4_fork 14 = .ok (.arraylength, 1) := by decide +kernel
theorem dX4_fork_15 : decode cX4_fork 15 = .ok (.if_icmp .lt 13, 3) := by decide +kernel
theorem dX4_fork_18 : decode cX4_fork 18 = .ok (.new 57, 3) := by decide +kernel
theorem dX4_fork_21 : decode cX4_fork 21 = .ok (.dup, 1) := by decide +kernel
theorem dX4_fork_22 : decode cX4_fork 22 = .ok (.ldc 147, 2) := by decide +kernel
theorem dX4_fork_24 : decode cX4_fork 24 = .ok (.invokespecial 61, 3) := by decide +kernel
theorem dX4_fork_27 : decode cX4_fork 27 = .ok (.athrow, 1) := by decide +kernel
theorem dX4_fork_28 : decode cX4_fork 28 = .ok (.aload_n 0, 1) := by decide +kernel
theorem dX4_fork_29 : decode cX4_fork 29 = .ok (.getfield 31, 3) := by decide +kernel
theorem dX4_fork_32 : decode cX4_fork 32 = .ok (.istore_n 3, 1) := by decide +kernel
theorem dX4_fork_33 : decode cX4_fork 33 = .ok (.aload_n 0, 1) := by decide +kernel
theorem dX4_fork_34 : decode cX4_fork 34 = .ok (.getfield 24, 3) := by decide +kernel
theorem dX4_fork_37 : decode cX4_fork 37 = .ok (.iload_n 3, 1) := by decide +kernel
theorem dX4_fork_38 : decode cX4_fork 38 = .ok (.new 22, 3) := by decide +kernel
theorem dX4_fork_41 : decode cX4_fork 41 = .ok (.dup, 1) := by decide +kernel
theorem dX4_fork_42 : decode cX4_fork 42 = .ok (.aload_n 2, 1) := by decide +kernel
theorem dX4_fork_43 : decode cX4_fork 43 = .ok (.getfield 64, 3) := by decide +kernel
theorem dX4_fork_46 : decode cX4_fork 46 = .ok (.aload_n 2, 1) := by decide +kernel
theorem dX4_fork_47 : decode cX4_fork 47 = .ok (.getfield 68, 3) := by decide +kernel
theorem dX4_fork_50 : decode cX4_fork 50 = .ok (.aload_n 2, 1) := by decide +kernel
theorem dX4_fork_51 : decode cX4_fork 51 = .ok (.getfield 149, 3) := by decide +kernel
theorem dX4_fork_54 : decode cX4_fork 54 = .ok (.invokespecial 28, 3) := by decide +kernel
theorem dX4_fork_57 : decode cX4_fork 57 = .ok (.aastore, 1) := by decide +kernel
theorem dX4_fork_58 : decode cX4_fork 58 = .ok (.aload_n 0, 1) := by decide +kernel
theorem dX4_fork_59 : decode cX4_fork 59 = .ok (.dup, 1) := by decide +kernel
theorem dX4_fork_60 : decode cX4_fork 60 = .ok (.getfield 31, 3) := by decide +kernel
theorem dX4_fork_63 : decode cX4_fork 63 = .ok (.iconst 1, 1) := by decide +kernel
theorem dX4_fork_64 : decode cX4_fork 64 = .ok (.iadd, 1) := by decide +kernel
theorem dX4_fork_65 : decode cX4_fork 65 = .ok (.putfield 31, 3) := by decide +kernel
theorem dX4_fork_68 : decode cX4_fork 68 = .ok (.iload_n 3, 1) := by decide +kernel
theorem dX4_fork_69 : decode cX4_fork 69 = .ok (.ireturn, 1) := by decide +kernel
theorem dX4_drop_0 : decode cX4_drop 0 = .ok (.aload_n 0, 1) := by decide +kernel
theorem dX4_drop_1 : decode cX4_drop 1 = .ok (.iload_n 1, 1) := by decide +kernel
theorem dX4_drop_2 : decode cX4_drop 2 = .ok (.invokevirtual 53, 3) := by decide +kernel
theorem dX4_drop_5 : decode cX4_drop 5 = .ok (.astore_n 3, 1) := by decide +kernel
theorem dX4_drop_6 : decode cX4_drop 6 = .ok (.iload_n 2, 1) := by decide +kernel
theorem dX4_drop_7 : decode cX4_drop 7 = .ok (.ifCond .lt 9, 3) := by decide +kernel
theorem dX4_drop_10 : decode cX4_drop 10 = .ok (.iload_n 2, 1) := by decide +kernel
theorem dX4_drop_11 : decode cX4_drop 11 = .ok (.bipush 15, 2) := by decide +kernel
theorem dX4_drop_13 : decode cX4_drop 13 = .ok (.if_icmp .le 13, 3) := by decide +kernel
theorem dX4_drop_16 : decode cX4_drop 16 = .ok (.new 80, 3) := by decide +kernel
theorem dX4_drop_19 : decode cX4_drop 19 = .ok (.dup, 1) := by decide +kernel
theorem dX4_drop_20 : decode cX4_drop 20 = .ok (.ldc 152, 2) := by decide +kernel
theorem dX4_drop_22 : decode cX4_drop 22 = .ok (.invokespecial 84, 3) := by decide +kernel
theorem dX4_drop_25 : decode cX4_drop 25 = .ok (.athrow, 1) := by decide +kernel
theorem dX4_drop_26 : decode cX4_drop 26 = .ok (.aload_n 3, 1) := by decide +kernel
theorem dX4_drop_27 : decode cX4_drop 27 = .ok (.dup, 1) := by decide +kernel
theorem dX4_drop_28 : decode cX4_drop 28 = .ok (.getfield 149, 3) := by decide +kernel
theorem dX4_drop_31 : decode cX4_drop 31 = .ok (.iload_n 2, 1) := by decide +kernel
theorem dX4_drop_32 : decode cX4_drop 32 = .ok (.iconst (-1), 1) := by decide +kernel
theorem dX4_drop_33 : decode cX4_drop 33 = .ok (.ixor, 1) := by decide +kernel
theorem dX4_drop_34 : decode cX4_drop 34 = .ok (.iand, 1) := by decide +kernel
theorem dX4_drop_35 : decode cX4_drop 35 = .ok (.putfield 149, 3) := by decide +kernel
theorem dX4_drop_38 : decode cX4_drop 38 = .ok (.aload_n 3, 1) := by decide +kernel
theorem dX4_drop_39 : decode cX4_drop 39 = .ok (.getfield 149, 3) := by decide +kernel
theorem dX4_drop_42 : decode cX4_drop 42 = .ok (.ireturn, 1) := by decide +kernel
theorem dX4_enter_0 : decode cX4_enter 0 = .ok (.aload_n 0, 1) := by decide +kernel
theorem dX4_enter_1 : decode cX4_enter 1 = .ok (.iload_n 1, 1) := by decide +kernel
theorem dX4_enter_2 : decode cX4_enter 2 = .ok (.invokevirtual 53, 3) := by decide +kernel
theorem dX4_enter_5 : decode cX4_enter 5 = .ok (.astore_n 3, 1) := by decide +kernel
theorem dX4_enter_6 : decode cX4_enter 6 = .ok (.aload_n 0, 1) := by decide +kernel
theorem dX4_enter_7 : decode cX4_enter 7 = .ok (.iload_n 2, 1) := by decide +kernel
theorem dX4_enter_8 : decode cX4_enter 8 = .ok (.invokevirtual 96, 3) := by decide +kernel
theorem dX4_enter_11 : decode cX4_enter 11 = .ok (.astore 4, 2) := by decide +kernel
theorem dX4_enter_13 : decode cX4_enter 13 = .ok (.aload 4, 2) := by decide +kernel
theorem dX4_enter_15 : decode cX4_enter 15 = .ok (.getfield 100, 3) := by decide +kernel
theorem dX4_enter_18 : decode cX4_enter 18 = .ok (.aload_n 3, 1) := by decide +kernel
theorem dX4_enter_19 : decode cX4_enter 19 = .ok (.getfield 64, 3) := by decide +kernel
theorem dX4_enter_22 : decode cX4_enter 22 = .ok (.invokestatic 154, 3) := by decide +kernel
theorem dX4_enter_25 : decode cX4_enter 25 = .ok (.ifCond .ne 10, 3) := by decide +kernel
theorem dX4_enter_28 : decode cX4_enter 28 = .ok (.aload_n 0, 1) := by decide +kernel
theorem dX4_enter_29 : decode cX4_enter 29 = .ok (.bipush (-5), 2) := by decide +kernel
theorem dX4_enter_31 : decode cX4_enter 31 = .ok (.invokevirtual 111, 3) := by decide +kernel
theorem dX4_enter_34 : decode cX4_enter 34 = .ok (.ireturn, 1) := by decide +kernel
theorem dX4_enter_35 : decode cX4_enter 35 = .ok (.aload_n 3, 1) := by decide +kernel
theorem dX4_enter_36 : decode cX4_enter 36 = .ok (.iconst 1, 1) := by decide +kernel
theorem dX4_enter_37 : decode cX4_enter 37 = .ok (.aload 4, 2) := by decide +kernel
theorem dX4_enter_39 : decode cX4_enter 39 = .ok (.invokevirtual 136, 3) := by decide +kernel
theorem dX4_enter_42 : decode cX4_enter 42 = .ok (.ifCond .ne 9, 3) := by decide +kernel
theorem dX4_enter_45 : decode cX4_enter 45 = .ok (.aload_n 0, 1) := by decide +kernel
theorem dX4_enter_46 : decode cX4_enter 46 = .ok (.iconst (-1), 1) := by decide +kernel
theorem dX4_enter_47 : decode cX4_enter 47 = .ok (.invokevirtual 111, 3) := by decide +kernel
theorem dX4_enter_50 : decode cX4_enter 50 = .ok (.ireturn, 1) := by decide +kernel
theorem dX4_enter_51 : decode cX4_enter 51 = .ok (.aload_n 3, 1) := by decide +kernel
theorem dX4_enter_52 : decode cX4_enter 52 = .ok (.aload 4, 2) := by decide +kernel
theorem dX4_enter_54 : decode cX4_enter 54 = .ok (.invokevirtual 71, 3) := by decide +kernel
theorem dX4_enter_57 : decode cX4_enter 57 = .ok (.aload_n 3, 1) := by decide +kernel
theorem dX4_enter_58 : decode cX4_enter 58 = .ok (.getfield 149, 3) := by decide +kernel
theorem dX4_enter_61 : decode cX4_enter 61 = .ok (.ireturn, 1) := by decide +kernel
theorem dX4_setNumber_0 : decode cX4_setNumber 0 = .ok (.aload_n 0, 1) := by decide +kernel
theorem dX4_setNumber_1 : decode cX4_setNumber 1 = .ok (.iload_n 1, 1) := by decide +kernel
theorem dX4_setNumber_2 : decode cX4_setNumber 2 = .ok (.invokevirtual 53, 3) := by decide +kernel
theorem dX4_setNumber_5 : decode cX4_setNumber 5 = .ok (.astore_n 3, 1) := by decide +kernel
theorem dX4_setNumber_6 : decode cX4_setNumber 6 = .ok (.iload_n 2, 1) := by decide +kernel
theorem dX4_setNumber_7 : decode cX4_setNumber 7 = .ok (.invokestatic 76, 3) := by decide +kernel
theorem dX4_setNumber_10 : decode cX4_setNumber 10 = .ok (.aload_n 3, 1) := by decide +kernel
theorem dX4_setNumber_11 : decode cX4_setNumber 11 = .ok (.getfield 64, 3) := by decide +kernel
theorem dX4_setNumber_14 : decode cX4_setNumber 14 = .ok (.iload_n 2, 1) := by decide +kernel
theorem dX4_setNumber_15 : decode cX4_setNumber 15 = .ok (.invokestatic 132, 3) := by decide +kernel
theorem dX4_setNumber_18 : decode cX4_setNumber 18 = .ok (.istore 4, 2) := by decide +kernel
theorem dX4_setNumber_20 : decode cX4_setNumber 20 = .ok (.iload 4, 2) := by decide +kernel
theorem dX4_setNumber_22 : decode cX4_setNumber 22 = .ok (.iconst (-1), 1) := by decide +kernel
theorem dX4_setNumber_23 : decode cX4_setNumber 23 = .ok (.if_icmp .ne 10, 3) := by decide +kernel
theorem dX4_setNumber_26 : decode cX4_setNumber 26 = .ok (.aload_n 0, 1) := by decide +kernel
theorem dX4_setNumber_27 : decode cX4_setNumber 27 = .ok (.bipush (-2), 2) := by decide +kernel
theorem dX4_setNumber_29 : decode cX4_setNumber 29 = .ok (.invokevirtual 111, 3) := by decide +kernel
theorem dX4_setNumber_32 : decode cX4_setNumber 32 = .ok (.ireturn, 1) := by decide +kernel
theorem dX4_setNumber_33 : decode cX4_setNumber 33 = .ok (.iload 4, 2) := by decide +kernel
theorem dX4_setNumber_35 : decode cX4_setNumber 35 = .ok (.aload_n 3, 1) := by decide +kernel
theorem dX4_setNumber_36 : decode cX4_setNumber 36 = .ok (.getfield 68, 3) := by decide +kernel
theorem dX4_setNumber_39 : decode cX4_setNumber 39 = .ok (.if_icmp .eq 22, 3) := by decide +kernel
theorem dX4_setNumber_42 : decode cX4_setNumber 42 = .ok (.aload_n 3, 1) := by decide +kernel
theorem dX4_setNumber_43 : decode cX4_setNumber 43 = .ok (.bipush 8, 2) := by decide +kernel
theorem dX4_setNumber_45 : decode cX4_setNumber 45 = .ok (.aload_n 3, 1) := by decide +kernel
theorem dX4_setNumber_46 : decode cX4_setNumber 46 = .ok (.getfield 64, 3) := by decide +kernel
theorem dX4_setNumber_49 : decode cX4_setNumber 49 = .ok (.invokevirtual 136, 3) := by decide +kernel
theorem dX4_setNumber_52 : decode cX4_setNumber 52 = .ok (.ifCond .ne 9, 3) := by decide +kernel
theorem dX4_setNumber_55 : decode cX4_setNumber 55 = .ok (.aload_n 0, 1) := by decide +kernel
theorem dX4_setNumber_56 : decode cX4_setNumber 56 = .ok (.iconst (-1), 1) := by decide +kernel
theorem dX4_setNumber_57 : decode cX4_setNumber 57 = .ok (.invokevirtual 111, 3) := by decide +kernel
theorem dX4_setNumber_60 : decode cX4_setNumber 60 = .ok (.ireturn, 1) := by decide +kernel
theorem dX4_setNumber_61 : decode cX4_setNumber 61 = .ok (.iload_n 2, 1) := by decide +kernel
theorem dX4_setNumber_62 : decode cX4_setNumber 62 = .ok (.ifCond .eq 23, 3) := by decide +kernel
theorem dX4_setNumber_65 : decode cX4_setNumber 65 = .ok (.aload_n 0, 1) := by decide +kernel
theorem dX4_setNumber_66 : decode cX4_setNumber 66 = .ok (.aload_n 3, 1) := by decide +kernel
theorem dX4_setNumber_67 : decode cX4_setNumber 67 = .ok (.getfield 64, 3) := by decide +kernel
theorem dX4_setNumber_70 : decode cX4_setNumber 70 = .ok (.aload_n 3, 1) := by decide +kernel
theorem dX4_setNumber_71 : decode cX4_setNumber 71 = .ok (.getfield 68, 3) := by decide +kernel
theorem dX4_setNumber_74 : decode cX4_setNumber 74 = .ok (.invokevirtual 144, 3) := by decide +kernel
theorem dX4_setNumber_77 : decode cX4_setNumber 77 = .ok (.ifCond .ne 8, 3) := by decide +kernel
theorem dX4_setNumber_80 : decode cX4_setNumber 80 = .ok (.aload_n 3, 1) := by decide +kernel
theorem dX4_setNumber_81 : decode cX4_setNumber 81 = .ok (.iconst 0, 1) := by decide +kernel
theorem dX4_setNumber_82 : decode cX4_setNumber 82 = .ok (.putfield 149, 3) := by decide +kernel
theorem dX4_setNumber_85 : decode cX4_setNumber 85 = .ok (.aload_n 3, 1) := by decide +kernel
theorem dX4_setNumber_86 : decode cX4_setNumber 86 = .ok (.iload 4, 2) := by decide +kernel
theorem dX4_setNumber_88 : decode cX4_setNumber 88 = .ok (.putfield 68, 3) := by decide +kernel
theorem dX4_setNumber_91 : decode cX4_setNumber 91 = .ok (.iload 4, 2) := by decide +kernel
theorem dX4_setNumber_93 : decode cX4_setNumber 93 = .ok (.ireturn, 1) := by decide +kernel
theorem dX4_processes_0 : decode cX4_processes 0 = .ok (.aload_n 0, 1) := by decide +kernel
theorem dX4_processes_1 : decode cX4_processes 1 = .ok (.getfield 31, 3) := by decide +kernel
theorem dX4_processes_4 : decode cX4_processes 4 = .ok (.ireturn, 1) := by decide +kernel
theorem dX4_roomOf_0 : decode cX4_roomOf 0 = .ok (.aload_n 0, 1) := by decide +kernel
theorem dX4_roomOf_1 : decode cX4_roomOf 1 = .ok (.iload_n 1, 1) := by decide +kernel
theorem dX4_roomOf_2 : decode cX4_roomOf 2 = .ok (.invokevirtual 53, 3) := by decide +kernel
theorem dX4_roomOf_5 : decode cX4_roomOf 5 = .ok (.getfield 64, 3) := by decide +kernel
theorem dX4_roomOf_8 : decode cX4_roomOf 8 = .ok (.invokestatic 140, 3) := by decide +kernel
theorem dX4_roomOf_11 : decode cX4_roomOf 11 = .ok (.ireturn, 1) := by decide +kernel
theorem dX4_numberOf_0 : decode cX4_numberOf 0 = .ok (.aload_n 0, 1) := by decide +kernel
theorem dX4_numberOf_1 : decode cX4_numberOf 1 = .ok (.iload_n 1, 1) := by decide +kernel
theorem dX4_numberOf_2 : decode cX4_numberOf 2 = .ok (.invokevirtual 53, 3) := by decide +kernel
theorem dX4_numberOf_5 : decode cX4_numberOf 5 = .ok (.getfield 68, 3) := by decide +kernel
theorem dX4_numberOf_8 : decode cX4_numberOf 8 = .ok (.ireturn, 1) := by decide +kernel
theorem dX4_rightsIn_0 : decode cX4_rightsIn 0 = .ok (.aload_n 0, 1) := by decide +kernel
theorem dX4_rightsIn_1 : decode cX4_rightsIn 1 = .ok (.iload_n 1, 1) := by decide +kernel
theorem dX4_rightsIn_2 : decode cX4_rightsIn 2 = .ok (.invokevirtual 53, 3) := by decide +kernel
theorem dX4_rightsIn_5 : decode cX4_rightsIn 5 = .ok (.astore_n 3, 1) := by decide +kernel
theorem dX4_rightsIn_6 : decode cX4_rightsIn 6 = .ok (.aload_n 3, 1) := by decide +kernel
theorem dX4_rightsIn_7 : decode cX4_rightsIn 7 = .ok (.aload_n 0, 1) := by decide +kernel
theorem dX4_rightsIn_8 : decode cX4_rightsIn 8 = .ok (.iload_n 2, 1) := by decide +kernel
theorem dX4_rightsIn_9 : decode cX4_rightsIn 9 = .ok (.invokevirtual 96, 3) := by decide +kernel
theorem dX4_rightsIn_12 : decode cX4_rightsIn 12 = .ok (.invokevirtual 158, 3) := by decide +kernel
theorem dX4_rightsIn_15 : decode cX4_rightsIn 15 = .ok (.ireturn, 1) := by decide +kernel
theorem dX4_makeFile_0 : decode cX4_makeFile 0 = .ok (.aload_n 0, 1) := by decide +kernel
theorem dX4_makeFile_1 : decode cX4_makeFile 1 = .ok (.iload_n 1, 1) := by decide +kernel
theorem dX4_makeFile_2 : decode cX4_makeFile 2 = .ok (.invokevirtual 53, 3) := by decide +kernel
theorem dX4_makeFile_5 : decode cX4_makeFile 5 = .ok (.astore_n 3, 1) := by decide +kernel
theorem dX4_makeFile_6 : decode cX4_makeFile 6 = .ok (.iload_n 2, 1) := by decide +kernel
theorem dX4_makeFile_7 : decode cX4_makeFile 7 = .ok (.ifCond .lt 9, 3) := by decide +kernel
theorem dX4_makeFile_10 : decode cX4_makeFile 10 = .ok (.iload_n 2, 1) := by decide +kernel
theorem dX4_makeFile_11 : decode cX4_makeFile 11 = .ok (.bipush 15, 2) := by decide +kernel
theorem dX4_makeFile_13 : decode cX4_makeFile 13 = .ok (.if_icmp .le 13, 3) := by decide +kernel
theorem dX4_makeFile_16 : decode cX4_makeFile 16 = .ok (.new 80, 3) := by decide +kernel
theorem dX4_makeFile_19 : decode cX4_makeFile 19 = .ok (.dup, 1) := by decide +kernel
theorem dX4_makeFile_20 : decode cX4_makeFile 20 = .ok (.ldc 161, 2) := by decide +kernel
theorem dX4_makeFile_22 : decode cX4_makeFile 22 = .ok (.invokespecial 84, 3) := by decide +kernel
theorem dX4_makeFile_25 : decode cX4_makeFile 25 = .ok (.athrow, 1) := by decide +kernel
theorem dX4_makeFile_26 : decode cX4_makeFile 26 = .ok (.aload_n 0, 1) := by decide +kernel
theorem dX4_makeFile_27 : decode cX4_makeFile 27 = .ok (.getfield 40, 3) := by decide +kernel
theorem dX4_makeFile_30 : decode cX4_makeFile 30 = .ok (.aload_n 0, 1) := by decide +kernel
theorem dX4_makeFile_31 : decode cX4_makeFile 31 = .ok (.getfield 36, 3) := by decide +kernel
theorem dX4_makeFile_34 : decode cX4_makeFile 34 = .ok (.arraylength, 1) := by decide +kernel
theorem dX4_makeFile_35 : decode cX4_makeFile 35 = .ok (.if_icmp .lt 13, 3) := by decide +kernel
theorem dX4_makeFile_38 : decode cX4_makeFile 38 = .ok (.new 57, 3) := by decide +kernel
theorem dX4_makeFile_41 : decode cX4_makeFile 41 = .ok (.dup, 1) := by decide +kernel
theorem dX4_makeFile_42 : decode cX4_makeFile 42 = .ok (.ldc 163, 2) := by decide +kernel
theorem dX4_makeFile_44 : decode cX4_makeFile 44 = .ok (.invokespecial 61, 3) := by decide +kernel
theorem dX4_makeFile_47 : decode cX4_makeFile 47 = .ok (.athrow, 1) := by decide +kernel
theorem dX4_makeFile_48 : decode cX4_makeFile 48 = .ok (.aload_n 0, 1) := by decide +kernel
theorem dX4_makeFile_49 : decode cX4_makeFile 49 = .ok (.aload_n 3, 1) := by decide +kernel
theorem dX4_makeFile_50 : decode cX4_makeFile 50 = .ok (.getfield 64, 3) := by decide +kernel
theorem dX4_makeFile_53 : decode cX4_makeFile 53 = .ok (.aload_n 3, 1) := by decide +kernel
theorem dX4_makeFile_54 : decode cX4_makeFile 54 = .ok (.getfield 68, 3) := by decide +kernel
theorem dX4_makeFile_57 : decode cX4_makeFile 57 = .ok (.invokevirtual 144, 3) := by decide +kernel
theorem dX4_makeFile_60 : decode cX4_makeFile 60 = .ok (.sipush 999, 3) := by decide +kernel
theorem dX4_makeFile_63 : decode cX4_makeFile 63 = .ok (.if_icmp .ne 10, 3) := by decide +kernel
theorem dX4_makeFile_66 : decode cX4_makeFile 66 = .ok (.aload_n 0, 1) := by decide +kernel
theorem dX4_makeFile_67 : decode cX4_makeFile 67 = .ok (.bipush (-2), 2) := by decide +kernel
theorem dX4_makeFile_69 : decode cX4_makeFile 69 = .ok (.invokevirtual 111, 3) := by decide +kernel
theorem dX4_makeFile_72 : decode cX4_makeFile 72 = .ok (.ireturn, 1) := by decide +kernel
theorem dX4_makeFile_73 : decode cX4_makeFile 73 = .ok (.aload_n 0, 1) := by decide +kernel
theorem dX4_makeFile_74 : decode cX4_makeFile 74 = .ok (.getfield 40, 3) := by decide +kernel
theorem dX4_makeFile_77 : decode cX4_makeFile 77 = .ok (.istore 4, 2) := by decide +kernel
theorem dX4_makeFile_79 : decode cX4_makeFile 79 = .ok (.aload_n 0, 1) := by decide +kernel
theorem dX4_makeFile_80 : decode cX4_makeFile 80 = .ok (.getfield 36, 3) := by decide +kernel
theorem dX4_makeFile_83 : decode cX4_makeFile 83 = .ok (.iload 4, 2) := by decide +kernel
theorem dX4_makeFile_85 : decode cX4_makeFile 85 = .ok (.new 34, 3) := by decide +kernel
theorem dX4_makeFile_88 : decode cX4_makeFile 88 = .ok (.dup, 1) := by decide +kernel
theorem dX4_makeFile_89 : decode cX4_makeFile 89 = .ok (.aload_n 3, 1) := by decide +kernel
theorem dX4_makeFile_90 : decode cX4_makeFile 90 = .ok (.getfield 68, 3) := by decide +kernel
theorem dX4_makeFile_93 : decode cX4_makeFile 93 = .ok (.iload_n 2, 1) := by decide +kernel
theorem dX4_makeFile_94 : decode cX4_makeFile 94 = .ok (.invokespecial 165, 3) := by decide +kernel
theorem dX4_makeFile_97 : decode cX4_makeFile 97 = .ok (.aastore, 1) := by decide +kernel
theorem dX4_makeFile_98 : decode cX4_makeFile 98 = .ok (.aload_n 0, 1) := by decide +kernel
theorem dX4_makeFile_99 : decode cX4_makeFile 99 = .ok (.dup, 1) := by decide +kernel
theorem dX4_makeFile_100 : decode cX4_makeFile 100 = .ok (.getfield 40, 3) := by decide +kernel
theorem dX4_makeFile_103 : decode cX4_makeFile 103 = .ok (.iconst 1, 1) := by decide +kernel
theorem dX4_makeFile_104 : decode cX4_makeFile 104 = .ok (.iadd, 1) := by decide +kernel
theorem dX4_makeFile_105 : decode cX4_makeFile 105 = .ok (.putfield 40, 3) := by decide +kernel
theorem dX4_makeFile_108 : decode cX4_makeFile 108 = .ok (.iload 4, 2) := by decide +kernel
theorem dX4_makeFile_110 : decode cX4_makeFile 110 = .ok (.ireturn, 1) := by decide +kernel
theorem dX4_handOver_0 : decode cX4_handOver 0 = .ok (.aload_n 0, 1) := by decide +kernel
theorem dX4_handOver_1 : decode cX4_handOver 1 = .ok (.iload_n 1, 1) := by decide +kernel
theorem dX4_handOver_2 : decode cX4_handOver 2 = .ok (.invokevirtual 53, 3) := by decide +kernel
theorem dX4_handOver_5 : decode cX4_handOver 5 = .ok (.astore 4, 2) := by decide +kernel
theorem dX4_handOver_7 : decode cX4_handOver 7 = .ok (.aload_n 0, 1) := by decide +kernel
theorem dX4_handOver_8 : decode cX4_handOver 8 = .ok (.iload_n 2, 1) := by decide +kernel
theorem dX4_handOver_9 : decode cX4_handOver 9 = .ok (.invokevirtual 168, 3) := by decide +kernel
theorem dX4_handOver_12 : decode cX4_handOver 12 = .ok (.astore 5, 2) := by decide +kernel
theorem dX4_handOver_14 : decode cX4_handOver 14 = .ok (.iload_n 3, 1) := by decide +kernel
theorem dX4_handOver_15 : decode cX4_handOver 15 = .ok (.invokestatic 76, 3) := by decide +kernel
theorem dX4_handOver_18 : decode cX4_handOver 18 = .ok (.aload 4, 2) := by decide +kernel
theorem dX4_handOver_20 : decode cX4_handOver 20 = .ok (.getfield 64, 3) := by decide +kernel
theorem dX4_handOver_23 : decode cX4_handOver 23 = .ok (.iload_n 3, 1) := by decide +kernel
theorem dX4_handOver_24 : decode cX4_handOver 24 = .ok (.invokestatic 132, 3) := by decide +kernel
theorem dX4_handOver_27 : decode cX4_handOver 27 = .ok (.istore 6, 2) := by decide +kernel
theorem dX4_handOver_29 : decode cX4_handOver 29 = .ok (.iload 6, 2) := by decide +kernel
theorem dX4_handOver_31 : decode cX4_handOver 31 = .ok (.iconst (-1), 1) := by decide +kernel
theorem dX4_handOver_32 : decode cX4_handOver 32 = .ok (.if_icmp .eq 23, 3) := by decide +kernel
theorem dX4_handOver_35 : decode cX4_handOver 35 = .ok (.aload_n 0, 1) := by decide +kernel
theorem dX4_handOver_36 : decode cX4_handOver 36 = .ok (.aload 4, 2) := by decide +kernel
theorem dX4_handOver_38 : decode cX4_handOver 38 = .ok (.getfield 64, 3) := by decide +kernel
theorem dX4_handOver_41 : decode cX4_handOver 41 = .ok (.aload 5, 2) := by decide +kernel
theorem dX4_handOver_43 : decode cX4_handOver 43 = .ok (.getfield 172, 3) := by decide +kernel
theorem dX4_handOver_46 : decode cX4_handOver 46 = .ok (.invokevirtual 144, 3) := by decide +kernel
theorem dX4_handOver_49 : decode cX4_handOver 49 = .ok (.sipush 999, 3) := by decide +kernel
theorem dX4_handOver_52 : decode cX4_handOver 52 = .ok (.if_icmp .ne 10, 3) := by decide +kernel
theorem dX4_handOver_55 : decode cX4_handOver 55 = .ok (.aload_n 0, 1) := by decide +kernel
theorem dX4_handOver_56 : decode cX4_handOver 56 = .ok (.bipush (-2), 2) := by decide +kernel
theorem dX4_handOver_58 : decode cX4_handOver 58 = .ok (.invokevirtual 111, 3) := by decide +kernel
theorem dX4_handOver_61 : decode cX4_handOver 61 = .ok (.ireturn, 1) := by decide +kernel
theorem dX4_handOver_62 : decode cX4_handOver 62 = .ok (.aload 4, 2) := by decide +kernel
theorem dX4_handOver_64 : decode cX4_handOver 64 = .ok (.iconst 2, 1) := by decide +kernel
theorem dX4_handOver_65 : decode cX4_handOver 65 = .ok (.aload 4, 2) := by decide +kernel
theorem dX4_handOver_67 : decode cX4_handOver 67 = .ok (.getfield 64, 3) := by decide +kernel
theorem dX4_handOver_70 : decode cX4_handOver 70 = .ok (.invokevirtual 136, 3) := by decide +kernel
theorem dX4_handOver_73 : decode cX4_handOver 73 = .ok (.ifCond .ne 9, 3) := by decide +kernel
theorem dX4_handOver_76 : decode cX4_handOver 76 = .ok (.aload_n 0, 1) := by decide +kernel
theorem dX4_handOver_77 : decode cX4_handOver 77 = .ok (.iconst (-1), 1) := by decide +kernel
theorem dX4_handOver_78 : decode cX4_handOver 78 = .ok (.invokevirtual 111, 3) := by decide +kernel
theorem dX4_handOver_81 : decode cX4_handOver 81 = .ok (.ireturn, 1) := by decide +kernel
theorem dX4_handOver_82 : decode cX4_handOver 82 = .ok (.aload 5, 2) := by decide +kernel
theorem dX4_handOver_84 : decode cX4_handOver 84 = .ok (.iload 6, 2) := by decide +kernel
theorem dX4_handOver_86 : decode cX4_handOver 86 = .ok (.putfield 172, 3) := by decide +kernel
theorem dX4_handOver_89 : decode cX4_handOver 89 = .ok (.iload 6, 2) := by decide +kernel
theorem dX4_handOver_91 : decode cX4_handOver 91 = .ok (.ireturn, 1) := by decide +kernel
theorem dX4_open_0 : decode cX4_open 0 = .ok (.aload_n 0, 1) := by decide +kernel
theorem dX4_open_1 : decode cX4_open 1 = .ok (.iload_n 1, 1) := by decide +kernel
theorem dX4_open_2 : decode cX4_open 2 = .ok (.invokevirtual 53, 3) := by decide +kernel
theorem dX4_open_5 : decode cX4_open 5 = .ok (.astore 4, 2) := by decide +kernel
theorem dX4_open_7 : decode cX4_open 7 = .ok (.aload_n 0, 1) := by decide +kernel
theorem dX4_open_8 : decode cX4_open 8 = .ok (.iload_n 2, 1) := by decide +kernel
theorem dX4_open_9 : decode cX4_open 9 = .ok (.invokevirtual 168, 3) := by decide +kernel
theorem dX4_open_12 : decode cX4_open 12 = .ok (.astore 5, 2) := by decide +kernel
theorem dX4_open_14 : decode cX4_open 14 = .ok (.aload 5, 2) := by decide +kernel
theorem dX4_open_16 : decode cX4_open 16 = .ok (.aload 4, 2) := by decide +kernel
theorem dX4_open_18 : decode cX4_open 18 = .ok (.getfield 68, 3) := by decide +kernel
theorem dX4_open_21 : decode cX4_open 21 = .ok (.iload_n 3, 1) := by decide +kernel
theorem dX4_open_22 : decode cX4_open 22 = .ok (.invokevirtual 173, 3) := by decide +kernel
theorem dX4_open_25 : decode cX4_open 25 = .ok (.ifCond .eq 5, 3) := by decide +kernel
theorem dX4_open_28 : decode cX4_open 28 = .ok (.iconst 1, 1) := by decide +kernel
theorem dX4_open_29 : decode cX4_open 29 = .ok (.ireturn, 1) := by decide +kernel
theorem dX4_open_30 : decode cX4_open 30 = .ok (.aload 4, 2) := by decide +kernel
theorem dX4_open_32 : decode cX4_open 32 = .ok (.iconst 4, 1) := by decide +kernel
theorem dX4_open_33 : decode cX4_open 33 = .ok (.aload 4, 2) := by decide +kernel
theorem dX4_open_35 : decode cX4_open 35 = .ok (.getfield 64, 3) := by decide +kernel
theorem dX4_open_38 : decode cX4_open 38 = .ok (.invokevirtual 136, 3) := by decide +kernel
theorem dX4_open_41 : decode cX4_open 41 = .ok (.ifCond .ne 10, 3) := by decide +kernel
theorem dX4_open_44 : decode cX4_open 44 = .ok (.aload_n 0, 1) := by decide +kernel
theorem dX4_open_45 : decode cX4_open 45 = .ok (.bipush (-6), 2) := by decide +kernel
theorem dX4_open_47 : decode cX4_open 47 = .ok (.invokevirtual 111, 3) := by decide +kernel
theorem dX4_open_50 : decode cX4_open 50 = .ok (.ireturn, 1) := by decide +kernel
theorem dX4_open_51 : decode cX4_open 51 = .ok (.aload_n 0, 1) := by decide +kernel
theorem dX4_open_52 : decode cX4_open 52 = .ok (.aload 4, 2) := by decide +kernel
theorem dX4_open_54 : decode cX4_open 54 = .ok (.getfield 64, 3) := by decide +kernel
theorem dX4_open_57 : decode cX4_open 57 = .ok (.aload 5, 2) := by decide +kernel
theorem dX4_open_59 : decode cX4_open 59 = .ok (.getfield 172, 3) := by decide +kernel
theorem dX4_open_62 : decode cX4_open 62 = .ok (.invokevirtual 144, 3) := by decide +kernel
theorem dX4_open_65 : decode cX4_open 65 = .ok (.sipush 999, 3) := by decide +kernel
theorem dX4_open_68 : decode cX4_open 68 = .ok (.if_icmp .ne 10, 3) := by decide +kernel
theorem dX4_open_71 : decode cX4_open 71 = .ok (.aload_n 0, 1) := by decide +kernel
theorem dX4_open_72 : decode cX4_open 72 = .ok (.bipush (-2), 2) := by decide +kernel
theorem dX4_open_74 : decode cX4_open 74 = .ok (.invokevirtual 111, 3) := by decide +kernel
theorem dX4_open_77 : decode cX4_open 77 = .ok (.ireturn, 1) := by decide +kernel
theorem dX4_open_78 : decode cX4_open 78 = .ok (.iconst 2, 1) := by decide +kernel
theorem dX4_open_79 : decode cX4_open 79 = .ok (.ireturn, 1) := by decide +kernel
theorem dX4_ownerSeenBy_0 : decode cX4_ownerSeenBy 0 = .ok (.aload_n 0, 1) := by decide +kernel
theorem dX4_ownerSeenBy_1 : decode cX4_ownerSeenBy 1 = .ok (.iload_n 1, 1) := by decide +kernel
theorem dX4_ownerSeenBy_2 : decode cX4_ownerSeenBy 2 = .ok (.invokevirtual 53, 3) := by decide +kernel
theorem dX4_ownerSeenBy_5 : decode cX4_ownerSeenBy 5 = .ok (.astore_n 3, 1) := by decide +kernel
theorem dX4_ownerSeenBy_6 : decode cX4_ownerSeenBy 6 = .ok (.aload_n 0, 1) := by decide +kernel
theorem dX4_ownerSeenBy_7 : decode cX4_ownerSeenBy 7 = .ok (.aload_n 3, 1) := by decide +kernel
theorem dX4_ownerSeenBy_8 : decode cX4_ownerSeenBy 8 = .ok (.getfield 64, 3) := by decide +kernel
theorem dX4_ownerSeenBy_11 : decode cX4_ownerSeenBy 11 = .ok (.aload_n 0, 1) := by decide +kernel
theorem dX4_ownerSeenBy_12 : decode cX4_ownerSeenBy 12 = .ok (.iload_n 2, 1) := by decide +kernel
theorem dX4_ownerSeenBy_13 : decode cX4_ownerSeenBy 13 = .ok (.invokevirtual 168, 3) := by decide +kernel
theorem dX4_ownerSeenBy_16 : decode cX4_ownerSeenBy 16 = .ok (.getfield 172, 3) := by decide +kernel
theorem dX4_ownerSeenBy_19 : decode cX4_ownerSeenBy 19 = .ok (.invokevirtual 144, 3) := by decide +kernel
theorem dX4_ownerSeenBy_22 : decode cX4_ownerSeenBy 22 = .ok (.ireturn, 1) := by decide +kernel
theorem dX4_files_0 : decode cX4_files 0 = .ok (.aload_n 0, 1) := by decide +kernel
theorem dX4_files_1 : decode cX4_files 1 = .ok (.getfield 40, 3) := by decide +kernel
theorem dX4_files_4 : decode cX4_files 4 = .ok (.ireturn, 1) := by decide +kernel
theorem dX4_refusals_0 : decode cX4_refusals 0 = .ok (.aload_n 0, 1) := by decide +kernel
theorem dX4_refusals_1 : decode cX4_refusals 1 = .ok (.getfield 47, 3) := by decide +kernel
theorem dX4_refusals_4 : decode cX4_refusals 4 = .ok (.ireturn, 1) := by decide +kernel
theorem dX4_lastRefusal_0 : decode cX4_lastRefusal 0 = .ok (.aload_n 0, 1) := by decide +kernel
theorem dX4_lastRefusal_1 : decode cX4_lastRefusal 1 = .ok (.getfield 50, 3) := by decide +kernel
theorem dX4_lastRefusal_4 : decode cX4_lastRefusal 4 = .ok (.ireturn, 1) := by decide +kernel
theorem dX4_roomAt_0 : decode cX4_roomAt 0 = .ok (.iload_n 1, 1) := by decide +kernel
theorem dX4_roomAt_1 : decode cX4_roomAt 1 = .ok (.ifCond .lt 12, 3) := by decide +kernel
theorem dX4_roomAt_4 : decode cX4_roomAt 4 = .ok (.iload_n 1, 1) := by decide +kernel
theorem dX4_roomAt_5 : decode cX4_roomAt 5 = .ok (.aload_n 0, 1) := by decide +kernel
theorem dX4_roomAt_6 : decode cX4_roomAt 6 = .ok (.getfield 14, 3) := by decide +kernel
theorem dX4_roomAt_9 : decode cX4_roomAt 9 = .ok (.arraylength, 1) := by decide +kernel
theorem dX4_roomAt_10 : decode cX4_roomAt 10 = .ok (.if_icmp .lt 13, 3) := by decide +kernel
theorem dX4_roomAt_13 : decode cX4_roomAt 13 = .ok (.new 103, 3) := by decide +kernel
theorem dX4_roomAt_16 : decode cX4_roomAt 16 = .ok (.dup, 1) := by decide +kernel
theorem dX4_roomAt_17 : decode cX4_roomAt 17 = .ok (.ldc 177, 2) := by decide +kernel
theorem dX4_roomAt_19 : decode cX4_roomAt 19 = .ok (.invokespecial 107, 3) := by decide +kernel
theorem dX4_roomAt_22 : decode cX4_roomAt 22 = .ok (.athrow, 1) := by decide +kernel
theorem dX4_roomAt_23 : decode cX4_roomAt 23 = .ok (.aload_n 0, 1) := by decide +kernel
theorem dX4_roomAt_24 : decode cX4_roomAt 24 = .ok (.getfield 14, 3) := by decide +kernel
theorem dX4_roomAt_27 : decode cX4_roomAt 27 = .ok (.iload_n 1, 1) := by decide +kernel
theorem dX4_roomAt_28 : decode cX4_roomAt 28 = .ok (.aaload, 1) := by decide +kernel
theorem dX4_roomAt_29 : decode cX4_roomAt 29 = .ok (.astore_n 2, 1) := by decide +kernel
theorem dX4_roomAt_30 : decode cX4_roomAt 30 = .ok (.aload_n 2, 1) := by decide +kernel
theorem dX4_roomAt_31 : decode cX4_roomAt 31 = .ok (.ifnonnull 13, 3) := by decide +kernel
theorem dX4_roomAt_34 : decode cX4_roomAt 34 = .ok (.new 103, 3) := by decide +kernel
theorem dX4_roomAt_37 : decode cX4_roomAt 37 = .ok (.dup, 1) := by decide +kernel
theorem dX4_roomAt_38 : decode cX4_roomAt 38 = .ok (.ldc 177, 2) := by decide +kernel
theorem dX4_roomAt_40 : decode cX4_roomAt 40 = .ok (.invokespecial 107, 3) := by decide +kernel
theorem dX4_roomAt_43 : decode cX4_roomAt 43 = .ok (.athrow, 1) := by decide +kernel
theorem dX4_roomAt_44 : decode cX4_roomAt 44 = .ok (.aload_n 2, 1) := by decide +kernel
theorem dX4_roomAt_45 : decode cX4_roomAt 45 = .ok (.areturn, 1) := by decide +kernel
theorem dX4_processAt_0 : decode cX4_processAt 0 = .ok (.iload_n 1, 1) := by decide +kernel
theorem dX4_processAt_1 : decode cX4_processAt 1 = .ok (.ifCond .lt 12, 3) := by decide +kernel
theorem dX4_processAt_4 : decode cX4_processAt 4 = .ok (.iload_n 1, 1) := by decide +kernel
theorem dX4_processAt_5 : decode cX4_processAt 5 = .ok (.aload_n 0, 1) := by decide +kernel
theorem dX4_processAt_6 : decode cX4_processAt 6 = .ok (.getfield 24, 3) := by decide +kernel
theorem dX4_processAt_9 : decode cX4_processAt 9 = .ok (.arraylength, 1) := by decide +kernel
theorem dX4_processAt_10 : decode cX4_processAt 10 = .ok (.if_icmp .lt 13, 3) := by decide +kernel
theorem dX4_processAt_13 : decode cX4_processAt 13 = .ok (.new 103, 3) := by decide +kernel
theorem dX4_processAt_16 : decode cX4_processAt 16 = .ok (.dup, 1) := by decide +kernel
theorem dX4_processAt_17 : decode cX4_processAt 17 = .ok (.ldc 179, 2) := by decide +kernel
theorem dX4_processAt_19 : decode cX4_processAt 19 = .ok (.invokespecial 107, 3) := by decide +kernel
theorem dX4_processAt_22 : decode cX4_processAt 22 = .ok (.athrow, 1) := by decide +kernel
theorem dX4_processAt_23 : decode cX4_processAt 23 = .ok (.aload_n 0, 1) := by decide +kernel
theorem dX4_processAt_24 : decode cX4_processAt 24 = .ok (.getfield 24, 3) := by decide +kernel
theorem dX4_processAt_27 : decode cX4_processAt 27 = .ok (.iload_n 1, 1) := by decide +kernel
theorem dX4_processAt_28 : decode cX4_processAt 28 = .ok (.aaload, 1) := by decide +kernel
theorem dX4_processAt_29 : decode cX4_processAt 29 = .ok (.astore_n 2, 1) := by decide +kernel
theorem dX4_processAt_30 : decode cX4_processAt 30 = .ok (.aload_n 2, 1) := by decide +kernel
theorem dX4_processAt_31 : decode cX4_processAt 31 = .ok (.ifnonnull 13, 3) := by decide +kernel
theorem dX4_processAt_34 : decode cX4_processAt 34 = .ok (.new 103, 3) := by decide +kernel
theorem dX4_processAt_37 : decode cX4_processAt 37 = .ok (.dup, 1) := by decide +kernel
theorem dX4_processAt_38 : decode cX4_processAt 38 = .ok (.ldc 179, 2) := by decide +kernel
theorem dX4_processAt_40 : decode cX4_processAt 40 = .ok (.invokespecial 107, 3) := by decide +kernel
theorem dX4_processAt_43 : decode cX4_processAt 43 = .ok (.athrow, 1) := by decide +kernel
theorem dX4_processAt_44 : decode cX4_processAt 44 = .ok (.aload_n 2, 1) := by decide +kernel
theorem dX4_processAt_45 : decode cX4_processAt 45 = .ok (.areturn, 1) := by decide +kernel
theorem dX4_fileAt_0 : decode cX4_fileAt 0 = .ok (.iload_n 1, 1) := by decide +kernel
theorem dX4_fileAt_1 : decode cX4_fileAt 1 = .ok (.ifCond .lt 12, 3) := by decide +kernel
theorem dX4_fileAt_4 : decode cX4_fileAt 4 = .ok (.iload_n 1, 1) := by decide +kernel
theorem dX4_fileAt_5 : decode cX4_fileAt 5 = .ok (.aload_n 0, 1) := by decide +kernel
theorem dX4_fileAt_6 : decode cX4_fileAt 6 = .ok (.getfield 36, 3) := by decide +kernel
theorem dX4_fileAt_9 : decode cX4_fileAt 9 = .ok (.arraylength, 1) := by decide +kernel
theorem dX4_fileAt_10 : decode cX4_fileAt 10 = .ok (.if_icmp .lt 13, 3) := by decide +kernel
theorem dX4_fileAt_13 : decode cX4_fileAt 13 = .ok (.new 103, 3) := by decide +kernel
theorem dX4_fileAt_16 : decode cX4_fileAt 16 = .ok (.dup, 1) := by decide +kernel
theorem dX4_fileAt_17 : decode cX4_fileAt 17 = .ok (.ldc 181, 2) := by decide +kernel
theorem dX4_fileAt_19 : decode cX4_fileAt 19 = .ok (.invokespecial 107, 3) := by decide +kernel
theorem dX4_fileAt_22 : decode cX4_fileAt 22 = .ok (.athrow, 1) := by decide +kernel
theorem dX4_fileAt_23 : decode cX4_fileAt 23 = .ok (.aload_n 0, 1) := by decide +kernel
theorem dX4_fileAt_24 : decode cX4_fileAt 24 = .ok (.getfield 36, 3) := by decide +kernel
theorem dX4_fileAt_27 : decode cX4_fileAt 27 = .ok (.iload_n 1, 1) := by decide +kernel
theorem dX4_fileAt_28 : decode cX4_fileAt 28 = .ok (.aaload, 1) := by decide +kernel
theorem dX4_fileAt_29 : decode cX4_fileAt 29 = .ok (.astore_n 2, 1) := by decide +kernel
theorem dX4_fileAt_30 : decode cX4_fileAt 30 = .ok (.aload_n 2, 1) := by decide +kernel
theorem dX4_fileAt_31 : decode cX4_fileAt 31 = .ok (.ifnonnull 13, 3) := by decide +kernel
theorem dX4_fileAt_34 : decode cX4_fileAt 34 = .ok (.new 103, 3) := by decide +kernel
theorem dX4_fileAt_37 : decode cX4_fileAt 37 = .ok (.dup, 1) := by decide +kernel
theorem dX4_fileAt_38 : decode cX4_fileAt 38 = .ok (.ldc 181, 2) := by decide +kernel
theorem dX4_fileAt_40 : decode cX4_fileAt 40 = .ok (.invokespecial 107, 3) := by decide +kernel
theorem dX4_fileAt_43 : decode cX4_fileAt 43 = .ok (.athrow, 1) := by decide +kernel
theorem dX4_fileAt_44 : decode cX4_fileAt 44 = .ok (.aload_n 2, 1) := by decide +kernel
theorem dX4_fileAt_45 : decode cX4_fileAt 45 = .ok (.areturn, 1) := by decide +kernel
theorem dX4_requireNumber_0 : decode cX4_requireNumber 0 = .ok (.iload_n 0, 1) := by decide +kernel
theorem dX4_requireNumber_1 : decode cX4_requireNumber 1 = .ok (.ifCond .lt 10, 3) := by decide +kernel
theorem dX4_requireNumber_4 : decode cX4_requireNumber 4 = .ok (.iload_n 0, 1) := by decide +kernel
theorem dX4_requireNumber_5 : decode cX4_requireNumber 5 = .ok (.sipush 998, 3) := by decide +kernel
theorem dX4_requireNumber_8 : decode cX4_requireNumber 8 = .ok (.if_icmp .le 13, 3) := by decide +kernel
theorem dX4_requireNumber_11 : decode cX4_requireNumber 11 = .ok (.new 80, 3) := by decide +kernel
theorem dX4_requireNumber_14 : decode cX4_requireNumber 14 = .ok (.dup, 1) := by decide +kernel
theorem dX4_requireNumber_15 : decode cX4_requireNumber 15 = .ok (.ldc 183, 2) := by decide +kernel
theorem dX4_requireNumber_17 : decode cX4_requireNumber 17 = .ok (.invokespecial 84, 3) := by decide +kernel
theorem dX4_requireNumber_20 : decode cX4_requireNumber 20 = .ok (.athrow, 1) := by decide +kernel
theorem dX4_requireNumber_21 : decode cX4_requireNumber 21 = .ok (.return_, 1) := by decide +kernel
theorem dX4_refuse_0 : decode cX4_refuse 0 = .ok (.aload_n 0, 1) := by decide +kernel
theorem dX4_refuse_1 : decode cX4_refuse 1 = .ok (.dup, 1) := by decide +kernel
theorem dX4_refuse_2 : decode cX4_refuse 2 = .ok (.getfield 47, 3) := by decide +kernel
theorem dX4_refuse_5 : decode cX4_refuse 5 = .ok (.iconst 1, 1) := by decide +kernel
theorem dX4_refuse_6 : decode cX4_refuse 6 = .ok (.iadd, 1) := by decide +kernel
theorem dX4_refuse_7 : decode cX4_refuse 7 = .ok (.putfield 47, 3) := by decide +kernel
theorem dX4_refuse_10 : decode cX4_refuse 10 = .ok (.aload_n 0, 1) := by decide +kernel
theorem dX4_refuse_11 : decode cX4_refuse 11 = .ok (.iload_n 1, 1) := by decide +kernel
theorem dX4_refuse_12 : decode cX4_refuse 12 = .ok (.putfield 50, 3) := by decide +kernel
theorem dX4_refuse_15 : decode cX4_refuse 15 = .ok (.iload_n 1, 1) := by decide +kernel
theorem dX4_refuse_16 : decode cX4_refuse 16 = .ok (.ireturn, 1) := by decide +kernel
theorem dX4_seenFrom_0 : decode cX4_seenFrom 0 = .ok (.iload_n 2, 1) := by decide +kernel
theorem dX4_seenFrom_1 : decode cX4_seenFrom 1 = .ok (.istore_n 3, 1) := by decide +kernel
theorem dX4_seenFrom_2 : decode cX4_seenFrom 2 = .ok (.aload_n 0, 1) := by decide +kernel
theorem dX4_seenFrom_3 : decode cX4_seenFrom 3 = .ok (.getfield 14, 3) := by decide +kernel
theorem dX4_seenFrom_6 : decode cX4_seenFrom 6 = .ok (.astore 4, 2) := by decide +kernel
theorem dX4_seenFrom_8 : decode cX4_seenFrom 8 = .ok (.aload 4, 2) := by decide +kernel
theorem dX4_seenFrom_10 : decode cX4_seenFrom 10 = .ok (.arraylength, 1) := by decide +kernel
theorem dX4_seenFrom_11 : decode cX4_seenFrom 11 = .ok (.istore 5, 2) := by decide +kernel
theorem dX4_seenFrom_13 : decode cX4_seenFrom 13 = .ok (.iconst 0, 1) := by decide +kernel
theorem dX4_seenFrom_14 : decode cX4_seenFrom 14 = .ok (.istore 6, 2) := by decide +kernel
theorem dX4_seenFrom_16 : decode cX4_seenFrom 16 = .ok (.iload 6, 2) := by decide +kernel
theorem dX4_seenFrom_18 : decode cX4_seenFrom 18 = .ok (.iload 5, 2) := by decide +kernel
theorem dX4_seenFrom_20 : decode cX4_seenFrom 20 = .ok (.if_icmp .ge 37, 3) := by decide +kernel
theorem dX4_seenFrom_23 : decode cX4_seenFrom 23 = .ok (.aload 4, 2) := by decide +kernel
theorem dX4_seenFrom_25 : decode cX4_seenFrom 25 = .ok (.iload 6, 2) := by decide +kernel
theorem dX4_seenFrom_27 : decode cX4_seenFrom 27 = .ok (.aaload, 1) := by decide +kernel
theorem dX4_seenFrom_28 : decode cX4_seenFrom 28 = .ok (.astore 7, 2) := by decide +kernel
theorem dX4_seenFrom_30 : decode cX4_seenFrom 30 = .ok (.aload 7, 2) := by decide +kernel
theorem dX4_seenFrom_32 : decode cX4_seenFrom 32 = .ok (.ifnull 19, 3) := by decide +kernel
theorem dX4_seenFrom_35 : decode cX4_seenFrom 35 = .ok (.aload_n 1, 1) := by decide +kernel
theorem dX4_seenFrom_36 : decode cX4_seenFrom 36 = .ok (.aload 7, 2) := by decide +kernel
theorem dX4_seenFrom_38 : decode cX4_seenFrom 38 = .ok (.invokestatic 154, 3) := by decide +kernel
theorem dX4_seenFrom_41 : decode cX4_seenFrom 41 = .ok (.ifCond .eq 10, 3) := by decide +kernel
theorem dX4_seenFrom_44 : decode cX4_seenFrom 44 = .ok (.aload 7, 2) := by decide +kernel
theorem dX4_seenFrom_46 : decode cX4_seenFrom 46 = .ok (.iload_n 3, 1) := by decide +kernel
theorem dX4_seenFrom_47 : decode cX4_seenFrom 47 = .ok (.invokevirtual 185, 3) := by decide +kernel
theorem dX4_seenFrom_50 : decode cX4_seenFrom 50 = .ok (.istore_n 3, 1) := by decide +kernel
theorem dX4_seenFrom_51 : decode cX4_seenFrom 51 = .ok (.iinc 6 1, 3) := by decide +kernel
theorem dX4_seenFrom_54 : decode cX4_seenFrom 54 = .ok (.goto (-38), 3) := by decide +kernel
theorem dX4_seenFrom_57 : decode cX4_seenFrom 57 = .ok (.iload_n 3, 1) := by decide +kernel
theorem dX4_seenFrom_58 : decode cX4_seenFrom 58 = .ok (.ireturn, 1) := by decide +kernel
theorem dX4_countOf_0 : decode cX4_countOf 0 = .ok (.iconst 0, 1) := by decide +kernel
theorem dX4_countOf_1 : decode cX4_countOf 1 = .ok (.istore_n 1, 1) := by decide +kernel
theorem dX4_countOf_2 : decode cX4_countOf 2 = .ok (.aload_n 0, 1) := by decide +kernel
theorem dX4_countOf_3 : decode cX4_countOf 3 = .ok (.astore_n 2, 1) := by decide +kernel
theorem dX4_countOf_4 : decode cX4_countOf 4 = .ok (.aload_n 2, 1) := by decide +kernel
theorem dX4_countOf_5 : decode cX4_countOf 5 = .ok (.ifnull 14, 3) := by decide +kernel
theorem dX4_countOf_8 : decode cX4_countOf 8 = .ok (.iinc 1 1, 3) := by decide +kernel
theorem dX4_countOf_11 : decode cX4_countOf 11 = .ok (.aload_n 2, 1) := by decide +kernel
theorem dX4_countOf_12 : decode cX4_countOf 12 = .ok (.getfield 188, 3) := by decide +kernel
theorem dX4_countOf_15 : decode cX4_countOf 15 = .ok (.astore_n 2, 1) := by decide +kernel
theorem dX4_countOf_16 : decode cX4_countOf 16 = .ok (.goto (-12), 3) := by decide +kernel
theorem dX4_countOf_19 : decode cX4_countOf 19 = .ok (.iload_n 1, 1) := by decide +kernel
theorem dX4_countOf_20 : decode cX4_countOf 20 = .ok (.ireturn, 1) := by decide +kernel
theorem dX4_anyMeet_0 : decode cX4_anyMeet 0 = .ok (.aload_n 0, 1) := by decide +kernel
theorem dX4_anyMeet_1 : decode cX4_anyMeet 1 = .ok (.astore_n 1, 1) := by decide +kernel
theorem dX4_anyMeet_2 : decode cX4_anyMeet 2 = .ok (.aload_n 1, 1) := by decide +kernel
theorem dX4_anyMeet_3 : decode cX4_anyMeet 3 = .ok (.ifnull 38, 3) := by decide +kernel
theorem dX4_anyMeet_6 : decode cX4_anyMeet 6 = .ok (.aload_n 1, 1) := by decide +kernel
theorem dX4_anyMeet_7 : decode cX4_anyMeet 7 = .ok (.getfield 188, 3) := by decide +kernel
theorem dX4_anyMeet_10 : decode cX4_anyMeet 10 = .ok (.astore_n 2, 1) := by decide +kernel
theorem dX4_anyMeet_11 : decode cX4_anyMeet 11 = .ok (.aload_n 2, 1) := by decide +kernel
theorem dX4_anyMeet_12 : decode cX4_anyMeet 12 = .ok (.ifnull 21, 3) := by decide +kernel
theorem dX4_anyMeet_15 : decode cX4_anyMeet 15 = .ok (.aload_n 1, 1) := by decide +kernel
theorem dX4_anyMeet_16 : decode cX4_anyMeet 16 = .ok (.aload_n 2, 1) := by decide +kernel
theorem dX4_anyMeet_17 : decode cX4_anyMeet 17 = .ok (.invokevirtual 191, 3) := by decide +kernel
theorem dX4_anyMeet_20 : decode cX4_anyMeet 20 = .ok (.ifCond .eq 5, 3) := by decide +kernel
theorem dX4_anyMeet_23 : decode cX4_anyMeet 23 = .ok (.iconst 1, 1) := by decide +kernel
theorem dX4_anyMeet_24 : decode cX4_anyMeet 24 = .ok (.ireturn, 1) := by decide +kernel
theorem dX4_anyMeet_25 : decode cX4_anyMeet 25 = .ok (.aload_n 2, 1) := by decide +kernel
theorem dX4_anyMeet_26 : decode cX4_anyMeet 26 = .ok (.getfield 188, 3) := by decide +kernel
theorem dX4_anyMeet_29 : decode cX4_anyMeet 29 = .ok (.astore_n 2, 1) := by decide +kernel
theorem dX4_anyMeet_30 : decode cX4_anyMeet 30 = .ok (.goto (-19), 3) := by decide +kernel
theorem dX4_anyMeet_33 : decode cX4_anyMeet 33 = .ok (.aload_n 1, 1) := by decide +kernel
theorem dX4_anyMeet_34 : decode cX4_anyMeet 34 = .ok (.getfield 188, 3) := by decide +kernel
theorem dX4_anyMeet_37 : decode cX4_anyMeet 37 = .ok (.astore_n 1, 1) := by decide +kernel
theorem dX4_anyMeet_38 : decode cX4_anyMeet 38 = .ok (.goto (-36), 3) := by decide +kernel
theorem dX4_anyMeet_41 : decode cX4_anyMeet 41 = .ok (.iconst 0, 1) := by decide +kernel
theorem dX4_anyMeet_42 : decode cX4_anyMeet 42 = .ok (.ireturn, 1) := by decide +kernel
theorem dX4_allLeadOut_0 : decode cX4_allLeadOut 0 = .ok (.aload_n 0, 1) := by decide +kernel
theorem dX4_allLeadOut_1 : decode cX4_allLeadOut 1 = .ok (.astore_n 2, 1) := by decide +kernel
theorem dX4_allLeadOut_2 : decode cX4_allLeadOut 2 = .ok (.aload_n 2, 1) := by decide +kernel
theorem dX4_allLeadOut_3 : decode cX4_allLeadOut 3 = .ok (.ifnull 43, 3) := by decide +kernel
theorem dX4_allLeadOut_6 : decode cX4_allLeadOut 6 = .ok (.iconst 0, 1) := by decide +kernel
theorem dX4_allLeadOut_7 : decode cX4_allLeadOut 7 = .ok (.istore_n 3, 1) := by decide +kernel
theorem dX4_allLeadOut_8 : decode cX4_allLeadOut 8 = .ok (.iload_n 3, 1) := by decide +kernel
theorem dX4_allLeadOut_9 : decode cX4_allLeadOut 9 = .ok (.aload_n 2, 1) := by decide +kernel
theorem dX4_allLeadOut_10 : decode cX4_allLeadOut 10 = .ok (.getfield 194, 3) := by decide +kernel
theorem dX4_allLeadOut_13 : decode cX4_allLeadOut 13 = .ok (.if_icmp .ge 25, 3) := by decide +kernel
theorem dX4_allLeadOut_16 : decode cX4_allLeadOut 16 = .ok (.aload_n 1, 1) := by decide +kernel
theorem dX4_allLeadOut_17 : decode cX4_allLeadOut 17 = .ok (.aload_n 2, 1) := by decide +kernel
theorem dX4_allLeadOut_18 : decode cX4_allLeadOut 18 = .ok (.getfield 130, 3) := by decide +kernel
theorem dX4_allLeadOut_21 : decode cX4_allLeadOut 21 = .ok (.iload_n 3, 1) := by decide +kernel
theorem dX4_allLeadOut_22 : decode cX4_allLeadOut 22 = .ok (.iadd, 1) := by decide +kernel
theorem dX4_allLeadOut_23 : decode cX4_allLeadOut 23 = .ok (.invokestatic 132, 3) := by decide +kernel
theorem dX4_allLeadOut_26 : decode cX4_allLeadOut 26 = .ok (.iconst (-1), 1) := by decide +kernel
theorem dX4_allLeadOut_27 : decode cX4_allLeadOut 27 = .ok (.if_icmp .ne 5, 3) := by decide +kernel
theorem dX4_allLeadOut_30 : decode cX4_allLeadOut 30 = .ok (.iconst 0, 1) := by decide +kernel
theorem dX4_allLeadOut_31 : decode cX4_allLeadOut 31 = .ok (.ireturn, 1) := by decide +kernel
theorem dX4_allLeadOut_32 : decode cX4_allLeadOut 32 = .ok (.iinc 3 1, 3) := by decide +kernel
theorem dX4_allLeadOut_35 : decode cX4_allLeadOut 35 = .ok (.goto (-27), 3) := by decide +kernel
theorem dX4_allLeadOut_38 : decode cX4_allLeadOut 38 = .ok (.aload_n 2, 1) := by decide +kernel
theorem dX4_allLeadOut_39 : decode cX4_allLeadOut 39 = .ok (.getfield 188, 3) := by decide +kernel
theorem dX4_allLeadOut_42 : decode cX4_allLeadOut 42 = .ok (.astore_n 2, 1) := by decide +kernel
theorem dX4_allLeadOut_43 : decode cX4_allLeadOut 43 = .ok (.goto (-41), 3) := by decide +kernel
theorem dX4_allLeadOut_46 : decode cX4_allLeadOut 46 = .ok (.iconst 1, 1) := by decide +kernel
theorem dX4_allLeadOut_47 : decode cX4_allLeadOut 47 = .ok (.ireturn, 1) := by decide +kernel
theorem dX4_leadOut_0 : decode cX4_leadOut 0 = .ok (.iload_n 1, 1) := by decide +kernel
theorem dX4_leadOut_1 : decode cX4_leadOut 1 = .ok (.istore_n 2, 1) := by decide +kernel
theorem dX4_leadOut_2 : decode cX4_leadOut 2 = .ok (.aload_n 0, 1) := by decide +kernel
theorem dX4_leadOut_3 : decode cX4_leadOut 3 = .ok (.astore_n 3, 1) := by decide +kernel
theorem dX4_leadOut_4 : decode cX4_leadOut 4 = .ok (.aload_n 3, 1) := by decide +kernel
theorem dX4_leadOut_5 : decode cX4_leadOut 5 = .ok (.ifnull 22, 3) := by decide +kernel
theorem dX4_leadOut_8 : decode cX4_leadOut 8 = .ok (.iload_n 2, 1) := by decide +kernel
theorem dX4_leadOut_9 : decode cX4_leadOut 9 = .ok (.iconst (-1), 1) := by decide +kernel
theorem dX4_leadOut_10 : decode cX4_leadOut 10 = .ok (.if_icmp .eq 17, 3) := by decide +kernel
theorem dX4_leadOut_13 : decode cX4_leadOut 13 = .ok (.aload_n 3, 1) := by decide +kernel
theorem dX4_leadOut_14 : decode cX4_leadOut 14 = .ok (.iload_n 2, 1) := by decide +kernel
theorem dX4_leadOut_15 : decode cX4_leadOut 15 = .ok (.invokevirtual 197, 3) := by decide +kernel
theorem dX4_leadOut_18 : decode cX4_leadOut 18 = .ok (.istore_n 2, 1) := by decide +kernel
theorem dX4_leadOut_19 : decode cX4_leadOut 19 = .ok (.aload_n 3, 1) := by decide +kernel
theorem dX4_leadOut_20 : decode cX4_leadOut 20 = .ok (.getfield 100, 3) := by decide +kernel
theorem dX4_leadOut_23 : decode cX4_leadOut 23 = .ok (.astore_n 3, 1) := by decide +kernel
theorem dX4_leadOut_24 : decode cX4_leadOut 24 = .ok (.goto (-20), 3) := by decide +kernel
theorem dX4_leadOut_27 : decode cX4_leadOut 27 = .ok (.iload_n 2, 1) := by decide +kernel
theorem dX4_leadOut_28 : decode cX4_leadOut 28 = .ok (.ireturn, 1) := by decide +kernel
theorem dX4_isOrIsInside_0 : decode cX4_isOrIsInside 0 = .ok (.aload_n 0, 1) := by decide +kernel
theorem dX4_isOrIsInside_1 : decode cX4_isOrIsInside 1 = .ok (.astore_n 2, 1) := by decide +kernel
theorem dX4_isOrIsInside_2 : decode cX4_isOrIsInside 2 = .ok (.aload_n 2, 1) := by decide +kernel
theorem dX4_isOrIsInside_3 : decode cX4_isOrIsInside 3 = .ok (.ifnull 18, 3) := by decide +kernel
theorem dX4_isOrIsInside_6 : decode cX4_isOrIsInside 6 = .ok (.aload_n 2, 1) := by decide +kernel
theorem dX4_isOrIsInside_7 : decode cX4_isOrIsInside 7 = .ok (.aload_n 1, 1) := by decide +kernel
theorem dX4_isOrIsInside_8 : decode cX4_isOrIsInside 8 = .ok (.if_acmp .ne 5, 3) := by decide +kernel
theorem dX4_isOrIsInside_11 : decode cX4_isOrIsInside 11 = .ok (.iconst 1, 1) := by decide +kernel
theorem dX4_isOrIsInside_12 : decode cX4_isOrIsInside 12 = .ok (.ireturn, 1) := by decide +kernel
theorem dX4_isOrIsInside_13 : decode cX4_isOrIsInside 13 = .ok (.aload_n 2, 1) := by decide +kernel
theorem dX4_isOrIsInside_14 : decode cX4_isOrIsInside 14 = .ok (.getfield 100, 3) := by decide +kernel
theorem dX4_isOrIsInside_17 : decode cX4_isOrIsInside 17 = .ok (.astore_n 2, 1) := by decide +kernel
theorem dX4_isOrIsInside_18 : decode cX4_isOrIsInside 18 = .ok (.goto (-16), 3) := by decide +kernel
theorem dX4_isOrIsInside_21 : decode cX4_isOrIsInside 21 = .ok (.iconst 0, 1) := by decide +kernel
theorem dX4_isOrIsInside_22 : decode cX4_isOrIsInside 22 = .ok (.ireturn, 1) := by decide +kernel
theorem dX4_numberOrNone_0 : decode cX4_numberOrNone 0 = .ok (.aload_n 0, 1) := by decide +kernel
theorem dX4_numberOrNone_1 : decode cX4_numberOrNone 1 = .ok (.ifnonnull 7, 3) := by decide +kernel
theorem dX4_numberOrNone_4 : decode cX4_numberOrNone 4 = .ok (.iconst (-1), 1) := by decide +kernel
theorem dX4_numberOrNone_5 : decode cX4_numberOrNone 5 = .ok (.goto 7, 3) := by decide +kernel
theorem dX4_numberOrNone_8 : decode cX4_numberOrNone 8 = .ok (.aload_n 0, 1) := by decide +kernel
theorem dX4_numberOrNone_9 : decode cX4_numberOrNone 9 = .ok (.getfield 75, 3) := by decide +kernel
theorem dX4_numberOrNone_12 : decode cX4_numberOrNone 12 = .ok (.ireturn, 1) := by decide +kernel
theorem dL_makes_0 : decode cL_makes 0 = .ok (.aload_n 0, 1) := by decide +kernel
theorem dL_makes_1 : decode cL_makes 1 = .ok (.iload_n 1, 1) := by decide +kernel
theorem dL_makes_2 : decode cL_makes 2 = .ok (.invokevirtual 7, 3) := by decide +kernel
theorem dL_makes_5 : decode cL_makes 5 = .ok (.ireturn, 1) := by decide +kernel
theorem dL_makes_6 : decode cL_makes 6 = .ok (.astore_n 2, 1) := by decide +kernel
theorem dL_makes_7 : decode cL_makes 7 = .ok (.ldc 15, 2) := by decide +kernel
theorem dL_makes_9 : decode cL_makes 9 = .ok (.ireturn, 1) := by decide +kernel
theorem dL_makes_10 : decode cL_makes 10 = .ok (.astore_n 2, 1) := by decide +kernel
theorem dL_makes_11 : decode cL_makes 11 = .ok (.ldc 18, 2) := by decide +kernel
theorem dL_makes_13 : decode cL_makes 13 = .ok (.ireturn, 1) := by decide +kernel
theorem dL_lines_0 : decode cL_lines 0 = .ok (.aload_n 0, 1) := by decide +kernel
theorem dL_lines_1 : decode cL_lines 1 = .ok (.iload_n 1, 1) := by decide +kernel
theorem dL_lines_2 : decode cL_lines 2 = .ok (.iload_n 2, 1) := by decide +kernel
theorem dL_lines_3 : decode cL_lines 3 = .ok (.iload_n 3, 1) := by decide +kernel
theorem dL_lines_4 : decode cL_lines 4 = .ok (.invokevirtual 19, 3) := by decide +kernel
theorem dL_lines_7 : decode cL_lines 7 = .ok (.ireturn, 1) := by decide +kernel
theorem dL_lines_8 : decode cL_lines 8 = .ok (.astore 4, 2) := by decide +kernel
theorem dL_lines_10 : decode cL_lines 10 = .ok (.ldc 25, 2) := by decide +kernel
theorem dL_lines_12 : decode cL_lines 12 = .ok (.ireturn, 1) := by decide +kernel
theorem dL_lines_13 : decode cL_lines 13 = .ok (.astore 4, 2) := by decide +kernel
theorem dL_lines_15 : decode cL_lines 15 = .ok (.ldc 18, 2) := by decide +kernel
theorem dL_lines_17 : decode cL_lines 17 = .ok (.ireturn, 1) := by decide +kernel
theorem dL_writes_0 : decode cL_writes 0 = .ok (.aload_n 0, 1) := by decide +kernel
theorem dL_writes_1 : decode cL_writes 1 = .ok (.iload_n 1, 1) := by decide +kernel
theorem dL_writes_2 : decode cL_writes 2 = .ok (.iload_n 2, 1) := by decide +kernel
theorem dL_writes_3 : decode cL_writes 3 = .ok (.invokevirtual 26, 3) := by decide +kernel
theorem dL_writes_6 : decode cL_writes 6 = .ok (.ireturn, 1) := by decide +kernel
theorem dL_writes_7 : decode cL_writes 7 = .ok (.astore_n 3, 1) := by decide +kernel
theorem dL_writes_8 : decode cL_writes 8 = .ok (.ldc 15, 2) := by decide +kernel
theorem dL_writes_10 : decode cL_writes 10 = .ok (.ireturn, 1) := by decide +kernel
theorem dL_outer_0 : decode cL_outer 0 = .ok (.aload_n 0, 1) := by decide +kernel
theorem dL_outer_1 : decode cL_outer 1 = .ok (.iload_n 1, 1) := by decide +kernel
theorem dL_outer_2 : decode cL_outer 2 = .ok (.invokevirtual 30, 3) := by decide +kernel
theorem dL_outer_5 : decode cL_outer 5 = .ok (.ireturn, 1) := by decide +kernel
theorem dL_outer_6 : decode cL_outer 6 = .ok (.astore_n 2, 1) := by decide +kernel
theorem dL_outer_7 : decode cL_outer 7 = .ok (.ldc 15, 2) := by decide +kernel
theorem dL_outer_9 : decode cL_outer 9 = .ok (.ireturn, 1) := by decide +kernel
theorem dL_leads_0 : decode cL_leads 0 = .ok (.aload_n 0, 1) := by decide +kernel
theorem dL_leads_1 : decode cL_leads 1 = .ok (.iload_n 1, 1) := by decide +kernel
theorem dL_leads_2 : decode cL_leads 2 = .ok (.iload_n 2, 1) := by decide +kernel
theorem dL_leads_3 : decode cL_leads 3 = .ok (.invokevirtual 33, 3) := by decide +kernel
theorem dL_leads_6 : decode cL_leads 6 = .ok (.ireturn, 1) := by decide +kernel
theorem dL_leads_7 : decode cL_leads 7 = .ok (.astore_n 3, 1) := by decide +kernel
theorem dL_leads_8 : decode cL_leads 8 = .ok (.ldc 15, 2) := by decide +kernel
theorem dL_leads_10 : decode cL_leads 10 = .ok (.ireturn, 1) := by decide +kernel
theorem dL_leads_11 : decode cL_leads 11 = .ok (.astore_n 3, 1) := by decide +kernel
theorem dL_leads_12 : decode cL_leads 12 = .ok (.ldc 25, 2) := by decide +kernel
theorem dL_leads_14 : decode cL_leads 14 = .ok (.ireturn, 1) := by decide +kernel
theorem dL_seen_0 : decode cL_seen 0 = .ok (.aload_n 0, 1) := by decide +kernel
theorem dL_seen_1 : decode cL_seen 1 = .ok (.iload_n 1, 1) := by decide +kernel
theorem dL_seen_2 : decode cL_seen 2 = .ok (.iload_n 2, 1) := by decide +kernel
theorem dL_seen_3 : decode cL_seen 3 = .ok (.invokevirtual 36, 3) := by decide +kernel
theorem dL_seen_6 : decode cL_seen 6 = .ok (.ireturn, 1) := by decide +kernel
theorem dL_seen_7 : decode cL_seen 7 = .ok (.astore_n 3, 1) := by decide +kernel
theorem dL_seen_8 : decode cL_seen 8 = .ok (.ldc 15, 2) := by decide +kernel
theorem dL_seen_10 : decode cL_seen 10 = .ok (.ireturn, 1) := by decide +kernel
theorem dL_seen_11 : decode cL_seen 11 = .ok (.astore_n 3, 1) := by decide +kernel
theorem dL_seen_12 : decode cL_seen 12 = .ok (.ldc 25, 2) := by decide +kernel
theorem dL_seen_14 : decode cL_seen 14 = .ok (.ireturn, 1) := by decide +kernel
theorem dL_byLeading_0 : decode cL_byLeading 0 = .ok (.aload_n 0, 1) := by decide +kernel
theorem dL_byLeading_1 : decode cL_byLeading 1 = .ok (.iload_n 1, 1) := by decide +kernel
theorem dL_byLeading_2 : decode cL_byLeading 2 = .ok (.iload_n 2, 1) := by decide +kernel
theorem dL_byLeading_3 : decode cL_byLeading 3 = .ok (.invokevirtual 39, 3) := by decide +kernel
theorem dL_byLeading_6 : decode cL_byLeading 6 = .ok (.ireturn, 1) := by decide +kernel
theorem dL_byLeading_7 : decode cL_byLeading 7 = .ok (.astore_n 3, 1) := by decide +kernel
theorem dL_byLeading_8 : decode cL_byLeading 8 = .ok (.ldc 15, 2) := by decide +kernel
theorem dL_byLeading_10 : decode cL_byLeading 10 = .ok (.ireturn, 1) := by decide +kernel
theorem dL_byLeading_11 : decode cL_byLeading 11 = .ok (.astore_n 3, 1) := by decide +kernel
theorem dL_byLeading_12 : decode cL_byLeading 12 = .ok (.ldc 25, 2) := by decide +kernel
theorem dL_byLeading_14 : decode cL_byLeading 14 = .ok (.ireturn, 1) := by decide +kernel
theorem dL_forks_0 : decode cL_forks 0 = .ok (.aload_n 0, 1) := by decide +kernel
theorem dL_forks_1 : decode cL_forks 1 = .ok (.iload_n 1, 1) := by decide +kernel
theorem dL_forks_2 : decode cL_forks 2 = .ok (.invokevirtual 42, 3) := by decide +kernel
theorem dL_forks_5 : decode cL_forks 5 = .ok (.ireturn, 1) := by decide +kernel
theorem dL_forks_6 : decode cL_forks 6 = .ok (.astore_n 2, 1) := by decide +kernel
theorem dL_forks_7 : decode cL_forks 7 = .ok (.ldc 15, 2) := by decide +kernel
theorem dL_forks_9 : decode cL_forks 9 = .ok (.ireturn, 1) := by decide +kernel
theorem dL_forks_10 : decode cL_forks 10 = .ok (.astore_n 2, 1) := by decide +kernel
theorem dL_forks_11 : decode cL_forks 11 = .ok (.ldc 18, 2) := by decide +kernel
theorem dL_forks_13 : decode cL_forks 13 = .ok (.ireturn, 1) := by decide +kernel
theorem dL_drops_0 : decode cL_drops 0 = .ok (.aload_n 0, 1) := by decide +kernel
theorem dL_drops_1 : decode cL_drops 1 = .ok (.iload_n 1, 1) := by decide +kernel
theorem dL_drops_2 : decode cL_drops 2 = .ok (.iload_n 2, 1) := by decide +kernel
theorem dL_drops_3 : decode cL_drops 3 = .ok (.invokevirtual 45, 3) := by decide +kernel
theorem dL_drops_6 : decode cL_drops 6 = .ok (.ireturn, 1) := by decide +kernel
theorem dL_drops_7 : decode cL_drops 7 = .ok (.astore_n 3, 1) := by decide +kernel
theorem dL_drops_8 : decode cL_drops 8 = .ok (.ldc 15, 2) := by decide +kernel
theorem dL_drops_10 : decode cL_drops 10 = .ok (.ireturn, 1) := by decide +kernel
theorem dL_drops_11 : decode cL_drops 11 = .ok (.astore_n 3, 1) := by decide +kernel
theorem dL_drops_12 : decode cL_drops 12 = .ok (.ldc 25, 2) := by decide +kernel
theorem dL_drops_14 : decode cL_drops 14 = .ok (.ireturn, 1) := by decide +kernel
theorem dL_enters_0 : decode cL_enters 0 = .ok (.aload_n 0, 1) := by decide +kernel
theorem dL_enters_1 : decode cL_enters 1 = .ok (.iload_n 1, 1) := by decide +kernel
theorem dL_enters_2 : decode cL_enters 2 = .ok (.iload_n 2, 1) := by decide +kernel
theorem dL_enters_3 : decode cL_enters 3 = .ok (.invokevirtual 48, 3) := by decide +kernel
theorem dL_enters_6 : decode cL_enters 6 = .ok (.ireturn, 1) := by decide +kernel
theorem dL_enters_7 : decode cL_enters 7 = .ok (.astore_n 3, 1) := by decide +kernel
theorem dL_enters_8 : decode cL_enters 8 = .ok (.ldc 15, 2) := by decide +kernel
theorem dL_enters_10 : decode cL_enters 10 = .ok (.ireturn, 1) := by decide +kernel
theorem dL_takes_0 : decode cL_takes 0 = .ok (.aload_n 0, 1) := by decide +kernel
theorem dL_takes_1 : decode cL_takes 1 = .ok (.iload_n 1, 1) := by decide +kernel
theorem dL_takes_2 : decode cL_takes 2 = .ok (.iload_n 2, 1) := by decide +kernel
theorem dL_takes_3 : decode cL_takes 3 = .ok (.invokevirtual 51, 3) := by decide +kernel
theorem dL_takes_6 : decode cL_takes 6 = .ok (.ireturn, 1) := by decide +kernel
theorem dL_takes_7 : decode cL_takes 7 = .ok (.astore_n 3, 1) := by decide +kernel
theorem dL_takes_8 : decode cL_takes 8 = .ok (.ldc 15, 2) := by decide +kernel
theorem dL_takes_10 : decode cL_takes 10 = .ok (.ireturn, 1) := by decide +kernel
theorem dL_takes_11 : decode cL_takes 11 = .ok (.astore_n 3, 1) := by decide +kernel
theorem dL_takes_12 : decode cL_takes 12 = .ok (.ldc 25, 2) := by decide +kernel
theorem dL_takes_14 : decode cL_takes 14 = .ok (.ireturn, 1) := by decide +kernel
theorem dL_room_0 : decode cL_room 0 = .ok (.aload_n 0, 1) := by decide +kernel
theorem dL_room_1 : decode cL_room 1 = .ok (.iload_n 1, 1) := by decide +kernel
theorem dL_room_2 : decode cL_room 2 = .ok (.invokevirtual 54, 3) := by decide +kernel
theorem dL_room_5 : decode cL_room 5 = .ok (.ireturn, 1) := by decide +kernel
theorem dL_room_6 : decode cL_room 6 = .ok (.astore_n 2, 1) := by decide +kernel
theorem dL_room_7 : decode cL_room 7 = .ok (.ldc 15, 2) := by decide +kernel
theorem dL_room_9 : decode cL_room 9 = .ok (.ireturn, 1) := by decide +kernel
theorem dL_number_0 : decode cL_number 0 = .ok (.aload_n 0, 1) := by decide +kernel
theorem dL_number_1 : decode cL_number 1 = .ok (.iload_n 1, 1) := by decide +kernel
theorem dL_number_2 : decode cL_number 2 = .ok (.invokevirtual 57, 3) := by decide +kernel
theorem dL_number_5 : decode cL_number 5 = .ok (.ireturn, 1) := by decide +kernel
theorem dL_number_6 : decode cL_number 6 = .ok (.astore_n 2, 1) := by decide +kernel
theorem dL_number_7 : decode cL_number 7 = .ok (.ldc 15, 2) := by decide +kernel
theorem dL_number_9 : decode cL_number 9 = .ok (.ireturn, 1) := by decide +kernel
theorem dL_rights_0 : decode cL_rights 0 = .ok (.aload_n 0, 1) := by decide +kernel
theorem dL_rights_1 : decode cL_rights 1 = .ok (.iload_n 1, 1) := by decide +kernel
theorem dL_rights_2 : decode cL_rights 2 = .ok (.iload_n 2, 1) := by decide +kernel
theorem dL_rights_3 : decode cL_rights 3 = .ok (.invokevirtual 60, 3) := by decide +kernel
theorem dL_rights_6 : decode cL_rights 6 = .ok (.ireturn, 1) := by decide +kernel
theorem dL_rights_7 : decode cL_rights 7 = .ok (.astore_n 3, 1) := by decide +kernel
theorem dL_rights_8 : decode cL_rights 8 = .ok (.ldc 15, 2) := by decide +kernel
theorem dL_rights_10 : decode cL_rights 10 = .ok (.ireturn, 1) := by decide +kernel
theorem dL_files_0 : decode cL_files 0 = .ok (.aload_n 0, 1) := by decide +kernel
theorem dL_files_1 : decode cL_files 1 = .ok (.iload_n 1, 1) := by decide +kernel
theorem dL_files_2 : decode cL_files 2 = .ok (.iload_n 2, 1) := by decide +kernel
theorem dL_files_3 : decode cL_files 3 = .ok (.invokevirtual 63, 3) := by decide +kernel
theorem dL_files_6 : decode cL_files 6 = .ok (.ireturn, 1) := by decide +kernel
theorem dL_files_7 : decode cL_files 7 = .ok (.astore_n 3, 1) := by decide +kernel
theorem dL_files_8 : decode cL_files 8 = .ok (.ldc 15, 2) := by decide +kernel
theorem dL_files_10 : decode cL_files 10 = .ok (.ireturn, 1) := by decide +kernel
theorem dL_files_11 : decode cL_files 11 = .ok (.astore_n 3, 1) := by decide +kernel
theorem dL_files_12 : decode cL_files 12 = .ok (.ldc 25, 2) := by decide +kernel
theorem dL_files_14 : decode cL_files 14 = .ok (.ireturn, 1) := by decide +kernel
theorem dL_files_15 : decode cL_files 15 = .ok (.astore_n 3, 1) := by decide +kernel
theorem dL_files_16 : decode cL_files 16 = .ok (.ldc 18, 2) := by decide +kernel
theorem dL_files_18 : decode cL_files 18 = .ok (.ireturn, 1) := by decide +kernel
theorem dL_hands_0 : decode cL_hands 0 = .ok (.aload_n 0, 1) := by decide +kernel
theorem dL_hands_1 : decode cL_hands 1 = .ok (.iload_n 1, 1) := by decide +kernel
theorem dL_hands_2 : decode cL_hands 2 = .ok (.iload_n 2, 1) := by decide +kernel
theorem dL_hands_3 : decode cL_hands 3 = .ok (.iload_n 3, 1) := by decide +kernel
theorem dL_hands_4 : decode cL_hands 4 = .ok (.invokevirtual 66, 3) := by decide +kernel
theorem dL_hands_7 : decode cL_hands 7 = .ok (.ireturn, 1) := by decide +kernel
theorem dL_hands_8 : decode cL_hands 8 = .ok (.astore 4, 2) := by decide +kernel
theorem dL_hands_10 : decode cL_hands 10 = .ok (.ldc 15, 2) := by decide +kernel
theorem dL_hands_12 : decode cL_hands 12 = .ok (.ireturn, 1) := by decide +kernel
theorem dL_hands_13 : decode cL_hands 13 = .ok (.astore 4, 2) := by decide +kernel
theorem dL_hands_15 : decode cL_hands 15 = .ok (.ldc 25, 2) := by decide +kernel
theorem dL_hands_17 : decode cL_hands 17 = .ok (.ireturn, 1) := by decide +kernel
theorem dL_opens_0 : decode cL_opens 0 = .ok (.aload_n 0, 1) := by decide +kernel
theorem dL_opens_1 : decode cL_opens 1 = .ok (.iload_n 1, 1) := by decide +kernel
theorem dL_opens_2 : decode cL_opens 2 = .ok (.iload_n 2, 1) := by decide +kernel
theorem dL_opens_3 : decode cL_opens 3 = .ok (.iload_n 3, 1) := by decide +kernel
theorem dL_opens_4 : decode cL_opens 4 = .ok (.invokevirtual 69, 3) := by decide +kernel
theorem dL_opens_7 : decode cL_opens 7 = .ok (.ireturn, 1) := by decide +kernel
theorem dL_opens_8 : decode cL_opens 8 = .ok (.astore 4, 2) := by decide +kernel
theorem dL_opens_10 : decode cL_opens 10 = .ok (.ldc 15, 2) := by decide +kernel
theorem dL_opens_12 : decode cL_opens 12 = .ok (.ireturn, 1) := by decide +kernel
theorem dL_owner_0 : decode cL_owner 0 = .ok (.aload_n 0, 1) := by decide +kernel
theorem dL_owner_1 : decode cL_owner 1 = .ok (.iload_n 1, 1) := by decide +kernel
theorem dL_owner_2 : decode cL_owner 2 = .ok (.iload_n 2, 1) := by decide +kernel
theorem dL_owner_3 : decode cL_owner 3 = .ok (.invokevirtual 73, 3) := by decide +kernel
theorem dL_owner_6 : decode cL_owner 6 = .ok (.ireturn, 1) := by decide +kernel
theorem dL_owner_7 : decode cL_owner 7 = .ok (.astore_n 3, 1) := by decide +kernel
theorem dL_owner_8 : decode cL_owner 8 = .ok (.ldc 15, 2) := by decide +kernel
theorem dL_owner_10 : decode cL_owner 10 = .ok (.ireturn, 1) := by decide +kernel
theorem dL_drawn_0 : decode cL_drawn 0 = .ok (.iload_n 1, 1) := by decide +kernel
theorem dL_drawn_1 : decode cL_drawn 1 = .ok (.aload_n 0, 1) := by decide +kernel
theorem dL_drawn_2 : decode cL_drawn 2 = .ok (.arraylength, 1) := by decide +kernel
theorem dL_drawn_3 : decode cL_drawn 3 = .ok (.if_icmp .ge 9, 3) := by decide +kernel
theorem dL_drawn_6 : decode cL_drawn 6 = .ok (.aload_n 0, 1) := by decide +kernel
theorem dL_drawn_7 : decode cL_drawn 7 = .ok (.iload_n 1, 1) := by decide +kernel
theorem dL_drawn_8 : decode cL_drawn 8 = .ok (.iaload, 1) := by decide +kernel
theorem dL_drawn_9 : decode cL_drawn 9 = .ok (.goto 13, 3) := by decide +kernel
theorem dL_drawn_12 : decode cL_drawn 12 = .ok (.ldc 76, 2) := by decide +kernel
theorem dL_drawn_14 : decode cL_drawn 14 = .ok (.iload_n 1, 1) := by decide +kernel
theorem dL_drawn_15 : decode cL_drawn 15 = .ok (.iconst 3, 1) := by decide +kernel
theorem dL_drawn_16 : decode cL_drawn 16 = .ok (.iadd, 1) := by decide +kernel
theorem dL_drawn_17 : decode cL_drawn 17 = .ok (.imul, 1) := by decide +kernel
theorem dL_drawn_18 : decode cL_drawn 18 = .ok (.sipush 13901, 3) := by decide +kernel
theorem dL_drawn_21 : decode cL_drawn 21 = .ok (.iadd, 1) := by decide +kernel
theorem dL_drawn_22 : decode cL_drawn 22 = .ok (.ldc 77, 2) := by decide +kernel
theorem dL_drawn_24 : decode cL_drawn 24 = .ok (.iand, 1) := by decide +kernel
theorem dL_drawn_25 : decode cL_drawn 25 = .ok (.ireturn, 1) := by decide +kernel
theorem dL_refuses_0 : decode cL_refuses 0 = .ok (.iload_n 1, 1) := by decide +kernel
theorem dL_refuses_1 : decode cL_refuses 1 = .ok (.iconst 2, 1) := by decide +kernel
theorem dL_refuses_2 : decode cL_refuses 2 = .ok (.irem, 1) := by decide +kernel
theorem dL_refuses_3 : decode cL_refuses 3 = .ok (.ifCond .ne 7, 3) := by decide +kernel
theorem dL_refuses_6 : decode cL_refuses 6 = .ok (.iconst 1, 1) := by decide +kernel
theorem dL_refuses_7 : decode cL_refuses 7 = .ok (.goto 4, 3) := by decide +kernel
theorem dL_refuses_10 : decode cL_refuses 10 = .ok (.iconst 0, 1) := by decide +kernel
theorem dL_refuses_11 : decode cL_refuses 11 = .ok (.istore_n 2, 1) := by decide +kernel
theorem dL_refuses_12 : decode cL_refuses 12 = .ok (.iload_n 2, 1) := by decide +kernel
theorem dL_refuses_13 : decode cL_refuses 13 = .ok (.ifCond .eq 12, 3) := by decide +kernel
theorem dL_refuses_16 : decode cL_refuses 16 = .ok (.iconst (-1), 1) := by decide +kernel
theorem dL_refuses_17 : decode cL_refuses 17 = .ok (.iload_n 1, 1) := by decide +kernel
theorem dL_refuses_18 : decode cL_refuses 18 = .ok (.bipush 50, 2) := by decide +kernel
theorem dL_refuses_20 : decode cL_refuses 20 = .ok (.irem, 1) := by decide +kernel
theorem dL_refuses_21 : decode cL_refuses 21 = .ok (.isub, 1) := by decide +kernel
theorem dL_refuses_22 : decode cL_refuses 22 = .ok (.goto 12, 3) := by decide +kernel
theorem dL_refuses_25 : decode cL_refuses 25 = .ok (.aload_n 0, 1) := by decide +kernel
theorem dL_refuses_26 : decode cL_refuses 26 = .ok (.invokevirtual 78, 3) := by decide +kernel
theorem dL_refuses_29 : decode cL_refuses 29 = .ok (.iload_n 1, 1) := by decide +kernel
theorem dL_refuses_30 : decode cL_refuses 30 = .ok (.bipush 50, 2) := by decide +kernel
theorem dL_refuses_32 : decode cL_refuses 32 = .ok (.irem, 1) := by decide +kernel
theorem dL_refuses_33 : decode cL_refuses 33 = .ok (.iadd, 1) := by decide +kernel
theorem dL_refuses_34 : decode cL_refuses 34 = .ok (.istore_n 3, 1) := by decide +kernel
theorem dL_refuses_35 : decode cL_refuses 35 = .ok (.iload_n 2, 1) := by decide +kernel
theorem dL_refuses_36 : decode cL_refuses 36 = .ok (.ifCond .eq 12, 3) := by decide +kernel
theorem dL_refuses_39 : decode cL_refuses 39 = .ok (.iconst (-1), 1) := by decide +kernel
theorem dL_refuses_40 : decode cL_refuses 40 = .ok (.iload_n 1, 1) := by decide +kernel
theorem dL_refuses_41 : decode cL_refuses 41 = .ok (.bipush 50, 2) := by decide +kernel
theorem dL_refuses_43 : decode cL_refuses 43 = .ok (.irem, 1) := by decide +kernel
theorem dL_refuses_44 : decode cL_refuses 44 = .ok (.isub, 1) := by decide +kernel
theorem dL_refuses_45 : decode cL_refuses 45 = .ok (.goto 12, 3) := by decide +kernel
theorem dL_refuses_48 : decode cL_refuses 48 = .ok (.aload_n 0, 1) := by decide +kernel
theorem dL_refuses_49 : decode cL_refuses 49 = .ok (.invokevirtual 82, 3) := by decide +kernel
theorem dL_refuses_52 : decode cL_refuses 52 = .ok (.iload_n 1, 1) := by decide +kernel
theorem dL_refuses_53 : decode cL_refuses 53 = .ok (.bipush 50, 2) := by decide +kernel
theorem dL_refuses_55 : decode cL_refuses 55 = .ok (.irem, 1) := by decide +kernel
theorem dL_refuses_56 : decode cL_refuses 56 = .ok (.iadd, 1) := by decide +kernel
theorem dL_refuses_57 : decode cL_refuses 57 = .ok (.istore 4, 2) := by decide +kernel
theorem dL_refuses_59 : decode cL_refuses 59 = .ok (.iload_n 2, 1) := by decide +kernel
theorem dL_refuses_60 : decode cL_refuses 60 = .ok (.ifCond .eq 12, 3) := by decide +kernel
theorem dL_refuses_63 : decode cL_refuses 63 = .ok (.iconst (-1), 1) := by decide +kernel
theorem dL_refuses_64 : decode cL_refuses 64 = .ok (.iload_n 1, 1) := by decide +kernel
theorem dL_refuses_65 : decode cL_refuses 65 = .ok (.bipush 50, 2) := by decide +kernel
theorem dL_refuses_67 : decode cL_refuses 67 = .ok (.irem, 1) := by decide +kernel
theorem dL_refuses_68 : decode cL_refuses 68 = .ok (.isub, 1) := by decide +kernel
theorem dL_refuses_69 : decode cL_refuses 69 = .ok (.goto 12, 3) := by decide +kernel
theorem dL_refuses_72 : decode cL_refuses 72 = .ok (.aload_n 0, 1) := by decide +kernel
theorem dL_refuses_73 : decode cL_refuses 73 = .ok (.invokevirtual 85, 3) := by decide +kernel
theorem dL_refuses_76 : decode cL_refuses 76 = .ok (.iload_n 1, 1) := by decide +kernel
theorem dL_refuses_77 : decode cL_refuses 77 = .ok (.bipush 50, 2) := by decide +kernel
theorem dL_refuses_79 : decode cL_refuses 79 = .ok (.irem, 1) := by decide +kernel
theorem dL_refuses_80 : decode cL_refuses 80 = .ok (.iadd, 1) := by decide +kernel
theorem dL_refuses_81 : decode cL_refuses 81 = .ok (.istore 5, 2) := by decide +kernel
theorem dL_refuses_83 : decode cL_refuses 83 = .ok (.iload_n 2, 1) := by decide +kernel
theorem dL_refuses_84 : decode cL_refuses 84 = .ok (.ifCond .eq 12, 3) := by decide +kernel
theorem dL_refuses_87 : decode cL_refuses 87 = .ok (.iconst (-1), 1) := by decide +kernel
theorem dL_refuses_88 : decode cL_refuses 88 = .ok (.iload_n 1, 1) := by decide +kernel
theorem dL_refuses_89 : decode cL_refuses 89 = .ok (.bipush 50, 2) := by decide +kernel
theorem dL_refuses_91 : decode cL_refuses 91 = .ok (.irem, 1) := by decide +kernel
theorem dL_refuses_92 : decode cL_refuses 92 = .ok (.isub, 1) := by decide +kernel
theorem dL_refuses_93 : decode cL_refuses 93 = .ok (.goto 11, 3) := by decide +kernel
theorem dL_refuses_96 : decode cL_refuses 96 = .ok (.sipush 999, 3) := by decide +kernel
theorem dL_refuses_99 : decode cL_refuses 99 = .ok (.iload_n 1, 1) := by decide +kernel
theorem dL_refuses_100 : decode cL_refuses 100 = .ok (.bipush 50, 2) := by decide +kernel
theorem dL_refuses_102 : decode cL_refuses 102 = .ok (.irem, 1) := by decide +kernel
theorem dL_refuses_103 : decode cL_refuses 103 = .ok (.iadd, 1) := by decide +kernel
theorem dL_refuses_104 : decode cL_refuses 104 = .ok (.istore 6, 2) := by decide +kernel
theorem dL_refuses_106 : decode cL_refuses 106 = .ok (.iload_n 1, 1) := by decide +kernel
theorem dL_refuses_107 : decode cL_refuses 107 = .ok (.iconst 2, 1) := by decide +kernel
theorem dL_refuses_108 : decode cL_refuses 108 = .ok (.idiv, 1) := by decide +kernel
theorem dL_refuses_109 : decode cL_refuses 109 = .ok (.aload_n 0, 1) := by decide +kernel
theorem dL_refuses_110 : decode cL_refuses 110 = .ok (.invokevirtual 82, 3) := by decide +kernel
theorem dL_refuses_113 : decode cL_refuses 113 = .ok (.irem, 1) := by decide +kernel
theorem dL_refuses_114 : decode cL_refuses 114 = .ok (.istore 7, 2) := by decide +kernel
theorem dL_refuses_116 : decode cL_refuses 116 = .ok (.iload_n 1, 1) := by decide +kernel
theorem dL_refuses_117 : decode cL_refuses 117 = .ok (.iconst 2, 1) := by decide +kernel
theorem dL_refuses_118 : decode cL_refuses 118 = .ok (.idiv, 1) := by decide +kernel
theorem dL_refuses_119 : decode cL_refuses 119 = .ok (.aload_n 0, 1) := by decide +kernel
theorem dL_refuses_120 : decode cL_refuses 120 = .ok (.invokevirtual 78, 3) := by decide +kernel
theorem dL_refuses_123 : decode cL_refuses 123 = .ok (.irem, 1) := by decide +kernel
theorem dL_refuses_124 : decode cL_refuses 124 = .ok (.istore 8, 2) := by decide +kernel
theorem dL_refuses_126 : decode cL_refuses 126 = .ok (.aload_n 0, 1) := by decide +kernel
theorem dL_refuses_127 : decode cL_refuses 127 = .ok (.invokevirtual 88, 3) := by decide +kernel
theorem dL_refuses_130 : decode cL_refuses 130 = .ok (.istore 9, 2) := by decide +kernel
theorem dL_refuses_132 : decode cL_refuses 132 = .ok (.aload_n 0, 1) := by decide +kernel
theorem dL_refuses_133 : decode cL_refuses 133 = .ok (.iload 4, 2) := by decide +kernel
theorem dL_refuses_135 : decode cL_refuses 135 = .ok (.invokestatic 91, 3) := by decide +kernel
theorem dL_refuses_138 : decode cL_refuses 138 = .ok (.ldc 15, 2) := by decide +kernel
theorem dL_refuses_140 : decode cL_refuses 140 = .ok (.if_icmp .ne 527, 3) := by decide +kernel
theorem dL_refuses_143 : decode cL_refuses 143 = .ok (.aload_n 0, 1) := by decide +kernel
theorem dL_refuses_144 : decode cL_refuses 144 = .ok (.iload 6, 2) := by decide +kernel
theorem dL_refuses_146 : decode cL_refuses 146 = .ok (.iconst 0, 1) := by decide +kernel
theorem dL_refuses_147 : decode cL_refuses 147 = .ok (.iconst 1, 1) := by decide +kernel
theorem dL_refuses_148 : decode cL_refuses 148 = .ok (.invokestatic 97, 3) := by decide +kernel
theorem dL_refuses_151 : decode cL_refuses 151 = .ok (.ldc 25, 2) := by decide +kernel
theorem dL_refuses_153 : decode cL_refuses 153 = .ok (.if_icmp .ne 514, 3) := by decide +kernel
theorem dL_refuses_156 : decode cL_refuses 156 = .ok (.aload_n 0, 1) := by decide +kernel
theorem dL_refuses_157 : decode cL_refuses 157 = .ok (.iconst 0, 1) := by decide +kernel
theorem dL_refuses_158 : decode cL_refuses 158 = .ok (.iload 6, 2) := by decide +kernel
theorem dL_refuses_160 : decode cL_refuses 160 = .ok (.iconst 1, 1) := by decide +kernel
theorem dL_refuses_161 : decode cL_refuses 161 = .ok (.invokestatic 97, 3) := by decide +kernel
theorem dL_refuses_164 : decode cL_refuses 164 = .ok (.ldc 25, 2) := by decide +kernel
theorem dL_refuses_166 : decode cL_refuses 166 = .ok (.if_icmp .ne 501, 3) := by decide +kernel
theorem dL_refuses_169 : decode cL_refuses 169 = .ok (.aload_n 0, 1) := by decide +kernel
theorem dL_refuses_170 : decode cL_refuses 170 = .ok (.iconst 0, 1) := by decide +kernel
theorem dL_refuses_171 : decode cL_refuses 171 = .ok (.iconst 0, 1) := by decide +kernel
theorem dL_refuses_172 : decode cL_refuses 172 = .ok (.iload_n 1, 1) := by decide +kernel
theorem dL_refuses_173 : decode cL_refuses 173 = .ok (.ineg, 1) := by decide +kernel
theorem dL_refuses_174 : decode cL_refuses 174 = .ok (.invokestatic 97, 3) := by decide +kernel
theorem dL_refuses_177 : decode cL_refuses 177 = .ok (.ldc 25, 2) := by decide +kernel
theorem dL_refuses_179 : decode cL_refuses 179 = .ok (.if_icmp .ne 488, 3) := by decide +kernel
theorem dL_refuses_182 : decode cL_refuses 182 = .ok (.aload_n 0, 1) := by decide +kernel
theorem dL_refuses_183 : decode cL_refuses 183 = .ok (.iconst 0, 1) := by decide +kernel
theorem dL_refuses_184 : decode cL_refuses 184 = .ok (.iconst 0, 1) := by decide +kernel
theorem dL_refuses_185 : decode cL_refuses 185 = .ok (.sipush 1000, 3) := by decide +kernel
theorem dL_refuses_188 : decode cL_refuses 188 = .ok (.iload_n 1, 1) := by decide +kernel
theorem dL_refuses_189 : decode cL_refuses 189 = .ok (.iadd, 1) := by decide +kernel
theorem dL_refuses_190 : decode cL_refuses 190 = .ok (.invokestatic 97, 3) := by decide +kernel
theorem dL_refuses_193 : decode cL_refuses 193 = .ok (.ldc 25, 2) := by decide +kernel
theorem dL_refuses_195 : decode cL_refuses 195 = .ok (.if_icmp .ne 472, 3) := by decide +kernel
theorem dL_refuses_198 : decode cL_refuses 198 = .ok (.aload_n 0, 1) := by decide +kernel
theorem dL_refuses_199 : decode cL_refuses 199 = .ok (.sipush 998, 3) := by decide +kernel
theorem dL_refuses_202 : decode cL_refuses 202 = .ok (.iconst 0, 1) := by decide +kernel
theorem dL_refuses_203 : decode cL_refuses 203 = .ok (.iconst 2, 1) := by decide +kernel
theorem dL_refuses_204 : decode cL_refuses 204 = .ok (.invokestatic 97, 3) := by decide +kernel
theorem dL_refuses_207 : decode cL_refuses 207 = .ok (.ldc 25, 2) := by decide +kernel
theorem dL_refuses_209 : decode cL_refuses 209 = .ok (.if_icmp .ne 458, 3) := by decide +kernel
theorem dL_refuses_212 : decode cL_refuses 212 = .ok (.aload_n 0, 1) := by decide +kernel
theorem dL_refuses_213 : decode cL_refuses 213 = .ok (.iconst 0, 1) := by decide +kernel
theorem dL_refuses_214 : decode cL_refuses 214 = .ok (.sipush 998, 3) := by decide +kernel
theorem dL_refuses_217 : decode cL_refuses 217 = .ok (.iconst 2, 1) := by decide +kernel
theorem dL_refuses_218 : decode cL_refuses 218 = .ok (.iload_n 1, 1) := by decide +kernel
theorem dL_refuses_219 : decode cL_refuses 219 = .ok (.sipush 900, 3) := by decide +kernel
theorem dL_refuses_222 : decode cL_refuses 222 = .ok (.irem, 1) := by decide +kernel
theorem dL_refuses_223 : decode cL_refuses 223 = .ok (.iadd, 1) := by decide +kernel
theorem dL_refuses_224 : decode cL_refuses 224 = .ok (.invokestatic 97, 3) := by decide +kernel
theorem dL_refuses_227 : decode cL_refuses 227 = .ok (.ldc 25, 2) := by decide +kernel
theorem dL_refuses_229 : decode cL_refuses 229 = .ok (.if_icmp .ne 438, 3) := by decide +kernel
theorem dL_refuses_232 : decode cL_refuses 232 = .ok (.aload_n 0, 1) := by decide +kernel
theorem dL_refuses_233 : decode cL_refuses 233 = .ok (.iload 4, 2) := by decide +kernel
theorem dL_refuses_235 : decode cL_refuses 235 = .ok (.iload 8, 2) := by decide +kernel
theorem dL_refuses_237 : decode cL_refuses 237 = .ok (.invokestatic 101, 3) := by decide +kernel
theorem dL_refuses_240 : decode cL_refuses 240 = .ok (.ldc 15, 2) := by decide +kernel
theorem dL_refuses_242 : decode cL_refuses 242 = .ok (.if_icmp .ne 425, 3) := by decide +kernel
theorem dL_refuses_245 : decode cL_refuses 245 = .ok (.aload_n 0, 1) := by decide +kernel
theorem dL_refuses_246 : decode cL_refuses 246 = .ok (.iload 7, 2) := by decide +kernel
theorem dL_refuses_248 : decode cL_refuses 248 = .ok (.iload_n 3, 1) := by decide +kernel
theorem dL_refuses_249 : decode cL_refuses 249 = .ok (.invokestatic 101, 3) := by decide +kernel
theorem dL_refuses_252 : decode cL_refuses 252 = .ok (.ldc 15, 2) := by decide +kernel
theorem dL_refuses_254 : decode cL_refuses 254 = .ok (.if_icmp .ne 413, 3) := by decide +kernel
theorem dL_refuses_257 : decode cL_refuses 257 = .ok (.aload_n 0, 1) := by decide +kernel
theorem dL_refuses_258 : decode cL_refuses 258 = .ok (.iload 7, 2) := by decide +kernel
theorem dL_refuses_260 : decode cL_refuses 260 = .ok (.iconst 0, 1) := by decide +kernel
theorem dL_refuses_261 : decode cL_refuses 261 = .ok (.invokestatic 101, 3) := by decide +kernel
theorem dL_refuses_264 : decode cL_refuses 264 = .ok (.ldc 15, 2) := by decide +kernel
theorem dL_refuses_266 : decode cL_refuses 266 = .ok (.if_icmp .ne 401, 3) := by decide +kernel
theorem dL_refuses_269 : decode cL_refuses 269 = .ok (.aload_n 0, 1) := by decide +kernel
theorem dL_refuses_270 : decode cL_refuses 270 = .ok (.iload_n 3, 1) := by decide +kernel
theorem dL_refuses_271 : decode cL_refuses 271 = .ok (.invokestatic 105, 3) := by decide +kernel
theorem dL_refuses_274 : decode cL_refuses 274 = .ok (.ldc 15, 2) := by decide +kernel
theorem dL_refuses_276 : decode cL_refuses 276 = .ok (.if_icmp .ne 391, 3) := by decide +kernel
theorem dL_refuses_279 : decode cL_refuses 279 = .ok (.aload_n 0, 1) := by decide +kernel
theorem dL_refuses_280 : decode cL_refuses 280 = .ok (.iload_n 3, 1) := by decide +kernel
theorem dL_refuses_281 : decode cL_refuses 281 = .ok (.iload 6, 2) := by decide +kernel
theorem dL_refuses_283 : decode cL_refuses 283 = .ok (.invokestatic 108, 3) := by decide +kernel
theorem dL_refuses_286 : decode cL_refuses 286 = .ok (.ldc 15, 2) := by decide +kernel
theorem dL_refuses_288 : decode cL_refuses 288 = .ok (.if_icmp .ne 379, 3) := by decide +kernel
theorem dL_refuses_291 : decode cL_refuses 291 = .ok (.aload_n 0, 1) := by decide +kernel
theorem dL_refuses_292 : decode cL_refuses 292 = .ok (.iload 8, 2) := by decide +kernel
theorem dL_refuses_294 : decode cL_refuses 294 = .ok (.iload 6, 2) := by decide +kernel
theorem dL_refuses_296 : decode cL_refuses 296 = .ok (.invokestatic 108, 3) := by decide +kernel
theorem dL_refuses_299 : decode cL_refuses 299 = .ok (.ldc 25, 2) := by decide +kernel
theorem dL_refuses_301 : decode cL_refuses 301 = .ok (.if_icmp .ne 366, 3) := by decide +kernel
theorem dL_refuses_304 : decode cL_refuses 304 = .ok (.aload_n 0, 1) := by decide +kernel
theorem dL_refuses_305 : decode cL_refuses 305 = .ok (.iload_n 3, 1) := by decide +kernel
theorem dL_refuses_306 : decode cL_refuses 306 = .ok (.iconst 5, 1) := by decide +kernel
theorem dL_refuses_307 : decode cL_refuses 307 = .ok (.invokestatic 111, 3) := by decide +kernel
theorem dL_refuses_310 : decode cL_refuses 310 = .ok (.ldc 15, 2) := by decide +kernel
theorem dL_refuses_312 : decode cL_refuses 312 = .ok (.if_icmp .ne 355, 3) := by decide +kernel
theorem dL_refuses_315 : decode cL_refuses 315 = .ok (.aload_n 0, 1) := by decide +kernel
theorem dL_refuses_316 : decode cL_refuses 316 = .ok (.iload 8, 2) := by decide +kernel
theorem dL_refuses_318 : decode cL_refuses 318 = .ok (.iload 6, 2) := by decide +kernel
theorem dL_refuses_320 : decode cL_refuses 320 = .ok (.invokestatic 111, 3) := by decide +kernel
theorem dL_refuses_323 : decode cL_refuses 323 = .ok (.ldc 25, 2) := by decide +kernel
theorem dL_refuses_325 : decode cL_refuses 325 = .ok (.if_icmp .ne 342, 3) := by decide +kernel
theorem dL_refuses_328 : decode cL_refuses 328 = .ok (.aload_n 0, 1) := by decide +kernel
theorem dL_refuses_329 : decode cL_refuses 329 = .ok (.iload_n 3, 1) := by decide +kernel
theorem dL_refuses_330 : decode cL_refuses 330 = .ok (.iconst 5, 1) := by decide +kernel
theorem dL_refuses_331 : decode cL_refuses 331 = .ok (.invokestatic 114, 3) := by decide +kernel
theorem dL_refuses_334 : decode cL_refuses 334 = .ok (.ldc 15, 2) := by decide +kernel
theorem dL_refuses_336 : decode cL_refuses 336 = .ok (.if_icmp .ne 331, 3) := by decide +kernel
theorem dL_refuses_339 : decode cL_refuses 339 = .ok (.aload_n 0, 1) := by decide +kernel
theorem dL_refuses_340 : decode cL_refuses 340 = .ok (.iload 8, 2) := by decide +kernel
theorem dL_refuses_342 : decode cL_refuses 342 = .ok (.iload 6, 2) := by decide +kernel
theorem dL_refuses_344 : decode cL_refuses 344 = .ok (.invokestatic 114, 3) := by decide +kernel
theorem dL_refuses_347 : decode cL_refuses 347 = .ok (.ldc 25, 2) := by decide +kernel
theorem dL_refuses_349 : decode cL_refuses 349 = .ok (.if_icmp .ne 318, 3) := by decide +kernel
theorem dL_refuses_352 : decode cL_refuses 352 = .ok (.aload_n 0, 1) := by decide +kernel
theorem dL_refuses_353 : decode cL_refuses 353 = .ok (.iload 4, 2) := by decide +kernel
theorem dL_refuses_355 : decode cL_refuses 355 = .ok (.invokestatic 117, 3) := by decide +kernel
theorem dL_refuses_358 : decode cL_refuses 358 = .ok (.ldc 15, 2) := by decide +kernel
theorem dL_refuses_360 : decode cL_refuses 360 = .ok (.if_icmp .ne 307, 3) := by decide +kernel
theorem dL_refuses_363 : decode cL_refuses 363 = .ok (.aload_n 0, 1) := by decide +kernel
theorem dL_refuses_364 : decode cL_refuses 364 = .ok (.iload 4, 2) := by decide +kernel
theorem dL_refuses_366 : decode cL_refuses 366 = .ok (.bipush 99, 2) := by decide +kernel
theorem dL_refuses_368 : decode cL_refuses 368 = .ok (.invokestatic 120, 3) := by decide +kernel
theorem dL_refuses_371 : decode cL_refuses 371 = .ok (.ldc 15, 2) := by decide +kernel
theorem dL_refuses_373 : decode cL_refuses 373 = .ok (.if_icmp .ne 294, 3) := by decide +kernel
theorem dL_refuses_376 : decode cL_refuses 376 = .ok (.aload_n 0, 1) := by decide +kernel
theorem dL_refuses_377 : decode cL_refuses 377 = .ok (.iload 7, 2) := by decide +kernel
theorem dL_refuses_379 : decode cL_refuses 379 = .ok (.bipush 16, 2) := by decide +kernel
theorem dL_refuses_381 : decode cL_refuses 381 = .ok (.iload_n 1, 1) := by decide +kernel
theorem dL_refuses_382 : decode cL_refuses 382 = .ok (.iadd, 1) := by decide +kernel
theorem dL_refuses_383 : decode cL_refuses 383 = .ok (.invokestatic 120, 3) := by decide +kernel
theorem dL_refuses_386 : decode cL_refuses 386 = .ok (.ldc 25, 2) := by decide +kernel
theorem dL_refuses_388 : decode cL_refuses 388 = .ok (.if_icmp .ne 279, 3) := by decide +kernel
theorem dL_refuses_391 : decode cL_refuses 391 = .ok (.aload_n 0, 1) := by decide +kernel
theorem dL_refuses_392 : decode cL_refuses 392 = .ok (.iload 7, 2) := by decide +kernel
theorem dL_refuses_394 : decode cL_refuses 394 = .ok (.iconst (-1), 1) := by decide +kernel
theorem dL_refuses_395 : decode cL_refuses 395 = .ok (.iload_n 1, 1) := by decide +kernel
theorem dL_refuses_396 : decode cL_refuses 396 = .ok (.isub, 1) := by decide +kernel
theorem dL_refuses_397 : decode cL_refuses 397 = .ok (.invokestatic 120, 3) := by decide +kernel
theorem dL_refuses_400 : decode cL_refuses 400 = .ok (.ldc 25, 2) := by decide +kernel
theorem dL_refuses_402 : decode cL_refuses 402 = .ok (.if_icmp .ne 265, 3) := by decide +kernel
theorem dL_refuses_405 : decode cL_refuses 405 = .ok (.aload_n 0, 1) := by decide +kernel
theorem dL_refuses_406 : decode cL_refuses 406 = .ok (.iload 4, 2) := by decide +kernel
theorem dL_refuses_408 : decode cL_refuses 408 = .ok (.iload 8, 2) := by decide +kernel
theorem dL_refuses_410 : decode cL_refuses 410 = .ok (.invokestatic 123, 3) := by decide +kernel
theorem dL_refuses_413 : decode cL_refuses 413 = .ok (.ldc 15, 2) := by decide +kernel
theorem dL_refuses_415 : decode cL_refuses 415 = .ok (.if_icmp .ne 252, 3) := by decide +kernel
theorem dL_refuses_418 : decode cL_refuses 418 = .ok (.aload_n 0, 1) := by decide +kernel
theorem dL_refuses_419 : decode cL_refuses 419 = .ok (.iload 7, 2) := by decide +kernel
theorem dL_refuses_421 : decode cL_refuses 421 = .ok (.iload_n 3, 1) := by decide +kernel
theorem dL_refuses_422 : decode cL_refuses 422 = .ok (.invokestatic 123, 3) := by decide +kernel
theorem dL_refuses_425 : decode cL_refuses 425 = .ok (.ldc 15, 2) := by decide +kernel
theorem dL_refuses_427 : decode cL_refuses 427 = .ok (.if_icmp .ne 240, 3) := by decide +kernel
theorem dL_refuses_430 : decode cL_refuses 430 = .ok (.aload_n 0, 1) := by decide +kernel
theorem dL_refuses_431 : decode cL_refuses 431 = .ok (.iload 4, 2) := by decide +kernel
theorem dL_refuses_433 : decode cL_refuses 433 = .ok (.iload 6, 2) := by decide +kernel
theorem dL_refuses_435 : decode cL_refuses 435 = .ok (.invokestatic 126, 3) := by decide +kernel
theorem dL_refuses_438 : decode cL_refuses 438 = .ok (.ldc 15, 2) := by decide +kernel
theorem dL_refuses_440 : decode cL_refuses 440 = .ok (.if_icmp .ne 227, 3) := by decide +kernel
theorem dL_refuses_443 : decode cL_refuses 443 = .ok (.aload_n 0, 1) := by decide +kernel
theorem dL_refuses_444 : decode cL_refuses 444 = .ok (.iload 7, 2) := by decide +kernel
theorem dL_refuses_446 : decode cL_refuses 446 = .ok (.iload 6, 2) := by decide +kernel
theorem dL_refuses_448 : decode cL_refuses 448 = .ok (.invokestatic 126, 3) := by decide +kernel
theorem dL_refuses_451 : decode cL_refuses 451 = .ok (.ldc 25, 2) := by decide +kernel
theorem dL_refuses_453 : decode cL_refuses 453 = .ok (.if_icmp .ne 214, 3) := by decide +kernel
theorem dL_refuses_456 : decode cL_refuses 456 = .ok (.aload_n 0, 1) := by decide +kernel
theorem dL_refuses_457 : decode cL_refuses 457 = .ok (.iload 4, 2) := by decide +kernel
theorem dL_refuses_459 : decode cL_refuses 459 = .ok (.invokestatic 129, 3) := by decide +kernel
theorem dL_refuses_462 : decode cL_refuses 462 = .ok (.ldc 15, 2) := by decide +kernel
theorem dL_refuses_464 : decode cL_refuses 464 = .ok (.if_icmp .ne 203, 3) := by decide +kernel
theorem dL_refuses_467 : decode cL_refuses 467 = .ok (.aload_n 0, 1) := by decide +kernel
theorem dL_refuses_468 : decode cL_refuses 468 = .ok (.iload 4, 2) := by decide +kernel
theorem dL_refuses_470 : decode cL_refuses 470 = .ok (.invokestatic 132, 3) := by decide +kernel
theorem dL_refuses_473 : decode cL_refuses 473 = .ok (.ldc 15, 2) := by decide +kernel
theorem dL_refuses_475 : decode cL_refuses 475 = .ok (.if_icmp .ne 192, 3) := by decide +kernel
theorem dL_refuses_478 : decode cL_refuses 478 = .ok (.aload_n 0, 1) := by decide +kernel
theorem dL_refuses_479 : decode cL_refuses 479 = .ok (.iload 4, 2) := by decide +kernel
theorem dL_refuses_481 : decode cL_refuses 481 = .ok (.iload 8, 2) := by decide +kernel
theorem dL_refuses_483 : decode cL_refuses 483 = .ok (.invokestatic 135, 3) := by decide +kernel
theorem dL_refuses_486 : decode cL_refuses 486 = .ok (.ldc 15, 2) := by decide +kernel
theorem dL_refuses_488 : decode cL_refuses 488 = .ok (.if_icmp .ne 179, 3) := by decide +kernel
theorem dL_refuses_491 : decode cL_refuses 491 = .ok (.aload_n 0, 1) := by decide +kernel
theorem dL_refuses_492 : decode cL_refuses 492 = .ok (.iload 7, 2) := by decide +kernel
theorem dL_refuses_494 : decode cL_refuses 494 = .ok (.iload_n 3, 1) := by decide +kernel
theorem dL_refuses_495 : decode cL_refuses 495 = .ok (.invokestatic 135, 3) := by decide +kernel
theorem dL_refuses_498 : decode cL_refuses 498 = .ok (.ldc 15, 2) := by decide +kernel
theorem dL_refuses_500 : decode cL_refuses 500 = .ok (.if_icmp .ne 167, 3) := by decide +kernel
theorem dL_refuses_503 : decode cL_refuses 503 = .ok (.aload_n 0, 1) := by decide +kernel
theorem dL_refuses_504 : decode cL_refuses 504 = .ok (.iload 4, 2) := by decide +kernel
theorem dL_refuses_506 : decode cL_refuses 506 = .ok (.bipush 99, 2) := by decide +kernel
theorem dL_refuses_508 : decode cL_refuses 508 = .ok (.invokestatic 138, 3) := by decide +kernel
theorem dL_refuses_511 : decode cL_refuses 511 = .ok (.ldc 15, 2) := by decide +kernel
theorem dL_refuses_513 : decode cL_refuses 513 = .ok (.if_icmp .ne 154, 3) := by decide +kernel
theorem dL_refuses_516 : decode cL_refuses 516 = .ok (.aload_n 0, 1) := by decide +kernel
theorem dL_refuses_517 : decode cL_refuses 517 = .ok (.iload 7, 2) := by decide +kernel
theorem dL_refuses_519 : decode cL_refuses 519 = .ok (.bipush 16, 2) := by decide +kernel
theorem dL_refuses_521 : decode cL_refuses 521 = .ok (.iload_n 1, 1) := by decide +kernel
theorem dL_refuses_522 : decode cL_refuses 522 = .ok (.iadd, 1) := by decide +kernel
theorem dL_refuses_523 : decode cL_refuses 523 = .ok (.invokestatic 138, 3) := by decide +kernel
theorem dL_refuses_526 : decode cL_refuses 526 = .ok (.ldc 25, 2) := by decide +kernel
theorem dL_refuses_528 : decode cL_refuses 528 = .ok (.if_icmp .ne 139, 3) := by decide +kernel
theorem dL_refuses_531 : decode cL_refuses 531 = .ok (.aload_n 0, 1) := by decide +kernel
theorem dL_refuses_532 : decode cL_refuses 532 = .ok (.iload 7, 2) := by decide +kernel
theorem dL_refuses_534 : decode cL_refuses 534 = .ok (.iconst (-1), 1) := by decide +kernel
theorem dL_refuses_535 : decode cL_refuses 535 = .ok (.iload_n 1, 1) := by decide +kernel
theorem dL_refuses_536 : decode cL_refuses 536 = .ok (.isub, 1) := by decide +kernel
theorem dL_refuses_537 : decode cL_refuses 537 = .ok (.invokestatic 138, 3) := by decide +kernel
theorem dL_refuses_540 : decode cL_refuses 540 = .ok (.ldc 25, 2) := by decide +kernel
theorem dL_refuses_542 : decode cL_refuses 542 = .ok (.if_icmp .ne 125, 3) := by decide +kernel
theorem dL_refuses_545 : decode cL_refuses 545 = .ok (.aload_n 0, 1) := by decide +kernel
theorem dL_refuses_546 : decode cL_refuses 546 = .ok (.iload 4, 2) := by decide +kernel
theorem dL_refuses_548 : decode cL_refuses 548 = .ok (.iload 5, 2) := by decide +kernel
theorem dL_refuses_550 : decode cL_refuses 550 = .ok (.iload 6, 2) := by decide +kernel
theorem dL_refuses_552 : decode cL_refuses 552 = .ok (.invokestatic 140, 3) := by decide +kernel
theorem dL_refuses_555 : decode cL_refuses 555 = .ok (.ldc 15, 2) := by decide +kernel
theorem dL_refuses_557 : decode cL_refuses 557 = .ok (.if_icmp .ne 110, 3) := by decide +kernel
theorem dL_refuses_560 : decode cL_refuses 560 = .ok (.aload_n 0, 1) := by decide +kernel
theorem dL_refuses_561 : decode cL_refuses 561 = .ok (.iload 7, 2) := by decide +kernel
theorem dL_refuses_563 : decode cL_refuses 563 = .ok (.iload 5, 2) := by decide +kernel
theorem dL_refuses_565 : decode cL_refuses 565 = .ok (.iload 6, 2) := by decide +kernel
theorem dL_refuses_567 : decode cL_refuses 567 = .ok (.invokestatic 140, 3) := by decide +kernel
theorem dL_refuses_570 : decode cL_refuses 570 = .ok (.ldc 15, 2) := by decide +kernel
theorem dL_refuses_572 : decode cL_refuses 572 = .ok (.if_icmp .ne 95, 3) := by decide +kernel
theorem dL_refuses_575 : decode cL_refuses 575 = .ok (.aload_n 0, 1) := by decide +kernel
theorem dL_refuses_576 : decode cL_refuses 576 = .ok (.iload 7, 2) := by decide +kernel
theorem dL_refuses_578 : decode cL_refuses 578 = .ok (.iload 5, 2) := by decide +kernel
theorem dL_refuses_580 : decode cL_refuses 580 = .ok (.iconst 1, 1) := by decide +kernel
theorem dL_refuses_581 : decode cL_refuses 581 = .ok (.invokestatic 143, 3) := by decide +kernel
theorem dL_refuses_584 : decode cL_refuses 584 = .ok (.ldc 15, 2) := by decide +kernel
theorem dL_refuses_586 : decode cL_refuses 586 = .ok (.if_icmp .ne 81, 3) := by decide +kernel
theorem dL_refuses_589 : decode cL_refuses 589 = .ok (.aload_n 0, 1) := by decide +kernel
theorem dL_refuses_590 : decode cL_refuses 590 = .ok (.iload 7, 2) := by decide +kernel
theorem dL_refuses_592 : decode cL_refuses 592 = .ok (.iload 5, 2) := by decide +kernel
theorem dL_refuses_594 : decode cL_refuses 594 = .ok (.invokestatic 147, 3) := by decide +kernel
theorem dL_refuses_597 : decode cL_refuses 597 = .ok (.ldc 15, 2) := by decide +kernel
theorem dL_refuses_599 : decode cL_refuses 599 = .ok (.if_icmp .ne 68, 3) := by decide +kernel
theorem dL_refuses_602 : decode cL_refuses 602 = .ok (.aload_n 0, 1) := by decide +kernel
theorem dL_refuses_603 : decode cL_refuses 603 = .ok (.invokevirtual 78, 3) := by decide +kernel
theorem dL_refuses_606 : decode cL_refuses 606 = .ok (.bipush 10, 2) := by decide +kernel
theorem dL_refuses_608 : decode cL_refuses 608 = .ok (.if_icmp .lt 14, 3) := by decide +kernel
theorem dL_refuses_611 : decode cL_refuses 611 = .ok (.aload_n 0, 1) := by decide +kernel
theorem dL_refuses_612 : decode cL_refuses 612 = .ok (.iload 7, 2) := by decide +kernel
theorem dL_refuses_614 : decode cL_refuses 614 = .ok (.invokestatic 91, 3) := by decide +kernel
theorem dL_refuses_617 : decode cL_refuses 617 = .ok (.ldc 18, 2) := by decide +kernel
theorem dL_refuses_619 : decode cL_refuses 619 = .ok (.if_icmp .ne 48, 3) := by decide +kernel
theorem dL_refuses_622 : decode cL_refuses 622 = .ok (.aload_n 0, 1) := by decide +kernel
theorem dL_refuses_623 : decode cL_refuses 623 = .ok (.invokevirtual 82, 3) := by decide +kernel
theorem dL_refuses_626 : decode cL_refuses 626 = .ok (.bipush 12, 2) := by decide +kernel
theorem dL_refuses_628 : decode cL_refuses 628 = .ok (.if_icmp .lt 14, 3) := by decide +kernel
theorem dL_refuses_631 : decode cL_refuses 631 = .ok (.aload_n 0, 1) := by decide +kernel
theorem dL_refuses_632 : decode cL_refuses 632 = .ok (.iload 7, 2) := by decide +kernel
theorem dL_refuses_634 : decode cL_refuses 634 = .ok (.invokestatic 117, 3) := by decide +kernel
theorem dL_refuses_637 : decode cL_refuses 637 = .ok (.ldc 18, 2) := by decide +kernel
theorem dL_refuses_639 : decode cL_refuses 639 = .ok (.if_icmp .ne 28, 3) := by decide +kernel
theorem dL_refuses_642 : decode cL_refuses 642 = .ok (.aload_n 0, 1) := by decide +kernel
theorem dL_refuses_643 : decode cL_refuses 643 = .ok (.invokevirtual 85, 3) := by decide +kernel
theorem dL_refuses_646 : decode cL_refuses 646 = .ok (.bipush 20, 2) := by decide +kernel
theorem dL_refuses_648 : decode cL_refuses 648 = .ok (.if_icmp .lt 15, 3) := by decide +kernel
theorem dL_refuses_651 : decode cL_refuses 651 = .ok (.aload_n 0, 1) := by decide +kernel
theorem dL_refuses_652 : decode cL_refuses 652 = .ok (.iload 7, 2) := by decide +kernel
theorem dL_refuses_654 : decode cL_refuses 654 = .ok (.iconst 5, 1) := by decide +kernel
theorem dL_refuses_655 : decode cL_refuses 655 = .ok (.invokestatic 138, 3) := by decide +kernel
theorem dL_refuses_658 : decode cL_refuses 658 = .ok (.ldc 18, 2) := by decide +kernel
theorem dL_refuses_660 : decode cL_refuses 660 = .ok (.if_icmp .ne 7, 3) := by decide +kernel
theorem dL_refuses_663 : decode cL_refuses 663 = .ok (.iconst 1, 1) := by decide +kernel
theorem dL_refuses_664 : decode cL_refuses 664 = .ok (.goto 4, 3) := by decide +kernel
theorem dL_refuses_667 : decode cL_refuses 667 = .ok (.iconst 0, 1) := by decide +kernel
theorem dL_refuses_668 : decode cL_refuses 668 = .ok (.istore 10, 2) := by decide +kernel
theorem dL_refuses_670 : decode cL_refuses 670 = .ok (.iload 10, 2) := by decide +kernel
theorem dL_refuses_672 : decode cL_refuses 672 = .ok (.ifCond .eq 83, 3) := by decide +kernel
theorem dL_refuses_675 : decode cL_refuses 675 = .ok (.aload_n 0, 1) := by decide +kernel
theorem dL_refuses_676 : decode cL_refuses 676 = .ok (.invokevirtual 85, 3) := by decide +kernel
theorem dL_refuses_679 : decode cL_refuses 679 = .ok (.ifCond .le 76, 3) := by decide +kernel
theorem dL_refuses_682 : decode cL_refuses 682 = .ok (.iload_n 1, 1) := by decide +kernel
theorem dL_refuses_683 : decode cL_refuses 683 = .ok (.iconst 2, 1) := by decide +kernel
theorem dL_refuses_684 : decode cL_refuses 684 = .ok (.idiv, 1) := by decide +kernel
theorem dL_refuses_685 : decode cL_refuses 685 = .ok (.aload_n 0, 1) := by decide +kernel
theorem dL_refuses_686 : decode cL_refuses 686 = .ok (.invokevirtual 85, 3) := by decide +kernel
theorem dL_refuses_689 : decode cL_refuses 689 = .ok (.irem, 1) := by decide +kernel
theorem dL_refuses_690 : decode cL_refuses 690 = .ok (.istore 11, 2) := by decide +kernel
theorem dL_refuses_692 : decode cL_refuses 692 = .ok (.aload_n 0, 1) := by decide +kernel
theorem dL_refuses_693 : decode cL_refuses 693 = .ok (.iload 4, 2) := by decide +kernel
theorem dL_refuses_695 : decode cL_refuses 695 = .ok (.iload 11, 2) := by decide +kernel
theorem dL_refuses_697 : decode cL_refuses 697 = .ok (.iconst 5, 1) := by decide +kernel
theorem dL_refuses_698 : decode cL_refuses 698 = .ok (.invokestatic 140, 3) := by decide +kernel
theorem dL_refuses_701 : decode cL_refuses 701 = .ok (.ldc 15, 2) := by decide +kernel
theorem dL_refuses_703 : decode cL_refuses 703 = .ok (.if_icmp .ne 49, 3) := by decide +kernel
theorem dL_refuses_706 : decode cL_refuses 706 = .ok (.aload_n 0, 1) := by decide +kernel
theorem dL_refuses_707 : decode cL_refuses 707 = .ok (.iload 7, 2) := by decide +kernel
theorem dL_refuses_709 : decode cL_refuses 709 = .ok (.iload 11, 2) := by decide +kernel
theorem dL_refuses_711 : decode cL_refuses 711 = .ok (.iload 6, 2) := by decide +kernel
theorem dL_refuses_713 : decode cL_refuses 713 = .ok (.invokestatic 140, 3) := by decide +kernel
theorem dL_refuses_716 : decode cL_refuses 716 = .ok (.ldc 25, 2) := by decide +kernel
theorem dL_refuses_718 : decode cL_refuses 718 = .ok (.if_icmp .ne 34, 3) := by decide +kernel
theorem dL_refuses_721 : decode cL_refuses 721 = .ok (.aload_n 0, 1) := by decide +kernel
theorem dL_refuses_722 : decode cL_refuses 722 = .ok (.iload 4, 2) := by decide +kernel
theorem dL_refuses_724 : decode cL_refuses 724 = .ok (.iload 11, 2) := by decide +kernel
theorem dL_refuses_726 : decode cL_refuses 726 = .ok (.iconst 0, 1) := by decide +kernel
theorem dL_refuses_727 : decode cL_refuses 727 = .ok (.invokestatic 143, 3) := by decide +kernel
theorem dL_refuses_730 : decode cL_refuses 730 = .ok (.ldc 15, 2) := by decide +kernel
theorem dL_refuses_732 : decode cL_refuses 732 = .ok (.if_icmp .ne 20, 3) := by decide +kernel
theorem dL_refuses_735 : decode cL_refuses 735 = .ok (.aload_n 0, 1) := by decide +kernel
theorem dL_refuses_736 : decode cL_refuses 736 = .ok (.iload 4, 2) := by decide +kernel
theorem dL_refuses_738 : decode cL_refuses 738 = .ok (.iload 11, 2) := by decide +kernel
theorem dL_refuses_740 : decode cL_refuses 740 = .ok (.invokestatic 147, 3) := by decide +kernel
theorem dL_refuses_743 : decode cL_refuses 743 = .ok (.ldc 15, 2) := by decide +kernel
theorem dL_refuses_745 : decode cL_refuses 745 = .ok (.if_icmp .ne 7, 3) := by decide +kernel
theorem dL_refuses_748 : decode cL_refuses 748 = .ok (.iconst 1, 1) := by decide +kernel
theorem dL_refuses_749 : decode cL_refuses 749 = .ok (.goto 4, 3) := by decide +kernel
theorem dL_refuses_752 : decode cL_refuses 752 = .ok (.iconst 0, 1) := by decide +kernel
theorem dL_refuses_753 : decode cL_refuses 753 = .ok (.istore 10, 2) := by decide +kernel
theorem dL_refuses_755 : decode cL_refuses 755 = .ok (.iload 10, 2) := by decide +kernel
theorem dL_refuses_757 : decode cL_refuses 757 = .ok (.ifCond .eq 16, 3) := by decide +kernel
theorem dL_refuses_760 : decode cL_refuses 760 = .ok (.aload_n 0, 1) := by decide +kernel
theorem dL_refuses_761 : decode cL_refuses 761 = .ok (.invokevirtual 88, 3) := by decide +kernel
theorem dL_refuses_764 : decode cL_refuses 764 = .ok (.iload 9, 2) := by decide +kernel
theorem dL_refuses_766 : decode cL_refuses 766 = .ok (.if_icmp .ne 7, 3) := by decide +kernel
theorem dL_refuses_769 : decode cL_refuses 769 = .ok (.iconst 1, 1) := by decide +kernel
theorem dL_refuses_770 : decode cL_refuses 770 = .ok (.goto 4, 3) := by decide +kernel
theorem dL_refuses_773 : decode cL_refuses 773 = .ok (.iconst 0, 1) := by decide +kernel
theorem dL_refuses_774 : decode cL_refuses 774 = .ok (.ireturn, 1) := by decide +kernel
theorem dL_act_0 : decode cL_act 0 = .ok (.iload_n 1, 1) := by decide +kernel
theorem dL_act_1 : decode cL_act 1 = .ok (.bipush 16, 2) := by decide +kernel
theorem dL_act_3 : decode cL_act 3 = .ok (.idiv, 1) := by decide +kernel
theorem dL_act_4 : decode cL_act 4 = .ok (.istore_n 2, 1) := by decide +kernel
theorem dL_act_5 : decode cL_act 5 = .ok (.iload_n 2, 1) := by decide +kernel
theorem dL_act_6 : decode cL_act 6 = .ok (.aload_n 0, 1) := by decide +kernel
theorem dL_act_7 : decode cL_act 7 = .ok (.invokevirtual 82, 3) := by decide +kernel
theorem dL_act_10 : decode cL_act 10 = .ok (.irem, 1) := by decide +kernel
theorem dL_act_11 : decode cL_act 11 = .ok (.istore_n 3, 1) := by decide +kernel
theorem dL_act_12 : decode cL_act 12 = .ok (.aload_n 0, 1) := by decide +kernel
theorem dL_act_13 : decode cL_act 13 = .ok (.invokevirtual 85, 3) := by decide +kernel
theorem dL_act_16 : decode cL_act 16 = .ok (.ifCond .ne 7, 3) := by decide +kernel
theorem dL_act_19 : decode cL_act 19 = .ok (.iconst 0, 1) := by decide +kernel
theorem dL_act_20 : decode cL_act 20 = .ok (.goto 12, 3) := by decide +kernel
theorem dL_act_23 : decode cL_act 23 = .ok (.iload_n 2, 1) := by decide +kernel
theorem dL_act_24 : decode cL_act 24 = .ok (.bipush 12, 2) := by decide +kernel
theorem dL_act_26 : decode cL_act 26 = .ok (.idiv, 1) := by decide +kernel
theorem dL_act_27 : decode cL_act 27 = .ok (.aload_n 0, 1) := by decide +kernel
theorem dL_act_28 : decode cL_act 28 = .ok (.invokevirtual 85, 3) := by decide +kernel
theorem dL_act_31 : decode cL_act 31 = .ok (.irem, 1) := by decide +kernel
theorem dL_act_32 : decode cL_act 32 = .ok (.istore 4, 2) := by decide +kernel
theorem dL_act_34 : decode cL_act 34 = .ok (.iload_n 2, 1) := by decide +kernel
theorem dL_act_35 : decode cL_act 35 = .ok (.bipush 12, 2) := by decide +kernel
theorem dL_act_37 : decode cL_act 37 = .ok (.idiv, 1) := by decide +kernel
theorem dL_act_38 : decode cL_act 38 = .ok (.iload_n 2, 1) := by decide +kernel
theorem dL_act_39 : decode cL_act 39 = .ok (.iconst 5, 1) := by decide +kernel
theorem dL_act_40 : decode cL_act 40 = .ok (.irem, 1) := by decide +kernel
theorem dL_act_41 : decode cL_act 41 = .ok (.ifCond .ne 9, 3) := by decide +kernel
theorem dL_act_44 : decode cL_act 44 = .ok (.sipush 999, 3) := by decide +kernel
theorem dL_act_47 : decode cL_act 47 = .ok (.goto 5, 3) := by decide +kernel
theorem dL_act_50 : decode cL_act 50 = .ok (.bipush 12, 2) := by decide +kernel
theorem dL_act_52 : decode cL_act 52 = .ok (.irem, 1) := by decide +kernel
theorem dL_act_53 : decode cL_act 53 = .ok (.istore 5, 2) := by decide +kernel
theorem dL_act_55 : decode cL_act 55 = .ok (.iload_n 1, 1) := by decide +kernel
theorem dL_act_56 : decode cL_act 56 = .ok (.bipush 16, 2) := by decide +kernel
theorem dL_act_58 : decode cL_act 58 = .ok (.irem, 1) := by decide +kernel
theorem dL_act_59 : decode cL_act 59 = .ok (.tableswitch 214 0 14 #[73, 73, 79, 79, 79, 117, 117, 117, 148, 154, 168, 183, 183, 191, 204], 73) := by decide +kernel
theorem dL_act_132 : decode cL_act 132 = .ok (.aload_n 0, 1) := by decide +kernel
theorem dL_act_133 : decode cL_act 133 = .ok (.iload_n 3, 1) := by decide +kernel
theorem dL_act_134 : decode cL_act 134 = .ok (.invokestatic 91, 3) := by decide +kernel
theorem dL_act_137 : decode cL_act 137 = .ok (.ireturn, 1) := by decide +kernel
theorem dL_act_138 : decode cL_act 138 = .ok (.aload_n 0, 1) := by decide +kernel
theorem dL_act_139 : decode cL_act 139 = .ok (.iload_n 2, 1) := by decide +kernel
theorem dL_act_140 : decode cL_act 140 = .ok (.bipush 10, 2) := by decide +kernel
theorem dL_act_142 : decode cL_act 142 = .ok (.irem, 1) := by decide +kernel
theorem dL_act_143 : decode cL_act 143 = .ok (.iload_n 2, 1) := by decide +kernel
theorem dL_act_144 : decode cL_act 144 = .ok (.bipush 10, 2) := by decide +kernel
theorem dL_act_146 : decode cL_act 146 = .ok (.idiv, 1) := by decide +kernel
theorem dL_act_147 : decode cL_act 147 = .ok (.bipush 10, 2) := by decide +kernel
theorem dL_act_149 : decode cL_act 149 = .ok (.irem, 1) := by decide +kernel
theorem dL_act_150 : decode cL_act 150 = .ok (.iconst 1, 1) := by decide +kernel
theorem dL_act_151 : decode cL_act 151 = .ok (.iload_n 2, 1) := by decide +kernel
theorem dL_act_152 : decode cL_act 152 = .ok (.bipush 100, 2) := by decide +kernel
theorem dL_act_154 : decode cL_act 154 = .ok (.idiv, 1) := by decide +kernel
theorem dL_act_155 : decode cL_act 155 = .ok (.iload_n 2, 1) := by decide +kernel
theorem dL_act_156 : decode cL_act 156 = .ok (.bipush 7, 2) := by decide +kernel
theorem dL_act_158 : decode cL_act 158 = .ok (.irem, 1) := by decide +kernel
theorem dL_act_159 : decode cL_act 159 = .ok (.ifCond .ne 9, 3) := by decide +kernel
theorem dL_act_162 : decode cL_act 162 = .ok (.sipush 980, 3) := by decide +kernel
theorem dL_act_165 : decode cL_act 165 = .ok (.goto 5, 3) := by decide +kernel
theorem dL_act_168 : decode cL_act 168 = .ok (.bipush 6, 2) := by decide +kernel
theorem dL_act_170 : decode cL_act 170 = .ok (.irem, 1) := by decide +kernel
theorem dL_act_171 : decode cL_act 171 = .ok (.iadd, 1) := by decide +kernel
theorem dL_act_172 : decode cL_act 172 = .ok (.invokestatic 97, 3) := by decide +kernel
theorem dL_act_175 : decode cL_act 175 = .ok (.ireturn, 1) := by decide +kernel
theorem dL_act_176 : decode cL_act 176 = .ok (.aload_n 0, 1) := by decide +kernel
theorem dL_act_177 : decode cL_act 177 = .ok (.iload_n 3, 1) := by decide +kernel
theorem dL_act_178 : decode cL_act 178 = .ok (.aload_n 0, 1) := by decide +kernel
theorem dL_act_179 : decode cL_act 179 = .ok (.invokevirtual 78, 3) := by decide +kernel
theorem dL_act_182 : decode cL_act 182 = .ok (.iconst 1, 1) := by decide +kernel
theorem dL_act_183 : decode cL_act 183 = .ok (.if_icmp .ne 7, 3) := by decide +kernel
theorem dL_act_186 : decode cL_act 186 = .ok (.iconst 1, 1) := by decide +kernel
theorem dL_act_187 : decode cL_act 187 = .ok (.goto 16, 3) := by decide +kernel
theorem dL_act_190 : decode cL_act 190 = .ok (.iconst 1, 1) := by decide +kernel
theorem dL_act_191 : decode cL_act 191 = .ok (.iload_n 2, 1) := by decide +kernel
theorem dL_act_192 : decode cL_act 192 = .ok (.bipush 12, 2) := by decide +kernel
theorem dL_act_194 : decode cL_act 194 = .ok (.idiv, 1) := by decide +kernel
theorem dL_act_195 : decode cL_act 195 = .ok (.aload_n 0, 1) := by decide +kernel
theorem dL_act_196 : decode cL_act 196 = .ok (.invokevirtual 78, 3) := by decide +kernel
theorem dL_act_199 : decode cL_act 199 = .ok (.iconst 1, 1) := by decide +kernel
theorem dL_act_200 : decode cL_act 200 = .ok (.isub, 1) := by decide +kernel
theorem dL_act_201 : decode cL_act 201 = .ok (.irem, 1) := by decide +kernel
theorem dL_act_202 : decode cL_act 202 = .ok (.iadd, 1) := by decide +kernel
theorem dL_act_203 : decode cL_act 203 = .ok (.invokestatic 101, 3) := by decide +kernel
theorem dL_act_206 : decode cL_act 206 = .ok (.ireturn, 1) := by decide +kernel
theorem dL_act_207 : decode cL_act 207 = .ok (.aload_n 0, 1) := by decide +kernel
theorem dL_act_208 : decode cL_act 208 = .ok (.iload_n 3, 1) := by decide +kernel
theorem dL_act_209 : decode cL_act 209 = .ok (.invokestatic 117, 3) := by decide +kernel
theorem dL_act_212 : decode cL_act 212 = .ok (.ireturn, 1) := by decide +kernel
theorem dL_act_213 : decode cL_act 213 = .ok (.aload_n 0, 1) := by decide +kernel
theorem dL_act_214 : decode cL_act 214 = .ok (.iload_n 3, 1) := by decide +kernel
theorem dL_act_215 : decode cL_act 215 = .ok (.iconst 1, 1) := by decide +kernel
theorem dL_act_216 : decode cL_act 216 = .ok (.iload_n 2, 1) := by decide +kernel
theorem dL_act_217 : decode cL_act 217 = .ok (.bipush 12, 2) := by decide +kernel
theorem dL_act_219 : decode cL_act 219 = .ok (.idiv, 1) := by decide +kernel
theorem dL_act_220 : decode cL_act 220 = .ok (.iconst 4, 1) := by decide +kernel
theorem dL_act_221 : decode cL_act 221 = .ok (.irem, 1) := by decide +kernel
theorem dL_act_222 : decode cL_act 222 = .ok (.ishl, 1) := by decide +kernel
theorem dL_act_223 : decode cL_act 223 = .ok (.invokestatic 120, 3) := by decide +kernel
theorem dL_act_226 : decode cL_act 226 = .ok (.ireturn, 1) := by decide +kernel
theorem dL_act_227 : decode cL_act 227 = .ok (.aload_n 0, 1) := by decide +kernel
theorem dL_act_228 : decode cL_act 228 = .ok (.iload_n 3, 1) := by decide +kernel
theorem dL_act_229 : decode cL_act 229 = .ok (.iload_n 2, 1) := by decide +kernel
theorem dL_act_230 : decode cL_act 230 = .ok (.bipush 12, 2) := by decide +kernel
theorem dL_act_232 : decode cL_act 232 = .ok (.idiv, 1) := by decide +kernel
theorem dL_act_233 : decode cL_act 233 = .ok (.aload_n 0, 1) := by decide +kernel
theorem dL_act_234 : decode cL_act 234 = .ok (.invokevirtual 78, 3) := by decide +kernel
theorem dL_act_237 : decode cL_act 237 = .ok (.irem, 1) := by decide +kernel
theorem dL_act_238 : decode cL_act 238 = .ok (.invokestatic 123, 3) := by decide +kernel
theorem dL_act_241 : decode cL_act 241 = .ok (.ireturn, 1) := by decide +kernel
theorem dL_act_242 : decode cL_act 242 = .ok (.aload_n 0, 1) := by decide +kernel
theorem dL_act_243 : decode cL_act 243 = .ok (.iload_n 3, 1) := by decide +kernel
theorem dL_act_244 : decode cL_act 244 = .ok (.iload 5, 2) := by decide +kernel
theorem dL_act_246 : decode cL_act 246 = .ok (.invokestatic 126, 3) := by decide +kernel
theorem dL_act_249 : decode cL_act 249 = .ok (.ireturn, 1) := by decide +kernel
theorem dL_act_250 : decode cL_act 250 = .ok (.aload_n 0, 1) := by decide +kernel
theorem dL_act_251 : decode cL_act 251 = .ok (.iload_n 3, 1) := by decide +kernel
theorem dL_act_252 : decode cL_act 252 = .ok (.iload_n 2, 1) := by decide +kernel
theorem dL_act_253 : decode cL_act 253 = .ok (.bipush 12, 2) := by decide +kernel
theorem dL_act_255 : decode cL_act 255 = .ok (.idiv, 1) := by decide +kernel
theorem dL_act_256 : decode cL_act 256 = .ok (.bipush 16, 2) := by decide +kernel
theorem dL_act_258 : decode cL_act 258 = .ok (.irem, 1) := by decide +kernel
theorem dL_act_259 : decode cL_act 259 = .ok (.invokestatic 138, 3) := by decide +kernel
theorem dL_act_262 : decode cL_act 262 = .ok (.ireturn, 1) := by decide +kernel
theorem dL_act_263 : decode cL_act 263 = .ok (.aload_n 0, 1) := by decide +kernel
theorem dL_act_264 : decode cL_act 264 = .ok (.iload_n 3, 1) := by decide +kernel
theorem dL_act_265 : decode cL_act 265 = .ok (.iload 4, 2) := by decide +kernel
theorem dL_act_267 : decode cL_act 267 = .ok (.iload 5, 2) := by decide +kernel
theorem dL_act_269 : decode cL_act 269 = .ok (.invokestatic 140, 3) := by decide +kernel
theorem dL_act_272 : decode cL_act 272 = .ok (.ireturn, 1) := by decide +kernel
theorem dL_act_273 : decode cL_act 273 = .ok (.aload_n 0, 1) := by decide +kernel
theorem dL_act_274 : decode cL_act 274 = .ok (.iload_n 3, 1) := by decide +kernel
theorem dL_act_275 : decode cL_act 275 = .ok (.iload 4, 2) := by decide +kernel
theorem dL_act_277 : decode cL_act 277 = .ok (.iload_n 2, 1) := by decide +kernel
theorem dL_act_278 : decode cL_act 278 = .ok (.sipush 240, 3) := by decide +kernel
theorem dL_act_281 : decode cL_act 281 = .ok (.idiv, 1) := by decide +kernel
theorem dL_act_282 : decode cL_act 282 = .ok (.iconst 2, 1) := by decide +kernel
theorem dL_act_283 : decode cL_act 283 = .ok (.irem, 1) := by decide +kernel
theorem dL_act_284 : decode cL_act 284 = .ok (.ifCond .ne 7, 3) := by decide +kernel
theorem dL_act_287 : decode cL_act 287 = .ok (.iconst 1, 1) := by decide +kernel
theorem dL_act_288 : decode cL_act 288 = .ok (.goto 4, 3) := by decide +kernel
theorem dL_act_291 : decode cL_act 291 = .ok (.iconst 0, 1) := by decide +kernel
theorem dL_act_292 : decode cL_act 292 = .ok (.invokestatic 143, 3) := by decide +kernel
theorem dL_act_295 : decode cL_act 295 = .ok (.ireturn, 1) := by decide +kernel
theorem dL_alike_0 : decode cL_alike 0 = .ok (.aload_n 0, 1) := by decide +kernel
theorem dL_alike_1 : decode cL_alike 1 = .ok (.invokevirtual 78, 3) := by decide +kernel
theorem dL_alike_4 : decode cL_alike 4 = .ok (.aload_n 1, 1) := by decide +kernel
theorem dL_alike_5 : decode cL_alike 5 = .ok (.invokevirtual 78, 3) := by decide +kernel
theorem dL_alike_8 : decode cL_alike 8 = .ok (.if_icmp .ne 51, 3) := by decide +kernel
theorem dL_alike_11 : decode cL_alike 11 = .ok (.aload_n 0, 1) := by decide +kernel
theorem dL_alike_12 : decode cL_alike 12 = .ok (.invokevirtual 82, 3) := by decide +kernel
theorem dL_alike_15 : decode cL_alike 15 = .ok (.aload_n 1, 1) := by decide +kernel
theorem dL_alike_16 : decode cL_alike 16 = .ok (.invokevirtual 82, 3) := by decide +kernel
theorem dL_alike_19 : decode cL_alike 19 = .ok (.if_icmp .ne 40, 3) := by decide +kernel
theorem dL_alike_22 : decode cL_alike 22 = .ok (.aload_n 0, 1) := by decide +kernel
theorem dL_alike_23 : decode cL_alike 23 = .ok (.invokevirtual 85, 3) := by decide +kernel
theorem dL_alike_26 : decode cL_alike 26 = .ok (.aload_n 1, 1) := by decide +kernel
theorem dL_alike_27 : decode cL_alike 27 = .ok (.invokevirtual 85, 3) := by decide +kernel
theorem dL_alike_30 : decode cL_alike 30 = .ok (.if_icmp .ne 29, 3) := by decide +kernel
theorem dL_alike_33 : decode cL_alike 33 = .ok (.aload_n 0, 1) := by decide +kernel
theorem dL_alike_34 : decode cL_alike 34 = .ok (.invokevirtual 88, 3) := by decide +kernel
theorem dL_alike_37 : decode cL_alike 37 = .ok (.aload_n 1, 1) := by decide +kernel
theorem dL_alike_38 : decode cL_alike 38 = .ok (.invokevirtual 88, 3) := by decide +kernel
theorem dL_alike_41 : decode cL_alike 41 = .ok (.if_icmp .ne 18, 3) := by decide +kernel
theorem dL_alike_44 : decode cL_alike 44 = .ok (.aload_n 0, 1) := by decide +kernel
theorem dL_alike_45 : decode cL_alike 45 = .ok (.invokevirtual 150, 3) := by decide +kernel
theorem dL_alike_48 : decode cL_alike 48 = .ok (.aload_n 1, 1) := by decide +kernel
theorem dL_alike_49 : decode cL_alike 49 = .ok (.invokevirtual 150, 3) := by decide +kernel
theorem dL_alike_52 : decode cL_alike 52 = .ok (.if_icmp .ne 7, 3) := by decide +kernel
theorem dL_alike_55 : decode cL_alike 55 = .ok (.iconst 1, 1) := by decide +kernel
theorem dL_alike_56 : decode cL_alike 56 = .ok (.goto 4, 3) := by decide +kernel
theorem dL_alike_59 : decode cL_alike 59 = .ok (.iconst 0, 1) := by decide +kernel
theorem dL_alike_60 : decode cL_alike 60 = .ok (.istore_n 3, 1) := by decide +kernel
theorem dL_alike_61 : decode cL_alike 61 = .ok (.iconst 0, 1) := by decide +kernel
theorem dL_alike_62 : decode cL_alike 62 = .ok (.istore 4, 2) := by decide +kernel
theorem dL_alike_64 : decode cL_alike 64 = .ok (.iload 4, 2) := by decide +kernel
theorem dL_alike_66 : decode cL_alike 66 = .ok (.aload_n 0, 1) := by decide +kernel
theorem dL_alike_67 : decode cL_alike 67 = .ok (.invokevirtual 78, 3) := by decide +kernel
theorem dL_alike_70 : decode cL_alike 70 = .ok (.if_icmp .ge 95, 3) := by decide +kernel
theorem dL_alike_73 : decode cL_alike 73 = .ok (.iload_n 3, 1) := by decide +kernel
theorem dL_alike_74 : decode cL_alike 74 = .ok (.ifCond .eq 91, 3) := by decide +kernel
theorem dL_alike_77 : decode cL_alike 77 = .ok (.iload_n 2, 1) := by decide +kernel
theorem dL_alike_78 : decode cL_alike 78 = .ok (.iconst 2, 1) := by decide +kernel
theorem dL_alike_79 : decode cL_alike 79 = .ok (.iload 4, 2) := by decide +kernel
theorem dL_alike_81 : decode cL_alike 81 = .ok (.iadd, 1) := by decide +kernel
theorem dL_alike_82 : decode cL_alike 82 = .ok (.idiv, 1) := by decide +kernel
theorem dL_alike_83 : decode cL_alike 83 = .ok (.iload_n 2, 1) := by decide +kernel
theorem dL_alike_84 : decode cL_alike 84 = .ok (.iconst 3, 1) := by decide +kernel
theorem dL_alike_85 : decode cL_alike 85 = .ok (.irem, 1) := by decide +kernel
theorem dL_alike_86 : decode cL_alike 86 = .ok (.ifCond .ne 9, 3) := by decide +kernel
theorem dL_alike_89 : decode cL_alike 89 = .ok (.sipush 999, 3) := by decide +kernel
theorem dL_alike_92 : decode cL_alike 92 = .ok (.goto 5, 3) := by decide +kernel
theorem dL_alike_95 : decode cL_alike 95 = .ok (.bipush 14, 2) := by decide +kernel
theorem dL_alike_97 : decode cL_alike 97 = .ok (.irem, 1) := by decide +kernel
theorem dL_alike_98 : decode cL_alike 98 = .ok (.istore 5, 2) := by decide +kernel
theorem dL_alike_100 : decode cL_alike 100 = .ok (.aload_n 0, 1) := by decide +kernel
theorem dL_alike_101 : decode cL_alike 101 = .ok (.iload 4, 2) := by decide +kernel
theorem dL_alike_103 : decode cL_alike 103 = .ok (.invokestatic 105, 3) := by decide +kernel
theorem dL_alike_106 : decode cL_alike 106 = .ok (.aload_n 1, 1) := by decide +kernel
theorem dL_alike_107 : decode cL_alike 107 = .ok (.iload 4, 2) := by decide +kernel
theorem dL_alike_109 : decode cL_alike 109 = .ok (.invokestatic 105, 3) := by decide +kernel
theorem dL_alike_112 : decode cL_alike 112 = .ok (.if_icmp .ne 45, 3) := by decide +kernel
theorem dL_alike_115 : decode cL_alike 115 = .ok (.aload_n 0, 1) := by decide +kernel
theorem dL_alike_116 : decode cL_alike 116 = .ok (.iload 4, 2) := by decide +kernel
theorem dL_alike_118 : decode cL_alike 118 = .ok (.iload 5, 2) := by decide +kernel
theorem dL_alike_120 : decode cL_alike 120 = .ok (.invokestatic 108, 3) := by decide +kernel
theorem dL_alike_123 : decode cL_alike 123 = .ok (.aload_n 1, 1) := by decide +kernel
theorem dL_alike_124 : decode cL_alike 124 = .ok (.iload 4, 2) := by decide +kernel
theorem dL_alike_126 : decode cL_alike 126 = .ok (.iload 5, 2) := by decide +kernel
theorem dL_alike_128 : decode cL_alike 128 = .ok (.invokestatic 108, 3) := by decide +kernel
theorem dL_alike_131 : decode cL_alike 131 = .ok (.if_icmp .ne 26, 3) := by decide +kernel
theorem dL_alike_134 : decode cL_alike 134 = .ok (.aload_n 0, 1) := by decide +kernel
theorem dL_alike_135 : decode cL_alike 135 = .ok (.iload 4, 2) := by decide +kernel
theorem dL_alike_137 : decode cL_alike 137 = .ok (.iload 5, 2) := by decide +kernel
theorem dL_alike_139 : decode cL_alike 139 = .ok (.invokestatic 111, 3) := by decide +kernel
theorem dL_alike_142 : decode cL_alike 142 = .ok (.aload_n 1, 1) := by decide +kernel
theorem dL_alike_143 : decode cL_alike 143 = .ok (.iload 4, 2) := by decide +kernel
theorem dL_alike_145 : decode cL_alike 145 = .ok (.iload 5, 2) := by decide +kernel
theorem dL_alike_147 : decode cL_alike 147 = .ok (.invokestatic 111, 3) := by decide +kernel
theorem dL_alike_150 : decode cL_alike 150 = .ok (.if_icmp .ne 7, 3) := by decide +kernel
theorem dL_alike_153 : decode cL_alike 153 = .ok (.iconst 1, 1) := by decide +kernel
theorem dL_alike_154 : decode cL_alike 154 = .ok (.goto 4, 3) := by decide +kernel
theorem dL_alike_157 : decode cL_alike 157 = .ok (.iconst 0, 1) := by decide +kernel
theorem dL_alike_158 : decode cL_alike 158 = .ok (.istore_n 3, 1) := by decide +kernel
theorem dL_alike_159 : decode cL_alike 159 = .ok (.iinc 4 1, 3) := by decide +kernel
theorem dL_alike_162 : decode cL_alike 162 = .ok (.goto (-98), 3) := by decide +kernel
theorem dL_alike_165 : decode cL_alike 165 = .ok (.iconst 0, 1) := by decide +kernel
theorem dL_alike_166 : decode cL_alike 166 = .ok (.istore 4, 2) := by decide +kernel
theorem dL_alike_168 : decode cL_alike 168 = .ok (.iload 4, 2) := by decide +kernel
theorem dL_alike_170 : decode cL_alike 170 = .ok (.aload_n 0, 1) := by decide +kernel
theorem dL_alike_171 : decode cL_alike 171 = .ok (.invokevirtual 82, 3) := by decide +kernel
theorem dL_alike_174 : decode cL_alike 174 = .ok (.if_icmp .ge 76, 3) := by decide +kernel
theorem dL_alike_177 : decode cL_alike 177 = .ok (.iload_n 3, 1) := by decide +kernel
theorem dL_alike_178 : decode cL_alike 178 = .ok (.ifCond .eq 72, 3) := by decide +kernel
theorem dL_alike_181 : decode cL_alike 181 = .ok (.aload_n 0, 1) := by decide +kernel
theorem dL_alike_182 : decode cL_alike 182 = .ok (.iload 4, 2) := by decide +kernel
theorem dL_alike_184 : decode cL_alike 184 = .ok (.invokestatic 129, 3) := by decide +kernel
theorem dL_alike_187 : decode cL_alike 187 = .ok (.aload_n 1, 1) := by decide +kernel
theorem dL_alike_188 : decode cL_alike 188 = .ok (.iload 4, 2) := by decide +kernel
theorem dL_alike_190 : decode cL_alike 190 = .ok (.invokestatic 129, 3) := by decide +kernel
theorem dL_alike_193 : decode cL_alike 193 = .ok (.if_icmp .ne 49, 3) := by decide +kernel
theorem dL_alike_196 : decode cL_alike 196 = .ok (.aload_n 0, 1) := by decide +kernel
theorem dL_alike_197 : decode cL_alike 197 = .ok (.iload 4, 2) := by decide +kernel
theorem dL_alike_199 : decode cL_alike 199 = .ok (.invokestatic 132, 3) := by decide +kernel
theorem dL_alike_202 : decode cL_alike 202 = .ok (.aload_n 1, 1) := by decide +kernel
theorem dL_alike_203 : decode cL_alike 203 = .ok (.iload 4, 2) := by decide +kernel
theorem dL_alike_205 : decode cL_alike 205 = .ok (.invokestatic 132, 3) := by decide +kernel
theorem dL_alike_208 : decode cL_alike 208 = .ok (.if_icmp .ne 34, 3) := by decide +kernel
theorem dL_alike_211 : decode cL_alike 211 = .ok (.aload_n 0, 1) := by decide +kernel
theorem dL_alike_212 : decode cL_alike 212 = .ok (.iload 4, 2) := by decide +kernel
theorem dL_alike_214 : decode cL_alike 214 = .ok (.iload_n 2, 1) := by decide +kernel
theorem dL_alike_215 : decode cL_alike 215 = .ok (.aload_n 0, 1) := by decide +kernel
theorem dL_alike_216 : decode cL_alike 216 = .ok (.invokevirtual 78, 3) := by decide +kernel
theorem dL_alike_219 : decode cL_alike 219 = .ok (.irem, 1) := by decide +kernel
theorem dL_alike_220 : decode cL_alike 220 = .ok (.invokestatic 135, 3) := by decide +kernel
theorem dL_alike_223 : decode cL_alike 223 = .ok (.aload_n 1, 1) := by decide +kernel
theorem dL_alike_224 : decode cL_alike 224 = .ok (.iload 4, 2) := by decide +kernel
theorem dL_alike_226 : decode cL_alike 226 = .ok (.iload_n 2, 1) := by decide +kernel
theorem dL_alike_227 : decode cL_alike 227 = .ok (.aload_n 0, 1) := by decide +kernel
theorem dL_alike_228 : decode cL_alike 228 = .ok (.invokevirtual 78, 3) := by decide +kernel
theorem dL_alike_231 : decode cL_alike 231 = .ok (.irem, 1) := by decide +kernel
theorem dL_alike_232 : decode cL_alike 232 = .ok (.invokestatic 135, 3) := by decide +kernel
theorem dL_alike_235 : decode cL_alike 235 = .ok (.if_icmp .ne 7, 3) := by decide +kernel
theorem dL_alike_238 : decode cL_alike 238 = .ok (.iconst 1, 1) := by decide +kernel
theorem dL_alike_239 : decode cL_alike 239 = .ok (.goto 4, 3) := by decide +kernel
theorem dL_alike_242 : decode cL_alike 242 = .ok (.iconst 0, 1) := by decide +kernel
theorem dL_alike_243 : decode cL_alike 243 = .ok (.istore_n 3, 1) := by decide +kernel
theorem dL_alike_244 : decode cL_alike 244 = .ok (.iinc 4 1, 3) := by decide +kernel
theorem dL_alike_247 : decode cL_alike 247 = .ok (.goto (-79), 3) := by decide +kernel
theorem dL_alike_250 : decode cL_alike 250 = .ok (.iconst 0, 1) := by decide +kernel
theorem dL_alike_251 : decode cL_alike 251 = .ok (.istore 4, 2) := by decide +kernel
theorem dL_alike_253 : decode cL_alike 253 = .ok (.iload 4, 2) := by decide +kernel
theorem dL_alike_255 : decode cL_alike 255 = .ok (.aload_n 0, 1) := by decide +kernel
theorem dL_alike_256 : decode cL_alike 256 = .ok (.invokevirtual 85, 3) := by decide +kernel
theorem dL_alike_259 : decode cL_alike 259 = .ok (.if_icmp .ge 46, 3) := by decide +kernel
theorem dL_alike_262 : decode cL_alike 262 = .ok (.iload_n 3, 1) := by decide +kernel
theorem dL_alike_263 : decode cL_alike 263 = .ok (.ifCond .eq 42, 3) := by decide +kernel
theorem dL_alike_266 : decode cL_alike 266 = .ok (.aload_n 0, 1) := by decide +kernel
theorem dL_alike_267 : decode cL_alike 267 = .ok (.iload_n 2, 1) := by decide +kernel
theorem dL_alike_268 : decode cL_alike 268 = .ok (.aload_n 0, 1) := by decide +kernel
theorem dL_alike_269 : decode cL_alike 269 = .ok (.invokevirtual 82, 3) := by decide +kernel
theorem dL_alike_272 : decode cL_alike 272 = .ok (.irem, 1) := by decide +kernel
theorem dL_alike_273 : decode cL_alike 273 = .ok (.iload 4, 2) := by decide +kernel
theorem dL_alike_275 : decode cL_alike 275 = .ok (.invokestatic 147, 3) := by decide +kernel
theorem dL_alike_278 : decode cL_alike 278 = .ok (.aload_n 1, 1) := by decide +kernel
theorem dL_alike_279 : decode cL_alike 279 = .ok (.iload_n 2, 1) := by decide +kernel
theorem dL_alike_280 : decode cL_alike 280 = .ok (.aload_n 0, 1) := by decide +kernel
theorem dL_alike_281 : decode cL_alike 281 = .ok (.invokevirtual 82, 3) := by decide +kernel
theorem dL_alike_284 : decode cL_alike 284 = .ok (.irem, 1) := by decide +kernel
theorem dL_alike_285 : decode cL_alike 285 = .ok (.iload 4, 2) := by decide +kernel
theorem dL_alike_287 : decode cL_alike 287 = .ok (.invokestatic 147, 3) := by decide +kernel
theorem dL_alike_290 : decode cL_alike 290 = .ok (.if_icmp .ne 7, 3) := by decide +kernel
theorem dL_alike_293 : decode cL_alike 293 = .ok (.iconst 1, 1) := by decide +kernel
theorem dL_alike_294 : decode cL_alike 294 = .ok (.goto 4, 3) := by decide +kernel
theorem dL_alike_297 : decode cL_alike 297 = .ok (.iconst 0, 1) := by decide +kernel
theorem dL_alike_298 : decode cL_alike 298 = .ok (.istore_n 3, 1) := by decide +kernel
theorem dL_alike_299 : decode cL_alike 299 = .ok (.iinc 4 1, 3) := by decide +kernel
theorem dL_alike_302 : decode cL_alike 302 = .ok (.goto (-49), 3) := by decide +kernel
theorem dL_alike_305 : decode cL_alike 305 = .ok (.iload_n 3, 1) := by decide +kernel
theorem dL_alike_306 : decode cL_alike 306 = .ok (.ireturn, 1) := by decide +kernel
theorem dL_holds_0 : decode cL_holds 0 = .ok (.iconst 1, 1) := by decide +kernel
theorem dL_holds_1 : decode cL_holds 1 = .ok (.istore_n 2, 1) := by decide +kernel
theorem dL_holds_2 : decode cL_holds 2 = .ok (.iconst 0, 1) := by decide +kernel
theorem dL_holds_3 : decode cL_holds 3 = .ok (.istore_n 3, 1) := by decide +kernel
theorem dL_holds_4 : decode cL_holds 4 = .ok (.iload_n 3, 1) := by decide +kernel
theorem dL_holds_5 : decode cL_holds 5 = .ok (.aload_n 0, 1) := by decide +kernel
theorem dL_holds_6 : decode cL_holds 6 = .ok (.invokevirtual 78, 3) := by decide +kernel
theorem dL_holds_9 : decode cL_holds 9 = .ok (.if_icmp .ge 215, 3) := by decide +kernel
theorem dL_holds_12 : decode cL_holds 12 = .ok (.iload_n 2, 1) := by decide +kernel
theorem dL_holds_13 : decode cL_holds 13 = .ok (.ifCond .eq 211, 3) := by decide +kernel
theorem dL_holds_16 : decode cL_holds 16 = .ok (.iconst 0, 1) := by decide +kernel
theorem dL_holds_17 : decode cL_holds 17 = .ok (.istore 4, 2) := by decide +kernel
theorem dL_holds_19 : decode cL_holds 19 = .ok (.iload 4, 2) := by decide +kernel
theorem dL_holds_21 : decode cL_holds 21 = .ok (.bipush 12, 2) := by decide +kernel
theorem dL_holds_23 : decode cL_holds 23 = .ok (.if_icmp .ge 143, 3) := by decide +kernel
theorem dL_holds_26 : decode cL_holds 26 = .ok (.iload_n 2, 1) := by decide +kernel
theorem dL_holds_27 : decode cL_holds 27 = .ok (.ifCond .eq 139, 3) := by decide +kernel
theorem dL_holds_30 : decode cL_holds 30 = .ok (.iload 4, 2) := by decide +kernel
theorem dL_holds_32 : decode cL_holds 32 = .ok (.bipush 8, 2) := by decide +kernel
theorem dL_holds_34 : decode cL_holds 34 = .ok (.if_icmp .ge 8, 3) := by decide +kernel
theorem dL_holds_37 : decode cL_holds 37 = .ok (.iload 4, 2) := by decide +kernel
theorem dL_holds_39 : decode cL_holds 39 = .ok (.goto 13, 3) := by decide +kernel
theorem dL_holds_42 : decode cL_holds 42 = .ok (.iload_n 1, 1) := by decide +kernel
theorem dL_holds_43 : decode cL_holds 43 = .ok (.iconst 1, 1) := by decide +kernel
theorem dL_holds_44 : decode cL_holds 44 = .ok (.iload 4, 2) := by decide +kernel
theorem dL_holds_46 : decode cL_holds 46 = .ok (.iadd, 1) := by decide +kernel
theorem dL_holds_47 : decode cL_holds 47 = .ok (.idiv, 1) := by decide +kernel
theorem dL_holds_48 : decode cL_holds 48 = .ok (.sipush 999, 3) := by decide +kernel
theorem dL_holds_51 : decode cL_holds 51 = .ok (.irem, 1) := by decide +kernel
theorem dL_holds_52 : decode cL_holds 52 = .ok (.istore 5, 2) := by decide +kernel
theorem dL_holds_54 : decode cL_holds 54 = .ok (.aload_n 0, 1) := by decide +kernel
theorem dL_holds_55 : decode cL_holds 55 = .ok (.iload_n 3, 1) := by decide +kernel
theorem dL_holds_56 : decode cL_holds 56 = .ok (.iload 5, 2) := by decide +kernel
theorem dL_holds_58 : decode cL_holds 58 = .ok (.invokestatic 108, 3) := by decide +kernel
theorem dL_holds_61 : decode cL_holds 61 = .ok (.istore 6, 2) := by decide +kernel
theorem dL_holds_63 : decode cL_holds 63 = .ok (.aload_n 0, 1) := by decide +kernel
theorem dL_holds_64 : decode cL_holds 64 = .ok (.iload_n 3, 1) := by decide +kernel
theorem dL_holds_65 : decode cL_holds 65 = .ok (.iload 5, 2) := by decide +kernel
theorem dL_holds_67 : decode cL_holds 67 = .ok (.invokestatic 111, 3) := by decide +kernel
theorem dL_holds_70 : decode cL_holds 70 = .ok (.istore 7, 2) := by decide +kernel
theorem dL_holds_72 : decode cL_holds 72 = .ok (.iload 6, 2) := by decide +kernel
theorem dL_holds_74 : decode cL_holds 74 = .ok (.iconst (-1), 1) := by decide +kernel
theorem dL_holds_75 : decode cL_holds 75 = .ok (.if_icmp .lt 83, 3) := by decide +kernel
theorem dL_holds_78 : decode cL_holds 78 = .ok (.iload 6, 2) := by decide +kernel
theorem dL_holds_80 : decode cL_holds 80 = .ok (.sipush 998, 3) := by decide +kernel
theorem dL_holds_83 : decode cL_holds 83 = .ok (.if_icmp .gt 75, 3) := by decide +kernel
theorem dL_holds_86 : decode cL_holds 86 = .ok (.iload 6, 2) := by decide +kernel
theorem dL_holds_88 : decode cL_holds 88 = .ok (.ifCond .lt 15, 3) := by decide +kernel
theorem dL_holds_91 : decode cL_holds 91 = .ok (.aload_n 0, 1) := by decide +kernel
theorem dL_holds_92 : decode cL_holds 92 = .ok (.iload_n 3, 1) := by decide +kernel
theorem dL_holds_93 : decode cL_holds 93 = .ok (.iload 6, 2) := by decide +kernel
theorem dL_holds_95 : decode cL_holds 95 = .ok (.invokestatic 111, 3) := by decide +kernel
theorem dL_holds_98 : decode cL_holds 98 = .ok (.iload 5, 2) := by decide +kernel
theorem dL_holds_100 : decode cL_holds 100 = .ok (.if_icmp .ne 58, 3) := by decide +kernel
theorem dL_holds_103 : decode cL_holds 103 = .ok (.iload 7, 2) := by decide +kernel
theorem dL_holds_105 : decode cL_holds 105 = .ok (.ifCond .lt 53, 3) := by decide +kernel
theorem dL_holds_108 : decode cL_holds 108 = .ok (.iload 7, 2) := by decide +kernel
theorem dL_holds_110 : decode cL_holds 110 = .ok (.sipush 999, 3) := by decide +kernel
theorem dL_holds_113 : decode cL_holds 113 = .ok (.if_icmp .gt 45, 3) := by decide +kernel
theorem dL_holds_116 : decode cL_holds 116 = .ok (.iload 7, 2) := by decide +kernel
theorem dL_holds_118 : decode cL_holds 118 = .ok (.sipush 999, 3) := by decide +kernel
theorem dL_holds_121 : decode cL_holds 121 = .ok (.if_icmp .eq 15, 3) := by decide +kernel
theorem dL_holds_124 : decode cL_holds 124 = .ok (.aload_n 0, 1) := by decide +kernel
theorem dL_holds_125 : decode cL_holds 125 = .ok (.iload_n 3, 1) := by decide +kernel
theorem dL_holds_126 : decode cL_holds 126 = .ok (.iload 7, 2) := by decide +kernel
theorem dL_holds_128 : decode cL_holds 128 = .ok (.invokestatic 108, 3) := by decide +kernel
theorem dL_holds_131 : decode cL_holds 131 = .ok (.iload 5, 2) := by decide +kernel
theorem dL_holds_133 : decode cL_holds 133 = .ok (.if_icmp .ne 25, 3) := by decide +kernel
theorem dL_holds_136 : decode cL_holds 136 = .ok (.iload_n 3, 1) := by decide +kernel
theorem dL_holds_137 : decode cL_holds 137 = .ok (.ifCond .gt 17, 3) := by decide +kernel
theorem dL_holds_140 : decode cL_holds 140 = .ok (.iload 6, 2) := by decide +kernel
theorem dL_holds_142 : decode cL_holds 142 = .ok (.iload 5, 2) := by decide +kernel
theorem dL_holds_144 : decode cL_holds 144 = .ok (.if_icmp .ne 14, 3) := by decide +kernel
theorem dL_holds_147 : decode cL_holds 147 = .ok (.iload 7, 2) := by decide +kernel
theorem dL_holds_149 : decode cL_holds 149 = .ok (.iload 5, 2) := by decide +kernel
theorem dL_holds_151 : decode cL_holds 151 = .ok (.if_icmp .ne 7, 3) := by decide +kernel
theorem dL_holds_154 : decode cL_holds 154 = .ok (.iconst 1, 1) := by decide +kernel
theorem dL_holds_155 : decode cL_holds 155 = .ok (.goto 4, 3) := by decide +kernel
theorem dL_holds_158 : decode cL_holds 158 = .ok (.iconst 0, 1) := by decide +kernel
theorem dL_holds_159 : decode cL_holds 159 = .ok (.istore_n 2, 1) := by decide +kernel
theorem dL_holds_160 : decode cL_holds 160 = .ok (.iinc 4 1, 3) := by decide +kernel
theorem dL_holds_163 : decode cL_holds 163 = .ok (.goto (-144), 3) := by decide +kernel
theorem dL_holds_166 : decode cL_holds 166 = .ok (.iload_n 2, 1) := by decide +kernel
theorem dL_holds_167 : decode cL_holds 167 = .ok (.ifCond .eq 49, 3) := by decide +kernel
theorem dL_holds_170 : decode cL_holds 170 = .ok (.aload_n 0, 1) := by decide +kernel
theorem dL_holds_171 : decode cL_holds 171 = .ok (.iload_n 3, 1) := by decide +kernel
theorem dL_holds_172 : decode cL_holds 172 = .ok (.invokestatic 105, 3) := by decide +kernel
theorem dL_holds_175 : decode cL_holds 175 = .ok (.iload_n 3, 1) := by decide +kernel
theorem dL_holds_176 : decode cL_holds 176 = .ok (.if_icmp .ge 40, 3) := by decide +kernel
theorem dL_holds_179 : decode cL_holds 179 = .ok (.iload_n 3, 1) := by decide +kernel
theorem dL_holds_180 : decode cL_holds 180 = .ok (.ifCond .eq 11, 3) := by decide +kernel
theorem dL_holds_183 : decode cL_holds 183 = .ok (.aload_n 0, 1) := by decide +kernel
theorem dL_holds_184 : decode cL_holds 184 = .ok (.iload_n 3, 1) := by decide +kernel
theorem dL_holds_185 : decode cL_holds 185 = .ok (.invokestatic 105, 3) := by decide +kernel
theorem dL_holds_188 : decode cL_holds 188 = .ok (.ifCond .lt 28, 3) := by decide +kernel
theorem dL_holds_191 : decode cL_holds 191 = .ok (.aload_n 0, 1) := by decide +kernel
theorem dL_holds_192 : decode cL_holds 192 = .ok (.iload_n 3, 1) := by decide +kernel
theorem dL_holds_193 : decode cL_holds 193 = .ok (.iload_n 1, 1) := by decide +kernel
theorem dL_holds_194 : decode cL_holds 194 = .ok (.bipush 14, 2) := by decide +kernel
theorem dL_holds_196 : decode cL_holds 196 = .ok (.irem, 1) := by decide +kernel
theorem dL_holds_197 : decode cL_holds 197 = .ok (.invokestatic 114, 3) := by decide +kernel
theorem dL_holds_200 : decode cL_holds 200 = .ok (.aload_n 0, 1) := by decide +kernel
theorem dL_holds_201 : decode cL_holds 201 = .ok (.iload_n 3, 1) := by decide +kernel
theorem dL_holds_202 : decode cL_holds 202 = .ok (.iload_n 1, 1) := by decide +kernel
theorem dL_holds_203 : decode cL_holds 203 = .ok (.bipush 14, 2) := by decide +kernel
theorem dL_holds_205 : decode cL_holds 205 = .ok (.irem, 1) := by decide +kernel
theorem dL_holds_206 : decode cL_holds 206 = .ok (.invokestatic 111, 3) := by decide +kernel
theorem dL_holds_209 : decode cL_holds 209 = .ok (.if_icmp .ne 7, 3) := by decide +kernel
theorem dL_holds_212 : decode cL_holds 212 = .ok (.iconst 1, 1) := by decide +kernel
theorem dL_holds_213 : decode cL_holds 213 = .ok (.goto 4, 3) := by decide +kernel
theorem dL_holds_216 : decode cL_holds 216 = .ok (.iconst 0, 1) := by decide +kernel
theorem dL_holds_217 : decode cL_holds 217 = .ok (.istore_n 2, 1) := by decide +kernel
theorem dL_holds_218 : decode cL_holds 218 = .ok (.iinc 3 1, 3) := by decide +kernel
theorem dL_holds_221 : decode cL_holds 221 = .ok (.goto (-217), 3) := by decide +kernel
theorem dL_holds_224 : decode cL_holds 224 = .ok (.iconst 0, 1) := by decide +kernel
theorem dL_holds_225 : decode cL_holds 225 = .ok (.istore_n 3, 1) := by decide +kernel
theorem dL_holds_226 : decode cL_holds 226 = .ok (.iload_n 3, 1) := by decide +kernel
theorem dL_holds_227 : decode cL_holds 227 = .ok (.aload_n 0, 1) := by decide +kernel
theorem dL_holds_228 : decode cL_holds 228 = .ok (.invokevirtual 82, 3) := by decide +kernel
theorem dL_holds_231 : decode cL_holds 231 = .ok (.if_icmp .ge 179, 3) := by decide +kernel
theorem dL_holds_234 : decode cL_holds 234 = .ok (.iload_n 2, 1) := by decide +kernel
theorem dL_holds_235 : decode cL_holds 235 = .ok (.ifCond .eq 175, 3) := by decide +kernel
theorem dL_holds_238 : decode cL_holds 238 = .ok (.aload_n 0, 1) := by decide +kernel
theorem dL_holds_239 : decode cL_holds 239 = .ok (.iload_n 3, 1) := by decide +kernel
theorem dL_holds_240 : decode cL_holds 240 = .ok (.invokestatic 129, 3) := by decide +kernel
theorem dL_holds_243 : decode cL_holds 243 = .ok (.istore 4, 2) := by decide +kernel
theorem dL_holds_245 : decode cL_holds 245 = .ok (.aload_n 0, 1) := by decide +kernel
theorem dL_holds_246 : decode cL_holds 246 = .ok (.iload_n 3, 1) := by decide +kernel
theorem dL_holds_247 : decode cL_holds 247 = .ok (.iload 4, 2) := by decide +kernel
theorem dL_holds_249 : decode cL_holds 249 = .ok (.invokestatic 135, 3) := by decide +kernel
theorem dL_holds_252 : decode cL_holds 252 = .ok (.istore 5, 2) := by decide +kernel
theorem dL_holds_254 : decode cL_holds 254 = .ok (.iload 4, 2) := by decide +kernel
theorem dL_holds_256 : decode cL_holds 256 = .ok (.ifCond .lt 47, 3) := by decide +kernel
theorem dL_holds_259 : decode cL_holds 259 = .ok (.iload 4, 2) := by decide +kernel
theorem dL_holds_261 : decode cL_holds 261 = .ok (.aload_n 0, 1) := by decide +kernel
theorem dL_holds_262 : decode cL_holds 262 = .ok (.invokevirtual 78, 3) := by decide +kernel
theorem dL_holds_265 : decode cL_holds 265 = .ok (.if_icmp .ge 38, 3) := by decide +kernel
theorem dL_holds_268 : decode cL_holds 268 = .ok (.iload 5, 2) := by decide +kernel
theorem dL_holds_270 : decode cL_holds 270 = .ok (.ifCond .lt 33, 3) := by decide +kernel
theorem dL_holds_273 : decode cL_holds 273 = .ok (.iload 5, 2) := by decide +kernel
theorem dL_holds_275 : decode cL_holds 275 = .ok (.bipush 15, 2) := by decide +kernel
theorem dL_holds_277 : decode cL_holds 277 = .ok (.if_icmp .gt 26, 3) := by decide +kernel
theorem dL_holds_280 : decode cL_holds 280 = .ok (.aload_n 0, 1) := by decide +kernel
theorem dL_holds_281 : decode cL_holds 281 = .ok (.iload_n 3, 1) := by decide +kernel
theorem dL_holds_282 : decode cL_holds 282 = .ok (.invokestatic 132, 3) := by decide +kernel
theorem dL_holds_285 : decode cL_holds 285 = .ok (.ifCond .lt 18, 3) := by decide +kernel
theorem dL_holds_288 : decode cL_holds 288 = .ok (.aload_n 0, 1) := by decide +kernel
theorem dL_holds_289 : decode cL_holds 289 = .ok (.iload_n 3, 1) := by decide +kernel
theorem dL_holds_290 : decode cL_holds 290 = .ok (.invokestatic 132, 3) := by decide +kernel
theorem dL_holds_293 : decode cL_holds 293 = .ok (.sipush 998, 3) := by decide +kernel
theorem dL_holds_296 : decode cL_holds 296 = .ok (.if_icmp .gt 7, 3) := by decide +kernel
theorem dL_holds_299 : decode cL_holds 299 = .ok (.iconst 1, 1) := by decide +kernel
theorem dL_holds_300 : decode cL_holds 300 = .ok (.goto 4, 3) := by decide +kernel
theorem dL_holds_303 : decode cL_holds 303 = .ok (.iconst 0, 1) := by decide +kernel
theorem dL_holds_304 : decode cL_holds 304 = .ok (.istore_n 2, 1) := by decide +kernel
theorem dL_holds_305 : decode cL_holds 305 = .ok (.iconst 0, 1) := by decide +kernel
theorem dL_holds_306 : decode cL_holds 306 = .ok (.istore 6, 2) := by decide +kernel
theorem dL_holds_308 : decode cL_holds 308 = .ok (.iload 6, 2) := by decide +kernel
theorem dL_holds_310 : decode cL_holds 310 = .ok (.aload_n 0, 1) := by decide +kernel
theorem dL_holds_311 : decode cL_holds 311 = .ok (.invokevirtual 78, 3) := by decide +kernel
theorem dL_holds_314 : decode cL_holds 314 = .ok (.if_icmp .ge 90, 3) := by decide +kernel
theorem dL_holds_317 : decode cL_holds 317 = .ok (.iload_n 2, 1) := by decide +kernel
theorem dL_holds_318 : decode cL_holds 318 = .ok (.ifCond .eq 86, 3) := by decide +kernel
theorem dL_holds_321 : decode cL_holds 321 = .ok (.aload_n 0, 1) := by decide +kernel
theorem dL_holds_322 : decode cL_holds 322 = .ok (.iload_n 3, 1) := by decide +kernel
theorem dL_holds_323 : decode cL_holds 323 = .ok (.iload 6, 2) := by decide +kernel
theorem dL_holds_325 : decode cL_holds 325 = .ok (.invokestatic 135, 3) := by decide +kernel
theorem dL_holds_328 : decode cL_holds 328 = .ok (.istore 7, 2) := by decide +kernel
theorem dL_holds_330 : decode cL_holds 330 = .ok (.aload_n 0, 1) := by decide +kernel
theorem dL_holds_331 : decode cL_holds 331 = .ok (.iload 6, 2) := by decide +kernel
theorem dL_holds_333 : decode cL_holds 333 = .ok (.invokestatic 105, 3) := by decide +kernel
theorem dL_holds_336 : decode cL_holds 336 = .ok (.istore 8, 2) := by decide +kernel
theorem dL_holds_338 : decode cL_holds 338 = .ok (.iload 7, 2) := by decide +kernel
theorem dL_holds_340 : decode cL_holds 340 = .ok (.ifCond .eq 17, 3) := by decide +kernel
theorem dL_holds_343 : decode cL_holds 343 = .ok (.iload 7, 2) := by decide +kernel
theorem dL_holds_345 : decode cL_holds 345 = .ok (.iload 5, 2) := by decide +kernel
theorem dL_holds_347 : decode cL_holds 347 = .ok (.if_icmp .eq 10, 3) := by decide +kernel
theorem dL_holds_350 : decode cL_holds 350 = .ok (.iload 7, 2) := by decide +kernel
theorem dL_holds_352 : decode cL_holds 352 = .ok (.bipush 15, 2) := by decide +kernel
theorem dL_holds_354 : decode cL_holds 354 = .ok (.if_icmp .ne 42, 3) := by decide +kernel
theorem dL_holds_357 : decode cL_holds 357 = .ok (.iload 6, 2) := by decide +kernel
theorem dL_holds_359 : decode cL_holds 359 = .ok (.ifCond .eq 33, 3) := by decide +kernel
theorem dL_holds_362 : decode cL_holds 362 = .ok (.aload_n 0, 1) := by decide +kernel
theorem dL_holds_363 : decode cL_holds 363 = .ok (.iload_n 3, 1) := by decide +kernel
theorem dL_holds_364 : decode cL_holds 364 = .ok (.iload 8, 2) := by decide +kernel
theorem dL_holds_366 : decode cL_holds 366 = .ok (.invokestatic 135, 3) := by decide +kernel
theorem dL_holds_369 : decode cL_holds 369 = .ok (.ifCond .eq 23, 3) := by decide +kernel
theorem dL_holds_372 : decode cL_holds 372 = .ok (.iload 7, 2) := by decide +kernel
theorem dL_holds_374 : decode cL_holds 374 = .ok (.aload_n 0, 1) := by decide +kernel
theorem dL_holds_375 : decode cL_holds 375 = .ok (.iload_n 3, 1) := by decide +kernel
theorem dL_holds_376 : decode cL_holds 376 = .ok (.iload 8, 2) := by decide +kernel
theorem dL_holds_378 : decode cL_holds 378 = .ok (.invokestatic 135, 3) := by decide +kernel
theorem dL_holds_381 : decode cL_holds 381 = .ok (.iand, 1) := by decide +kernel
theorem dL_holds_382 : decode cL_holds 382 = .ok (.aload_n 0, 1) := by decide +kernel
theorem dL_holds_383 : decode cL_holds 383 = .ok (.iload_n 3, 1) := by decide +kernel
theorem dL_holds_384 : decode cL_holds 384 = .ok (.iload 8, 2) := by decide +kernel
theorem dL_holds_386 : decode cL_holds 386 = .ok (.invokestatic 135, 3) := by decide +kernel
theorem dL_holds_389 : decode cL_holds 389 = .ok (.if_icmp .ne 7, 3) := by decide +kernel
theorem dL_holds_392 : decode cL_holds 392 = .ok (.iconst 1, 1) := by decide +kernel
theorem dL_holds_393 : decode cL_holds 393 = .ok (.goto 4, 3) := by decide +kernel
theorem dL_holds_396 : decode cL_holds 396 = .ok (.iconst 0, 1) := by decide +kernel
theorem dL_holds_397 : decode cL_holds 397 = .ok (.istore_n 2, 1) := by decide +kernel
theorem dL_holds_398 : decode cL_holds 398 = .ok (.iinc 6 1, 3) := by decide +kernel
theorem dL_holds_401 : decode cL_holds 401 = .ok (.goto (-93), 3) := by decide +kernel
theorem dL_holds_404 : decode cL_holds 404 = .ok (.iinc 3 1, 3) := by decide +kernel
theorem dL_holds_407 : decode cL_holds 407 = .ok (.goto (-181), 3) := by decide +kernel
theorem dL_holds_410 : decode cL_holds 410 = .ok (.iload_n 2, 1) := by decide +kernel
theorem dL_holds_411 : decode cL_holds 411 = .ok (.ireturn, 1) := by decide +kernel
theorem dL_ends_0 : decode cL_ends 0 = .ok (.iload_n 1, 1) := by decide +kernel
theorem dL_ends_1 : decode cL_ends 1 = .ok (.aload_n 0, 1) := by decide +kernel
theorem dL_ends_2 : decode cL_ends 2 = .ok (.invokevirtual 82, 3) := by decide +kernel
theorem dL_ends_5 : decode cL_ends 5 = .ok (.irem, 1) := by decide +kernel
theorem dL_ends_6 : decode cL_ends 6 = .ok (.istore_n 2, 1) := by decide +kernel
theorem dL_ends_7 : decode cL_ends 7 = .ok (.aload_n 0, 1) := by decide +kernel
theorem dL_ends_8 : decode cL_ends 8 = .ok (.iload_n 2, 1) := by decide +kernel
theorem dL_ends_9 : decode cL_ends 9 = .ok (.invokestatic 129, 3) := by decide +kernel
theorem dL_ends_12 : decode cL_ends 12 = .ok (.istore_n 3, 1) := by decide +kernel
theorem dL_ends_13 : decode cL_ends 13 = .ok (.aload_n 0, 1) := by decide +kernel
theorem dL_ends_14 : decode cL_ends 14 = .ok (.iload_n 2, 1) := by decide +kernel
theorem dL_ends_15 : decode cL_ends 15 = .ok (.iload_n 3, 1) := by decide +kernel
theorem dL_ends_16 : decode cL_ends 16 = .ok (.invokestatic 135, 3) := by decide +kernel
theorem dL_ends_19 : decode cL_ends 19 = .ok (.istore 4, 2) := by decide +kernel
theorem dL_ends_21 : decode cL_ends 21 = .ok (.aload_n 0, 1) := by decide +kernel
theorem dL_ends_22 : decode cL_ends 22 = .ok (.iload_n 2, 1) := by decide +kernel
theorem dL_ends_23 : decode cL_ends 23 = .ok (.invokestatic 132, 3) := by decide +kernel
theorem dL_ends_26 : decode cL_ends 26 = .ok (.istore 5, 2) := by decide +kernel
theorem dL_ends_28 : decode cL_ends 28 = .ok (.iconst 1, 1) := by decide +kernel
theorem dL_ends_29 : decode cL_ends 29 = .ok (.istore 6, 2) := by decide +kernel
theorem dL_ends_31 : decode cL_ends 31 = .ok (.aload_n 0, 1) := by decide +kernel
theorem dL_ends_32 : decode cL_ends 32 = .ok (.invokevirtual 82, 3) := by decide +kernel
theorem dL_ends_35 : decode cL_ends 35 = .ok (.bipush 12, 2) := by decide +kernel
theorem dL_ends_37 : decode cL_ends 37 = .ok (.if_icmp .ge 102, 3) := by decide +kernel
theorem dL_ends_40 : decode cL_ends 40 = .ok (.aload_n 0, 1) := by decide +kernel
theorem dL_ends_41 : decode cL_ends 41 = .ok (.iload_n 2, 1) := by decide +kernel
theorem dL_ends_42 : decode cL_ends 42 = .ok (.invokestatic 117, 3) := by decide +kernel
theorem dL_ends_45 : decode cL_ends 45 = .ok (.istore 7, 2) := by decide +kernel
theorem dL_ends_47 : decode cL_ends 47 = .ok (.iload 7, 2) := by decide +kernel
theorem dL_ends_49 : decode cL_ends 49 = .ok (.aload_n 0, 1) := by decide +kernel
theorem dL_ends_50 : decode cL_ends 50 = .ok (.invokevirtual 82, 3) := by decide +kernel
theorem dL_ends_53 : decode cL_ends 53 = .ok (.iconst 1, 1) := by decide +kernel
theorem dL_ends_54 : decode cL_ends 54 = .ok (.isub, 1) := by decide +kernel
theorem dL_ends_55 : decode cL_ends 55 = .ok (.if_icmp .ne 81, 3) := by decide +kernel
theorem dL_ends_58 : decode cL_ends 58 = .ok (.aload_n 0, 1) := by decide +kernel
theorem dL_ends_59 : decode cL_ends 59 = .ok (.iload 7, 2) := by decide +kernel
theorem dL_ends_61 : decode cL_ends 61 = .ok (.invokestatic 129, 3) := by decide +kernel
theorem dL_ends_64 : decode cL_ends 64 = .ok (.iload_n 3, 1) := by decide +kernel
theorem dL_ends_65 : decode cL_ends 65 = .ok (.if_icmp .ne 71, 3) := by decide +kernel
theorem dL_ends_68 : decode cL_ends 68 = .ok (.aload_n 0, 1) := by decide +kernel
theorem dL_ends_69 : decode cL_ends 69 = .ok (.iload 7, 2) := by decide +kernel
theorem dL_ends_71 : decode cL_ends 71 = .ok (.invokestatic 132, 3) := by decide +kernel
theorem dL_ends_74 : decode cL_ends 74 = .ok (.iload 5, 2) := by decide +kernel
theorem dL_ends_76 : decode cL_ends 76 = .ok (.if_icmp .ne 60, 3) := by decide +kernel
theorem dL_ends_79 : decode cL_ends 79 = .ok (.aload_n 0, 1) := by decide +kernel
theorem dL_ends_80 : decode cL_ends 80 = .ok (.iload 7, 2) := by decide +kernel
theorem dL_ends_82 : decode cL_ends 82 = .ok (.iload_n 3, 1) := by decide +kernel
theorem dL_ends_83 : decode cL_ends 83 = .ok (.invokestatic 135, 3) := by decide +kernel
theorem dL_ends_86 : decode cL_ends 86 = .ok (.iload 4, 2) := by decide +kernel
theorem dL_ends_88 : decode cL_ends 88 = .ok (.if_icmp .ne 48, 3) := by decide +kernel
theorem dL_ends_91 : decode cL_ends 91 = .ok (.aload_n 0, 1) := by decide +kernel
theorem dL_ends_92 : decode cL_ends 92 = .ok (.iload 7, 2) := by decide +kernel
theorem dL_ends_94 : decode cL_ends 94 = .ok (.iconst 5, 1) := by decide +kernel
theorem dL_ends_95 : decode cL_ends 95 = .ok (.invokestatic 120, 3) := by decide +kernel
theorem dL_ends_98 : decode cL_ends 98 = .ok (.iload 4, 2) := by decide +kernel
theorem dL_ends_100 : decode cL_ends 100 = .ok (.bipush 10, 2) := by decide +kernel
theorem dL_ends_102 : decode cL_ends 102 = .ok (.iand, 1) := by decide +kernel
theorem dL_ends_103 : decode cL_ends 103 = .ok (.if_icmp .ne 33, 3) := by decide +kernel
theorem dL_ends_106 : decode cL_ends 106 = .ok (.aload_n 0, 1) := by decide +kernel
theorem dL_ends_107 : decode cL_ends 107 = .ok (.iload 7, 2) := by decide +kernel
theorem dL_ends_109 : decode cL_ends 109 = .ok (.iload_n 3, 1) := by decide +kernel
theorem dL_ends_110 : decode cL_ends 110 = .ok (.invokestatic 135, 3) := by decide +kernel
theorem dL_ends_113 : decode cL_ends 113 = .ok (.iload 4, 2) := by decide +kernel
theorem dL_ends_115 : decode cL_ends 115 = .ok (.bipush 10, 2) := by decide +kernel
theorem dL_ends_117 : decode cL_ends 117 = .ok (.iand, 1) := by decide +kernel
theorem dL_ends_118 : decode cL_ends 118 = .ok (.if_icmp .ne 18, 3) := by decide +kernel
theorem dL_ends_121 : decode cL_ends 121 = .ok (.aload_n 0, 1) := by decide +kernel
theorem dL_ends_122 : decode cL_ends 122 = .ok (.iload_n 2, 1) := by decide +kernel
theorem dL_ends_123 : decode cL_ends 123 = .ok (.iload_n 3, 1) := by decide +kernel
theorem dL_ends_124 : decode cL_ends 124 = .ok (.invokestatic 135, 3) := by decide +kernel
theorem dL_ends_127 : decode cL_ends 127 = .ok (.iload 4, 2) := by decide +kernel
theorem dL_ends_129 : decode cL_ends 129 = .ok (.if_icmp .ne 7, 3) := by decide +kernel
theorem dL_ends_132 : decode cL_ends 132 = .ok (.iconst 1, 1) := by decide +kernel
theorem dL_ends_133 : decode cL_ends 133 = .ok (.goto 4, 3) := by decide +kernel
theorem dL_ends_136 : decode cL_ends 136 = .ok (.iconst 0, 1) := by decide +kernel
theorem dL_ends_137 : decode cL_ends 137 = .ok (.istore 6, 2) := by decide +kernel
theorem dL_ends_139 : decode cL_ends 139 = .ok (.iload 6, 2) := by decide +kernel
theorem dL_ends_141 : decode cL_ends 141 = .ok (.ifCond .eq 416, 3) := by decide +kernel
theorem dL_ends_144 : decode cL_ends 144 = .ok (.aload_n 0, 1) := by decide +kernel
theorem dL_ends_145 : decode cL_ends 145 = .ok (.invokevirtual 78, 3) := by decide +kernel
theorem dL_ends_148 : decode cL_ends 148 = .ok (.bipush 10, 2) := by decide +kernel
theorem dL_ends_150 : decode cL_ends 150 = .ok (.if_icmp .ge 407, 3) := by decide +kernel
theorem dL_ends_153 : decode cL_ends 153 = .ok (.aload_n 0, 1) := by decide +kernel
theorem dL_ends_154 : decode cL_ends 154 = .ok (.iload_n 2, 1) := by decide +kernel
theorem dL_ends_155 : decode cL_ends 155 = .ok (.invokestatic 91, 3) := by decide +kernel
theorem dL_ends_158 : decode cL_ends 158 = .ok (.istore 7, 2) := by decide +kernel
theorem dL_ends_160 : decode cL_ends 160 = .ok (.iload 7, 2) := by decide +kernel
theorem dL_ends_162 : decode cL_ends 162 = .ok (.aload_n 0, 1) := by decide +kernel
theorem dL_ends_163 : decode cL_ends 163 = .ok (.invokevirtual 78, 3) := by decide +kernel
theorem dL_ends_166 : decode cL_ends 166 = .ok (.iconst 1, 1) := by decide +kernel
theorem dL_ends_167 : decode cL_ends 167 = .ok (.isub, 1) := by decide +kernel
theorem dL_ends_168 : decode cL_ends 168 = .ok (.if_icmp .ne 83, 3) := by decide +kernel
theorem dL_ends_171 : decode cL_ends 171 = .ok (.aload_n 0, 1) := by decide +kernel
theorem dL_ends_172 : decode cL_ends 172 = .ok (.iload_n 2, 1) := by decide +kernel
theorem dL_ends_173 : decode cL_ends 173 = .ok (.invokestatic 129, 3) := by decide +kernel
theorem dL_ends_176 : decode cL_ends 176 = .ok (.iload 7, 2) := by decide +kernel
theorem dL_ends_178 : decode cL_ends 178 = .ok (.if_icmp .ne 73, 3) := by decide +kernel
theorem dL_ends_181 : decode cL_ends 181 = .ok (.aload_n 0, 1) := by decide +kernel
theorem dL_ends_182 : decode cL_ends 182 = .ok (.iload 7, 2) := by decide +kernel
theorem dL_ends_184 : decode cL_ends 184 = .ok (.invokestatic 105, 3) := by decide +kernel
theorem dL_ends_187 : decode cL_ends 187 = .ok (.iload_n 3, 1) := by decide +kernel
theorem dL_ends_188 : decode cL_ends 188 = .ok (.if_icmp .ne 63, 3) := by decide +kernel
theorem dL_ends_191 : decode cL_ends 191 = .ok (.aload_n 0, 1) := by decide +kernel
theorem dL_ends_192 : decode cL_ends 192 = .ok (.iload_n 2, 1) := by decide +kernel
theorem dL_ends_193 : decode cL_ends 193 = .ok (.invokestatic 132, 3) := by decide +kernel
theorem dL_ends_196 : decode cL_ends 196 = .ok (.iload 5, 2) := by decide +kernel
theorem dL_ends_198 : decode cL_ends 198 = .ok (.if_icmp .ne 53, 3) := by decide +kernel
theorem dL_ends_201 : decode cL_ends 201 = .ok (.aload_n 0, 1) := by decide +kernel
theorem dL_ends_202 : decode cL_ends 202 = .ok (.iload_n 2, 1) := by decide +kernel
theorem dL_ends_203 : decode cL_ends 203 = .ok (.iload 7, 2) := by decide +kernel
theorem dL_ends_205 : decode cL_ends 205 = .ok (.invokestatic 135, 3) := by decide +kernel
theorem dL_ends_208 : decode cL_ends 208 = .ok (.bipush 15, 2) := by decide +kernel
theorem dL_ends_210 : decode cL_ends 210 = .ok (.if_icmp .ne 41, 3) := by decide +kernel
theorem dL_ends_213 : decode cL_ends 213 = .ok (.aload_n 0, 1) := by decide +kernel
theorem dL_ends_214 : decode cL_ends 214 = .ok (.iload_n 2, 1) := by decide +kernel
theorem dL_ends_215 : decode cL_ends 215 = .ok (.iload_n 3, 1) := by decide +kernel
theorem dL_ends_216 : decode cL_ends 216 = .ok (.invokestatic 135, 3) := by decide +kernel
theorem dL_ends_219 : decode cL_ends 219 = .ok (.ifCond .ne 32, 3) := by decide +kernel
theorem dL_ends_222 : decode cL_ends 222 = .ok (.aload_n 0, 1) := by decide +kernel
theorem dL_ends_223 : decode cL_ends 223 = .ok (.iload 7, 2) := by decide +kernel
theorem dL_ends_225 : decode cL_ends 225 = .ok (.iload 5, 2) := by decide +kernel
theorem dL_ends_227 : decode cL_ends 227 = .ok (.invokestatic 111, 3) := by decide +kernel
theorem dL_ends_230 : decode cL_ends 230 = .ok (.sipush 999, 3) := by decide +kernel
theorem dL_ends_233 : decode cL_ends 233 = .ok (.if_icmp .ne 18, 3) := by decide +kernel
theorem dL_ends_236 : decode cL_ends 236 = .ok (.aload_n 0, 1) := by decide +kernel
theorem dL_ends_237 : decode cL_ends 237 = .ok (.iload 7, 2) := by decide +kernel
theorem dL_ends_239 : decode cL_ends 239 = .ok (.iconst 0, 1) := by decide +kernel
theorem dL_ends_240 : decode cL_ends 240 = .ok (.invokestatic 108, 3) := by decide +kernel
theorem dL_ends_243 : decode cL_ends 243 = .ok (.iconst (-1), 1) := by decide +kernel
theorem dL_ends_244 : decode cL_ends 244 = .ok (.if_icmp .ne 7, 3) := by decide +kernel
theorem dL_ends_247 : decode cL_ends 247 = .ok (.iconst 1, 1) := by decide +kernel
theorem dL_ends_248 : decode cL_ends 248 = .ok (.goto 4, 3) := by decide +kernel
theorem dL_ends_251 : decode cL_ends 251 = .ok (.iconst 0, 1) := by decide +kernel
theorem dL_ends_252 : decode cL_ends 252 = .ok (.istore 6, 2) := by decide +kernel
theorem dL_ends_254 : decode cL_ends 254 = .ok (.aload_n 0, 1) := by decide +kernel
theorem dL_ends_255 : decode cL_ends 255 = .ok (.iload_n 3, 1) := by decide +kernel
theorem dL_ends_256 : decode cL_ends 256 = .ok (.iload 5, 2) := by decide +kernel
theorem dL_ends_258 : decode cL_ends 258 = .ok (.invokestatic 111, 3) := by decide +kernel
theorem dL_ends_261 : decode cL_ends 261 = .ok (.sipush 999, 3) := by decide +kernel
theorem dL_ends_264 : decode cL_ends 264 = .ok (.if_icmp .ge 7, 3) := by decide +kernel
theorem dL_ends_267 : decode cL_ends 267 = .ok (.iconst 1, 1) := by decide +kernel
theorem dL_ends_268 : decode cL_ends 268 = .ok (.goto 4, 3) := by decide +kernel
theorem dL_ends_271 : decode cL_ends 271 = .ok (.iconst 0, 1) := by decide +kernel
theorem dL_ends_272 : decode cL_ends 272 = .ok (.istore 8, 2) := by decide +kernel
theorem dL_ends_274 : decode cL_ends 274 = .ok (.aload_n 0, 1) := by decide +kernel
theorem dL_ends_275 : decode cL_ends 275 = .ok (.iload_n 2, 1) := by decide +kernel
theorem dL_ends_276 : decode cL_ends 276 = .ok (.iload 7, 2) := by decide +kernel
theorem dL_ends_278 : decode cL_ends 278 = .ok (.invokestatic 101, 3) := by decide +kernel
theorem dL_ends_281 : decode cL_ends 281 = .ok (.istore 9, 2) := by decide +kernel
theorem dL_ends_283 : decode cL_ends 283 = .ok (.iload 9, 2) := by decide +kernel
theorem dL_ends_285 : decode cL_ends 285 = .ok (.ifCond .le 34, 3) := by decide +kernel
theorem dL_ends_288 : decode cL_ends 288 = .ok (.iload 6, 2) := by decide +kernel
theorem dL_ends_290 : decode cL_ends 290 = .ok (.ifCond .eq 27, 3) := by decide +kernel
theorem dL_ends_293 : decode cL_ends 293 = .ok (.iload 9, 2) := by decide +kernel
theorem dL_ends_295 : decode cL_ends 295 = .ok (.iconst 1, 1) := by decide +kernel
theorem dL_ends_296 : decode cL_ends 296 = .ok (.if_icmp .ne 21, 3) := by decide +kernel
theorem dL_ends_299 : decode cL_ends 299 = .ok (.aload_n 0, 1) := by decide +kernel
theorem dL_ends_300 : decode cL_ends 300 = .ok (.iload 7, 2) := by decide +kernel
theorem dL_ends_302 : decode cL_ends 302 = .ok (.iload 5, 2) := by decide +kernel
theorem dL_ends_304 : decode cL_ends 304 = .ok (.invokestatic 111, 3) := by decide +kernel
theorem dL_ends_307 : decode cL_ends 307 = .ok (.sipush 999, 3) := by decide +kernel
theorem dL_ends_310 : decode cL_ends 310 = .ok (.if_icmp .ge 7, 3) := by decide +kernel
theorem dL_ends_313 : decode cL_ends 313 = .ok (.iconst 1, 1) := by decide +kernel
theorem dL_ends_314 : decode cL_ends 314 = .ok (.goto 4, 3) := by decide +kernel
theorem dL_ends_317 : decode cL_ends 317 = .ok (.iconst 0, 1) := by decide +kernel
theorem dL_ends_318 : decode cL_ends 318 = .ok (.ireturn, 1) := by decide +kernel
theorem dL_ends_319 : decode cL_ends 319 = .ok (.aload_n 0, 1) := by decide +kernel
theorem dL_ends_320 : decode cL_ends 320 = .ok (.invokevirtual 88, 3) := by decide +kernel
theorem dL_ends_323 : decode cL_ends 323 = .ok (.istore 10, 2) := by decide +kernel
theorem dL_ends_325 : decode cL_ends 325 = .ok (.iload 6, 2) := by decide +kernel
theorem dL_ends_327 : decode cL_ends 327 = .ok (.ifCond .eq 110, 3) := by decide +kernel
theorem dL_ends_330 : decode cL_ends 330 = .ok (.aload_n 0, 1) := by decide +kernel
theorem dL_ends_331 : decode cL_ends 331 = .ok (.iload_n 2, 1) := by decide +kernel
theorem dL_ends_332 : decode cL_ends 332 = .ok (.iload 7, 2) := by decide +kernel
theorem dL_ends_334 : decode cL_ends 334 = .ok (.invokestatic 101, 3) := by decide +kernel
theorem dL_ends_337 : decode cL_ends 337 = .ok (.bipush (-3), 2) := by decide +kernel
theorem dL_ends_339 : decode cL_ends 339 = .ok (.if_icmp .ne 98, 3) := by decide +kernel
theorem dL_ends_342 : decode cL_ends 342 = .ok (.aload_n 0, 1) := by decide +kernel
theorem dL_ends_343 : decode cL_ends 343 = .ok (.invokevirtual 88, 3) := by decide +kernel
theorem dL_ends_346 : decode cL_ends 346 = .ok (.iload 10, 2) := by decide +kernel
theorem dL_ends_348 : decode cL_ends 348 = .ok (.iconst 1, 1) := by decide +kernel
theorem dL_ends_349 : decode cL_ends 349 = .ok (.iadd, 1) := by decide +kernel
theorem dL_ends_350 : decode cL_ends 350 = .ok (.if_icmp .ne 87, 3) := by decide +kernel
theorem dL_ends_353 : decode cL_ends 353 = .ok (.iload 8, 2) := by decide +kernel
theorem dL_ends_355 : decode cL_ends 355 = .ok (.ifCond .eq 78, 3) := by decide +kernel
theorem dL_ends_358 : decode cL_ends 358 = .ok (.aload_n 0, 1) := by decide +kernel
theorem dL_ends_359 : decode cL_ends 359 = .ok (.iconst 3, 1) := by decide +kernel
theorem dL_ends_360 : decode cL_ends 360 = .ok (.aload_n 0, 1) := by decide +kernel
theorem dL_ends_361 : decode cL_ends 361 = .ok (.iload_n 3, 1) := by decide +kernel
theorem dL_ends_362 : decode cL_ends 362 = .ok (.iload 5, 2) := by decide +kernel
theorem dL_ends_364 : decode cL_ends 364 = .ok (.invokestatic 111, 3) := by decide +kernel
theorem dL_ends_367 : decode cL_ends 367 = .ok (.iconst 1, 1) := by decide +kernel
theorem dL_ends_368 : decode cL_ends 368 = .ok (.invokestatic 97, 3) := by decide +kernel
theorem dL_ends_371 : decode cL_ends 371 = .ok (.iconst 1, 1) := by decide +kernel
theorem dL_ends_372 : decode cL_ends 372 = .ok (.if_icmp .ne 65, 3) := by decide +kernel
theorem dL_ends_375 : decode cL_ends 375 = .ok (.aload_n 0, 1) := by decide +kernel
theorem dL_ends_376 : decode cL_ends 376 = .ok (.iload_n 2, 1) := by decide +kernel
theorem dL_ends_377 : decode cL_ends 377 = .ok (.iload 7, 2) := by decide +kernel
theorem dL_ends_379 : decode cL_ends 379 = .ok (.invokestatic 101, 3) := by decide +kernel
theorem dL_ends_382 : decode cL_ends 382 = .ok (.iconst 1, 1) := by decide +kernel
theorem dL_ends_383 : decode cL_ends 383 = .ok (.if_icmp .ne 54, 3) := by decide +kernel
theorem dL_ends_386 : decode cL_ends 386 = .ok (.aload_n 0, 1) := by decide +kernel
theorem dL_ends_387 : decode cL_ends 387 = .ok (.iload 7, 2) := by decide +kernel
theorem dL_ends_389 : decode cL_ends 389 = .ok (.iload 5, 2) := by decide +kernel
theorem dL_ends_391 : decode cL_ends 391 = .ok (.invokestatic 111, 3) := by decide +kernel
theorem dL_ends_394 : decode cL_ends 394 = .ok (.iconst 3, 1) := by decide +kernel
theorem dL_ends_395 : decode cL_ends 395 = .ok (.if_icmp .ne 42, 3) := by decide +kernel
theorem dL_ends_398 : decode cL_ends 398 = .ok (.aload_n 0, 1) := by decide +kernel
theorem dL_ends_399 : decode cL_ends 399 = .ok (.iload 7, 2) := by decide +kernel
theorem dL_ends_401 : decode cL_ends 401 = .ok (.iconst 3, 1) := by decide +kernel
theorem dL_ends_402 : decode cL_ends 402 = .ok (.invokestatic 108, 3) := by decide +kernel
theorem dL_ends_405 : decode cL_ends 405 = .ok (.iload 5, 2) := by decide +kernel
theorem dL_ends_407 : decode cL_ends 407 = .ok (.if_icmp .ne 30, 3) := by decide +kernel
theorem dL_ends_410 : decode cL_ends 410 = .ok (.aload_n 0, 1) := by decide +kernel
theorem dL_ends_411 : decode cL_ends 411 = .ok (.iload_n 2, 1) := by decide +kernel
theorem dL_ends_412 : decode cL_ends 412 = .ok (.iconst 3, 1) := by decide +kernel
theorem dL_ends_413 : decode cL_ends 413 = .ok (.invokestatic 126, 3) := by decide +kernel
theorem dL_ends_416 : decode cL_ends 416 = .ok (.iload 5, 2) := by decide +kernel
theorem dL_ends_418 : decode cL_ends 418 = .ok (.if_icmp .ne 19, 3) := by decide +kernel
theorem dL_ends_421 : decode cL_ends 421 = .ok (.aload_n 0, 1) := by decide +kernel
theorem dL_ends_422 : decode cL_ends 422 = .ok (.iload_n 2, 1) := by decide +kernel
theorem dL_ends_423 : decode cL_ends 423 = .ok (.iload 7, 2) := by decide +kernel
theorem dL_ends_425 : decode cL_ends 425 = .ok (.invokestatic 135, 3) := by decide +kernel
theorem dL_ends_428 : decode cL_ends 428 = .ok (.bipush 15, 2) := by decide +kernel
theorem dL_ends_430 : decode cL_ends 430 = .ok (.if_icmp .ne 7, 3) := by decide +kernel
theorem dL_ends_433 : decode cL_ends 433 = .ok (.iconst 1, 1) := by decide +kernel
theorem dL_ends_434 : decode cL_ends 434 = .ok (.goto 4, 3) := by decide +kernel
theorem dL_ends_437 : decode cL_ends 437 = .ok (.iconst 0, 1) := by decide +kernel
theorem dL_ends_438 : decode cL_ends 438 = .ok (.istore 6, 2) := by decide +kernel
theorem dL_ends_440 : decode cL_ends 440 = .ok (.iload 6, 2) := by decide +kernel
theorem dL_ends_442 : decode cL_ends 442 = .ok (.ifCond .eq 115, 3) := by decide +kernel
theorem dL_ends_445 : decode cL_ends 445 = .ok (.iload 8, 2) := by decide +kernel
theorem dL_ends_447 : decode cL_ends 447 = .ok (.ifCond .eq 110, 3) := by decide +kernel
theorem dL_ends_450 : decode cL_ends 450 = .ok (.aload_n 0, 1) := by decide +kernel
theorem dL_ends_451 : decode cL_ends 451 = .ok (.invokevirtual 85, 3) := by decide +kernel
theorem dL_ends_454 : decode cL_ends 454 = .ok (.bipush 20, 2) := by decide +kernel
theorem dL_ends_456 : decode cL_ends 456 = .ok (.if_icmp .ge 101, 3) := by decide +kernel
theorem dL_ends_459 : decode cL_ends 459 = .ok (.aload_n 0, 1) := by decide +kernel
theorem dL_ends_460 : decode cL_ends 460 = .ok (.iload_n 2, 1) := by decide +kernel
theorem dL_ends_461 : decode cL_ends 461 = .ok (.iload_n 1, 1) := by decide +kernel
theorem dL_ends_462 : decode cL_ends 462 = .ok (.bipush 12, 2) := by decide +kernel
theorem dL_ends_464 : decode cL_ends 464 = .ok (.idiv, 1) := by decide +kernel
theorem dL_ends_465 : decode cL_ends 465 = .ok (.bipush 16, 2) := by decide +kernel
theorem dL_ends_467 : decode cL_ends 467 = .ok (.irem, 1) := by decide +kernel
theorem dL_ends_468 : decode cL_ends 468 = .ok (.invokestatic 138, 3) := by decide +kernel
theorem dL_ends_471 : decode cL_ends 471 = .ok (.istore 11, 2) := by decide +kernel
theorem dL_ends_473 : decode cL_ends 473 = .ok (.iload 11, 2) := by decide +kernel
theorem dL_ends_475 : decode cL_ends 475 = .ok (.aload_n 0, 1) := by decide +kernel
theorem dL_ends_476 : decode cL_ends 476 = .ok (.invokevirtual 85, 3) := by decide +kernel
theorem dL_ends_479 : decode cL_ends 479 = .ok (.iconst 1, 1) := by decide +kernel
theorem dL_ends_480 : decode cL_ends 480 = .ok (.isub, 1) := by decide +kernel
theorem dL_ends_481 : decode cL_ends 481 = .ok (.if_icmp .ne 73, 3) := by decide +kernel
theorem dL_ends_484 : decode cL_ends 484 = .ok (.aload_n 0, 1) := by decide +kernel
theorem dL_ends_485 : decode cL_ends 485 = .ok (.iload_n 2, 1) := by decide +kernel
theorem dL_ends_486 : decode cL_ends 486 = .ok (.iload 11, 2) := by decide +kernel
theorem dL_ends_488 : decode cL_ends 488 = .ok (.invokestatic 147, 3) := by decide +kernel
theorem dL_ends_491 : decode cL_ends 491 = .ok (.iconst 3, 1) := by decide +kernel
theorem dL_ends_492 : decode cL_ends 492 = .ok (.if_icmp .ne 62, 3) := by decide +kernel
theorem dL_ends_495 : decode cL_ends 495 = .ok (.aload_n 0, 1) := by decide +kernel
theorem dL_ends_496 : decode cL_ends 496 = .ok (.iload_n 2, 1) := by decide +kernel
theorem dL_ends_497 : decode cL_ends 497 = .ok (.iload 11, 2) := by decide +kernel
theorem dL_ends_499 : decode cL_ends 499 = .ok (.iconst 0, 1) := by decide +kernel
theorem dL_ends_500 : decode cL_ends 500 = .ok (.invokestatic 143, 3) := by decide +kernel
theorem dL_ends_503 : decode cL_ends 503 = .ok (.iload_n 1, 1) := by decide +kernel
theorem dL_ends_504 : decode cL_ends 504 = .ok (.bipush 12, 2) := by decide +kernel
theorem dL_ends_506 : decode cL_ends 506 = .ok (.idiv, 1) := by decide +kernel
theorem dL_ends_507 : decode cL_ends 507 = .ok (.bipush 16, 2) := by decide +kernel
theorem dL_ends_509 : decode cL_ends 509 = .ok (.irem, 1) := by decide +kernel
theorem dL_ends_510 : decode cL_ends 510 = .ok (.iconst 1, 1) := by decide +kernel
theorem dL_ends_511 : decode cL_ends 511 = .ok (.iand, 1) := by decide +kernel
theorem dL_ends_512 : decode cL_ends 512 = .ok (.iconst 1, 1) := by decide +kernel
theorem dL_ends_513 : decode cL_ends 513 = .ok (.if_icmp .ne 7, 3) := by decide +kernel
theorem dL_ends_516 : decode cL_ends 516 = .ok (.iconst 1, 1) := by decide +kernel
theorem dL_ends_517 : decode cL_ends 517 = .ok (.goto 4, 3) := by decide +kernel
theorem dL_ends_520 : decode cL_ends 520 = .ok (.iconst 2, 1) := by decide +kernel
theorem dL_ends_521 : decode cL_ends 521 = .ok (.if_icmp .ne 33, 3) := by decide +kernel
theorem dL_ends_524 : decode cL_ends 524 = .ok (.aload_n 0, 1) := by decide +kernel
theorem dL_ends_525 : decode cL_ends 525 = .ok (.iload_n 2, 1) := by decide +kernel
theorem dL_ends_526 : decode cL_ends 526 = .ok (.iload 11, 2) := by decide +kernel
theorem dL_ends_528 : decode cL_ends 528 = .ok (.iconst 3, 1) := by decide +kernel
theorem dL_ends_529 : decode cL_ends 529 = .ok (.invokestatic 140, 3) := by decide +kernel
theorem dL_ends_532 : decode cL_ends 532 = .ok (.iload 5, 2) := by decide +kernel
theorem dL_ends_534 : decode cL_ends 534 = .ok (.if_icmp .ne 20, 3) := by decide +kernel
theorem dL_ends_537 : decode cL_ends 537 = .ok (.aload_n 0, 1) := by decide +kernel
theorem dL_ends_538 : decode cL_ends 538 = .ok (.iload_n 2, 1) := by decide +kernel
theorem dL_ends_539 : decode cL_ends 539 = .ok (.iload 11, 2) := by decide +kernel
theorem dL_ends_541 : decode cL_ends 541 = .ok (.iconst 4, 1) := by decide +kernel
theorem dL_ends_542 : decode cL_ends 542 = .ok (.invokestatic 140, 3) := by decide +kernel
theorem dL_ends_545 : decode cL_ends 545 = .ok (.bipush (-2), 2) := by decide +kernel
theorem dL_ends_547 : decode cL_ends 547 = .ok (.if_icmp .ne 7, 3) := by decide +kernel
theorem dL_ends_550 : decode cL_ends 550 = .ok (.iconst 1, 1) := by decide +kernel
theorem dL_ends_551 : decode cL_ends 551 = .ok (.goto 4, 3) := by decide +kernel
theorem dL_ends_554 : decode cL_ends 554 = .ok (.iconst 0, 1) := by decide +kernel
theorem dL_ends_555 : decode cL_ends 555 = .ok (.istore 6, 2) := by decide +kernel
theorem dL_ends_557 : decode cL_ends 557 = .ok (.iload 6, 2) := by decide +kernel
theorem dL_ends_559 : decode cL_ends 559 = .ok (.ireturn, 1) := by decide +kernel
