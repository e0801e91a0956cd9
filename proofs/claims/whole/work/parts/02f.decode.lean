theorem dX0_init_0 : decode cX0_init 0 = .ok (.aload_n 0, 1) := by decide +kernel
theorem dX0_init_1 : decode cX0_init 1 = .ok (.invokespecial 3, 3) := by decide +kernel
theorem dX0_init_4 : decode cX0_init 4 = .ok (.aload_n 0, 1) := by decide +kernel
theorem dX0_init_5 : decode cX0_init 5 = .ok (.iload_n 1, 1) := by decide +kernel
theorem dX0_init_6 : decode cX0_init 6 = .ok (.putfield 9, 3) := by decide +kernel
theorem dX0_init_9 : decode cX0_init 9 = .ok (.aload_n 0, 1) := by decide +kernel
theorem dX0_init_10 : decode cX0_init 10 = .ok (.iload_n 2, 1) := by decide +kernel
theorem dX0_init_11 : decode cX0_init 11 = .ok (.putfield 15, 3) := by decide +kernel
theorem dX0_init_14 : decode cX0_init 14 = .ok (.return_, 1) := by decide +kernel
theorem dX0_allows_0 : decode cX0_allows 0 = .ok (.iload_n 2, 1) := by decide +kernel
theorem dX0_allows_1 : decode cX0_allows 1 = .ok (.ifCond .eq 7, 3) := by decide +kernel
theorem dX0_allows_4 : decode cX0_allows 4 = .ok (.iconst 2, 1) := by decide +kernel
theorem dX0_allows_5 : decode cX0_allows 5 = .ok (.goto 4, 3) := by decide +kernel
theorem dX0_allows_8 : decode cX0_allows 8 = .ok (.iconst 1, 1) := by decide +kernel
theorem dX0_allows_9 : decode cX0_allows 9 = .ok (.istore_n 3, 1) := by decide +kernel
theorem dX0_allows_10 : decode cX0_allows 10 = .ok (.iload_n 2, 1) := by decide +kernel
theorem dX0_allows_11 : decode cX0_allows 11 = .ok (.ifCond .eq 8, 3) := by decide +kernel
theorem dX0_allows_14 : decode cX0_allows 14 = .ok (.bipush 8, 2) := by decide +kernel
theorem dX0_allows_16 : decode cX0_allows 16 = .ok (.goto 4, 3) := by decide +kernel
theorem dX0_allows_19 : decode cX0_allows 19 = .ok (.iconst 4, 1) := by decide +kernel
theorem dX0_allows_20 : decode cX0_allows 20 = .ok (.istore 4, 2) := by decide +kernel
theorem dX0_allows_22 : decode cX0_allows 22 = .ok (.aload_n 0, 1) := by decide +kernel
theorem dX0_allows_23 : decode cX0_allows 23 = .ok (.getfield 15, 3) := by decide +kernel
theorem dX0_allows_26 : decode cX0_allows 26 = .ok (.iload_n 1, 1) := by decide +kernel
theorem dX0_allows_27 : decode cX0_allows 27 = .ok (.aload_n 0, 1) := by decide +kernel
theorem dX0_allows_28 : decode cX0_allows 28 = .ok (.getfield 9, 3) := by decide +kernel
theorem dX0_allows_31 : decode cX0_allows 31 = .ok (.if_icmp .ne 7, 3) := by decide +kernel
theorem dX0_allows_34 : decode cX0_allows 34 = .ok (.iload_n 3, 1) := by decide +kernel
theorem dX0_allows_35 : decode cX0_allows 35 = .ok (.goto 5, 3) := by decide +kernel
theorem dX0_allows_38 : decode cX0_allows 38 = .ok (.iload 4, 2) := by decide +kernel
theorem dX0_allows_40 : decode cX0_allows 40 = .ok (.iand, 1) := by decide +kernel
theorem dX0_allows_41 : decode cX0_allows 41 = .ok (.ifCond .eq 7, 3) := by decide +kernel
theorem dX0_allows_44 : decode cX0_allows 44 = .ok (.iconst 1, 1) := by decide +kernel
theorem dX0_allows_45 : decode cX0_allows 45 = .ok (.goto 4, 3) := by decide +kernel
theorem dX0_allows_48 : decode cX0_allows 48 = .ok (.iconst 0, 1) := by decide +kernel
theorem dX0_allows_49 : decode cX0_allows 49 = .ok (.ireturn, 1) := by decide +kernel
theorem dX1_init_0 : decode cX1_init 0 = .ok (.aload_n 0, 1) := by decide +kernel
theorem dX1_init_1 : decode cX1_init 1 = .ok (.invokespecial 3, 3) := by decide +kernel
theorem dX1_init_4 : decode cX1_init 4 = .ok (.aload_n 0, 1) := by decide +kernel
theorem dX1_init_5 : decode cX1_init 5 = .ok (.aload_n 1, 1) := by decide +kernel
theorem dX1_init_6 : decode cX1_init 6 = .ok (.putfield 9, 3) := by decide +kernel
theorem dX1_init_9 : decode cX1_init 9 = .ok (.aload_n 0, 1) := by decide +kernel
theorem dX1_init_10 : decode cX1_init 10 = .ok (.iload_n 2, 1) := by decide +kernel
theorem dX1_init_11 : decode cX1_init 11 = .ok (.putfield 15, 3) := by decide +kernel
theorem dX1_init_14 : decode cX1_init 14 = .ok (.aload_n 0, 1) := by decide +kernel
theorem dX1_init_15 : decode cX1_init 15 = .ok (.iload_n 3, 1) := by decide +kernel
theorem dX1_init_16 : decode cX1_init 16 = .ok (.putfield 19, 3) := by decide +kernel
theorem dX1_init_19 : decode cX1_init 19 = .ok (.return_, 1) := by decide +kernel
theorem dX1_moveInto_0 : decode cX1_moveInto 0 = .ok (.aload_n 0, 1) := by decide +kernel
theorem dX1_moveInto_1 : decode cX1_moveInto 1 = .ok (.aload_n 1, 1) := by decide +kernel
theorem dX1_moveInto_2 : decode cX1_moveInto 2 = .ok (.putfield 9, 3) := by decide +kernel
theorem dX1_moveInto_5 : decode cX1_moveInto 5 = .ok (.aload_n 0, 1) := by decide +kernel
theorem dX1_moveInto_6 : decode cX1_moveInto 6 = .ok (.bipush 15, 2) := by decide +kernel
theorem dX1_moveInto_8 : decode cX1_moveInto 8 = .ok (.putfield 19, 3) := by decide +kernel
theorem dX1_moveInto_11 : decode cX1_moveInto 11 = .ok (.return_, 1) := by decide +kernel
theorem dX1_rightsHeldIn_0 : decode cX1_rightsHeldIn 0 = .ok (.aload_n 0, 1) := by decide +kernel
theorem dX1_rightsHeldIn_1 : decode cX1_rightsHeldIn 1 = .ok (.aload_n 1, 1) := by decide +kernel
theorem dX1_rightsHeldIn_2 : decode cX1_rightsHeldIn 2 = .ok (.invokevirtual 22, 3) := by decide +kernel
theorem dX1_rightsHeldIn_5 : decode cX1_rightsHeldIn 5 = .ok (.ifCond .eq 6, 3) := by decide +kernel
theorem dX1_rightsHeldIn_8 : decode cX1_rightsHeldIn 8 = .ok (.bipush 15, 2) := by decide +kernel
theorem dX1_rightsHeldIn_10 : decode cX1_rightsHeldIn 10 = .ok (.ireturn, 1) := by decide +kernel
theorem dX1_rightsHeldIn_11 : decode cX1_rightsHeldIn 11 = .ok (.aload_n 1, 1) := by decide +kernel
theorem dX1_rightsHeldIn_12 : decode cX1_rightsHeldIn 12 = .ok (.aload_n 0, 1) := by decide +kernel
theorem dX1_rightsHeldIn_13 : decode cX1_rightsHeldIn 13 = .ok (.getfield 9, 3) := by decide +kernel
theorem dX1_rightsHeldIn_16 : decode cX1_rightsHeldIn 16 = .ok (.invokestatic 26, 3) := by decide +kernel
theorem dX1_rightsHeldIn_19 : decode cX1_rightsHeldIn 19 = .ok (.ifCond .eq 10, 3) := by decide +kernel
theorem dX1_rightsHeldIn_22 : decode cX1_rightsHeldIn 22 = .ok (.aload_n 0, 1) := by decide +kernel
theorem dX1_rightsHeldIn_23 : decode cX1_rightsHeldIn 23 = .ok (.getfield 19, 3) := by decide +kernel
theorem dX1_rightsHeldIn_26 : decode cX1_rightsHeldIn 26 = .ok (.goto 4, 3) := by decide +kernel
theorem dX1_rightsHeldIn_29 : decode cX1_rightsHeldIn 29 = .ok (.iconst 0, 1) := by decide +kernel
theorem dX1_rightsHeldIn_30 : decode cX1_rightsHeldIn 30 = .ok (.ireturn, 1) := by decide +kernel
theorem dX1_hasRight_0 : decode cX1_hasRight 0 = .ok (.aload_n 0, 1) := by decide +kernel
theorem dX1_hasRight_1 : decode cX1_hasRight 1 = .ok (.aload_n 2, 1) := by decide +kernel
theorem dX1_hasRight_2 : decode cX1_hasRight 2 = .ok (.invokevirtual 30, 3) := by decide +kernel
theorem dX1_hasRight_5 : decode cX1_hasRight 5 = .ok (.iload_n 1, 1) := by decide +kernel
theorem dX1_hasRight_6 : decode cX1_hasRight 6 = .ok (.iand, 1) := by decide +kernel
theorem dX1_hasRight_7 : decode cX1_hasRight 7 = .ok (.ifCond .eq 7, 3) := by decide +kernel
theorem dX1_hasRight_10 : decode cX1_hasRight 10 = .ok (.iconst 1, 1) := by decide +kernel
theorem dX1_hasRight_11 : decode cX1_hasRight 11 = .ok (.goto 4, 3) := by decide +kernel
theorem dX1_hasRight_14 : decode cX1_hasRight 14 = .ok (.iconst 0, 1) := by decide +kernel
theorem dX1_hasRight_15 : decode cX1_hasRight 15 = .ok (.ireturn, 1) := by decide +kernel
theorem dX1_ownsRoomAround_0 : decode cX1_ownsRoomAround 0 = .ok (.aload_n 1, 1) := by decide +kernel
theorem dX1_ownsRoomAround_1 : decode cX1_ownsRoomAround 1 = .ok (.astore_n 2, 1) := by decide +kernel
theorem dX1_ownsRoomAround_2 : decode cX1_ownsRoomAround 2 = .ok (.aload_n 2, 1) := by decide +kernel
theorem dX1_ownsRoomAround_3 : decode cX1_ownsRoomAround 3 = .ok (.ifnull 35, 3) := by decide +kernel
theorem dX1_ownsRoomAround_6 : decode cX1_ownsRoomAround 6 = .ok (.aload_n 2, 1) := by decide +kernel
theorem dX1_ownsRoomAround_7 : decode cX1_ownsRoomAround 7 = .ok (.getfield 34, 3) := by decide +kernel
theorem dX1_ownsRoomAround_10 : decode cX1_ownsRoomAround 10 = .ok (.aload_n 0, 1) := by decide +kernel
theorem dX1_ownsRoomAround_11 : decode cX1_ownsRoomAround 11 = .ok (.getfield 9, 3) := by decide +kernel
theorem dX1_ownsRoomAround_14 : decode cX1_ownsRoomAround 14 = .ok (.if_acmp .ne 16, 3) := by decide +kernel
theorem dX1_ownsRoomAround_17 : decode cX1_ownsRoomAround 17 = .ok (.aload_n 2, 1) := by decide +kernel
theorem dX1_ownsRoomAround_18 : decode cX1_ownsRoomAround 18 = .ok (.getfield 39, 3) := by decide +kernel
theorem dX1_ownsRoomAround_21 : decode cX1_ownsRoomAround 21 = .ok (.aload_n 0, 1) := by decide +kernel
theorem dX1_ownsRoomAround_22 : decode cX1_ownsRoomAround 22 = .ok (.getfield 15, 3) := by decide +kernel
theorem dX1_ownsRoomAround_25 : decode cX1_ownsRoomAround 25 = .ok (.if_icmp .ne 5, 3) := by decide +kernel
theorem dX1_ownsRoomAround_28 : decode cX1_ownsRoomAround 28 = .ok (.iconst 1, 1) := by decide +kernel
theorem dX1_ownsRoomAround_29 : decode cX1_ownsRoomAround 29 = .ok (.ireturn, 1) := by decide +kernel
theorem dX1_ownsRoomAround_30 : decode cX1_ownsRoomAround 30 = .ok (.aload_n 2, 1) := by decide +kernel
theorem dX1_ownsRoomAround_31 : decode cX1_ownsRoomAround 31 = .ok (.getfield 34, 3) := by decide +kernel
theorem dX1_ownsRoomAround_34 : decode cX1_ownsRoomAround 34 = .ok (.astore_n 2, 1) := by decide +kernel
theorem dX1_ownsRoomAround_35 : decode cX1_ownsRoomAround 35 = .ok (.goto (-33), 3) := by decide +kernel
theorem dX1_ownsRoomAround_38 : decode cX1_ownsRoomAround 38 = .ok (.iconst 0, 1) := by decide +kernel
theorem dX1_ownsRoomAround_39 : decode cX1_ownsRoomAround 39 = .ok (.ireturn, 1) := by decide +kernel
theorem dX2_init_0 : decode cX2_init 0 = .ok (.aload_n 0, 1) := by decide +kernel
theorem dX2_init_1 : decode cX2_init 1 = .ok (.invokespecial 1, 3) := by decide +kernel
theorem dX2_init_4 : decode cX2_init 4 = .ok (.aload_n 0, 1) := by decide +kernel
theorem dX2_init_5 : decode cX2_init 5 = .ok (.iload_n 1, 1) := by decide +kernel
theorem dX2_init_6 : decode cX2_init 6 = .ok (.putfield 7, 3) := by decide +kernel
theorem dX2_init_9 : decode cX2_init 9 = .ok (.aload_n 0, 1) := by decide +kernel
theorem dX2_init_10 : decode cX2_init 10 = .ok (.iload_n 2, 1) := by decide +kernel
theorem dX2_init_11 : decode cX2_init 11 = .ok (.putfield 13, 3) := by decide +kernel
theorem dX2_init_14 : decode cX2_init 14 = .ok (.aload_n 0, 1) := by decide +kernel
theorem dX2_init_15 : decode cX2_init 15 = .ok (.iload_n 3, 1) := by decide +kernel
theorem dX2_init_16 : decode cX2_init 16 = .ok (.putfield 16, 3) := by decide +kernel
theorem dX2_init_19 : decode cX2_init 19 = .ok (.aload_n 0, 1) := by decide +kernel
theorem dX2_init_20 : decode cX2_init 20 = .ok (.aload 4, 2) := by decide +kernel
theorem dX2_init_22 : decode cX2_init 22 = .ok (.putfield 19, 3) := by decide +kernel
theorem dX2_init_25 : decode cX2_init 25 = .ok (.return_, 1) := by decide +kernel
theorem dX2_isOfOneNumber_0 : decode cX2_isOfOneNumber 0 = .ok (.aload_n 0, 1) := by decide +kernel
theorem dX2_isOfOneNumber_1 : decode cX2_isOfOneNumber 1 = .ok (.getfield 19, 3) := by decide +kernel
theorem dX2_isOfOneNumber_4 : decode cX2_isOfOneNumber 4 = .ok (.ifnonnull 15, 3) := by decide +kernel
theorem dX2_isOfOneNumber_7 : decode cX2_isOfOneNumber 7 = .ok (.aload_n 0, 1) := by decide +kernel
theorem dX2_isOfOneNumber_8 : decode cX2_isOfOneNumber 8 = .ok (.getfield 16, 3) := by decide +kernel
theorem dX2_isOfOneNumber_11 : decode cX2_isOfOneNumber 11 = .ok (.iconst 1, 1) := by decide +kernel
theorem dX2_isOfOneNumber_12 : decode cX2_isOfOneNumber 12 = .ok (.if_icmp .ne 7, 3) := by decide +kernel
theorem dX2_isOfOneNumber_15 : decode cX2_isOfOneNumber 15 = .ok (.iconst 1, 1) := by decide +kernel
theorem dX2_isOfOneNumber_16 : decode cX2_isOfOneNumber 16 = .ok (.goto 4, 3) := by decide +kernel
theorem dX2_isOfOneNumber_19 : decode cX2_isOfOneNumber 19 = .ok (.iconst 0, 1) := by decide +kernel
theorem dX2_isOfOneNumber_20 : decode cX2_isOfOneNumber 20 = .ok (.ireturn, 1) := by decide +kernel
theorem dX2_meets_0 : decode cX2_meets 0 = .ok (.aload_n 0, 1) := by decide +kernel
theorem dX2_meets_1 : decode cX2_meets 1 = .ok (.getfield 7, 3) := by decide +kernel
theorem dX2_meets_4 : decode cX2_meets 4 = .ok (.aload_n 0, 1) := by decide +kernel
theorem dX2_meets_5 : decode cX2_meets 5 = .ok (.getfield 16, 3) := by decide +kernel
theorem dX2_meets_8 : decode cX2_meets 8 = .ok (.aload_n 1, 1) := by decide +kernel
theorem dX2_meets_9 : decode cX2_meets 9 = .ok (.getfield 7, 3) := by decide +kernel
theorem dX2_meets_12 : decode cX2_meets 12 = .ok (.aload_n 1, 1) := by decide +kernel
theorem dX2_meets_13 : decode cX2_meets 13 = .ok (.getfield 16, 3) := by decide +kernel
theorem dX2_meets_16 : decode cX2_meets 16 = .ok (.invokestatic 23, 3) := by decide +kernel
theorem dX2_meets_19 : decode cX2_meets 19 = .ok (.ifCond .ne 25, 3) := by decide +kernel
theorem dX2_meets_22 : decode cX2_meets 22 = .ok (.aload_n 0, 1) := by decide +kernel
theorem dX2_meets_23 : decode cX2_meets 23 = .ok (.getfield 13, 3) := by decide +kernel
theorem dX2_meets_26 : decode cX2_meets 26 = .ok (.aload_n 0, 1) := by decide +kernel
theorem dX2_meets_27 : decode cX2_meets 27 = .ok (.getfield 16, 3) := by decide +kernel
theorem dX2_meets_30 : decode cX2_meets 30 = .ok (.aload_n 1, 1) := by decide +kernel
theorem dX2_meets_31 : decode cX2_meets 31 = .ok (.getfield 13, 3) := by decide +kernel
theorem dX2_meets_34 : decode cX2_meets 34 = .ok (.aload_n 1, 1) := by decide +kernel
theorem dX2_meets_35 : decode cX2_meets 35 = .ok (.getfield 16, 3) := by decide +kernel
theorem dX2_meets_38 : decode cX2_meets 38 = .ok (.invokestatic 23, 3) := by decide +kernel
theorem dX2_meets_41 : decode cX2_meets 41 = .ok (.ifCond .eq 7, 3) := by decide +kernel
theorem dX2_meets_44 : decode cX2_meets 44 = .ok (.iconst 1, 1) := by decide +kernel
theorem dX2_meets_45 : decode cX2_meets 45 = .ok (.goto 4, 3) := by decide +kernel
theorem dX2_meets_48 : decode cX2_meets 48 = .ok (.iconst 0, 1) := by decide +kernel
theorem dX2_meets_49 : decode cX2_meets 49 = .ok (.ireturn, 1) := by decide +kernel
theorem dX2_rangesMeet_0 : decode cX2_rangesMeet 0 = .ok (.iload_n 0, 1) := by decide +kernel
theorem dX2_rangesMeet_1 : decode cX2_rangesMeet 1 = .ok (.iload_n 2, 1) := by decide +kernel
theorem dX2_rangesMeet_2 : decode cX2_rangesMeet 2 = .ok (.iload_n 3, 1) := by decide +kernel
theorem dX2_rangesMeet_3 : decode cX2_rangesMeet 3 = .ok (.iadd, 1) := by decide +kernel
theorem dX2_rangesMeet_4 : decode cX2_rangesMeet 4 = .ok (.if_icmp .ge 14, 3) := by decide +kernel
theorem dX2_rangesMeet_7 : decode cX2_rangesMeet 7 = .ok (.iload_n 2, 1) := by decide +kernel
theorem dX2_rangesMeet_8 : decode cX2_rangesMeet 8 = .ok (.iload_n 0, 1) := by decide +kernel
theorem dX2_rangesMeet_9 : decode cX2_rangesMeet 9 = .ok (.iload_n 1, 1) := by decide +kernel
theorem dX2_rangesMeet_10 : decode cX2_rangesMeet 10 = .ok (.iadd, 1) := by decide +kernel
theorem dX2_rangesMeet_11 : decode cX2_rangesMeet 11 = .ok (.if_icmp .ge 7, 3) := by decide +kernel
theorem dX2_rangesMeet_14 : decode cX2_rangesMeet 14 = .ok (.iconst 1, 1) := by decide +kernel
theorem dX2_rangesMeet_15 : decode cX2_rangesMeet 15 = .ok (.goto 4, 3) := by decide +kernel
theorem dX2_rangesMeet_18 : decode cX2_rangesMeet 18 = .ok (.iconst 0, 1) := by decide +kernel
theorem dX2_rangesMeet_19 : decode cX2_rangesMeet 19 = .ok (.ireturn, 1) := by decide +kernel
theorem dX3_init_0 : decode cX3_init 0 = .ok (.aload_n 0, 1) := by decide +kernel
theorem dX3_init_1 : decode cX3_init 1 = .ok (.invokespecial 3, 3) := by decide +kernel
theorem dX3_init_4 : decode cX3_init 4 = .ok (.aload_n 0, 1) := by decide +kernel
theorem dX3_init_5 : decode cX3_init 5 = .ok (.iload_n 1, 1) := by decide +kernel
theorem dX3_init_6 : decode cX3_init 6 = .ok (.putfield 9, 3) := by decide +kernel
theorem dX3_init_9 : decode cX3_init 9 = .ok (.aload_n 0, 1) := by decide +kernel
theorem dX3_init_10 : decode cX3_init 10 = .ok (.aload_n 2, 1) := by decide +kernel
theorem dX3_init_11 : decode cX3_init 11 = .ok (.putfield 15, 3) := by decide +kernel
theorem dX3_init_14 : decode cX3_init 14 = .ok (.aload_n 0, 1) := by decide +kernel
theorem dX3_init_15 : decode cX3_init 15 = .ok (.iload_n 3, 1) := by decide +kernel
theorem dX3_init_16 : decode cX3_init 16 = .ok (.putfield 19, 3) := by decide +kernel
theorem dX3_init_19 : decode cX3_init 19 = .ok (.aload_n 0, 1) := by decide +kernel
theorem dX3_init_20 : decode cX3_init 20 = .ok (.aconst_null, 1) := by decide +kernel
theorem dX3_init_21 : decode cX3_init 21 = .ok (.putfield 22, 3) := by decide +kernel
theorem dX3_init_24 : decode cX3_init 24 = .ok (.return_, 1) := by decide +kernel
theorem dX3_toOuter_0 : decode cX3_toOuter 0 = .ok (.aload_n 0, 1) := by decide +kernel
theorem dX3_toOuter_1 : decode cX3_toOuter 1 = .ok (.getfield 15, 3) := by decide +kernel
theorem dX3_toOuter_4 : decode cX3_toOuter 4 = .ok (.ifnonnull 5, 3) := by decide +kernel
theorem dX3_toOuter_7 : decode cX3_toOuter 7 = .ok (.iload_n 1, 1) := by decide +kernel
theorem dX3_toOuter_8 : decode cX3_toOuter 8 = .ok (.ireturn, 1) := by decide +kernel
theorem dX3_toOuter_9 : decode cX3_toOuter 9 = .ok (.aload_n 0, 1) := by decide +kernel
theorem dX3_toOuter_10 : decode cX3_toOuter 10 = .ok (.getfield 22, 3) := by decide +kernel
theorem dX3_toOuter_13 : decode cX3_toOuter 13 = .ok (.astore_n 2, 1) := by decide +kernel
theorem dX3_toOuter_14 : decode cX3_toOuter 14 = .ok (.aload_n 2, 1) := by decide +kernel
theorem dX3_toOuter_15 : decode cX3_toOuter 15 = .ok (.ifnull 44, 3) := by decide +kernel
theorem dX3_toOuter_18 : decode cX3_toOuter 18 = .ok (.iload_n 1, 1) := by decide +kernel
theorem dX3_toOuter_19 : decode cX3_toOuter 19 = .ok (.aload_n 2, 1) := by decide +kernel
theorem dX3_toOuter_20 : decode cX3_toOuter 20 = .ok (.getfield 26, 3) := by decide +kernel
theorem dX3_toOuter_23 : decode cX3_toOuter 23 = .ok (.if_icmp .lt 28, 3) := by decide +kernel
theorem dX3_toOuter_26 : decode cX3_toOuter 26 = .ok (.iload_n 1, 1) := by decide +kernel
theorem dX3_toOuter_27 : decode cX3_toOuter 27 = .ok (.aload_n 2, 1) := by decide +kernel
theorem dX3_toOuter_28 : decode cX3_toOuter 28 = .ok (.getfield 26, 3) := by decide +kernel
theorem dX3_toOuter_31 : decode cX3_toOuter 31 = .ok (.aload_n 2, 1) := by decide +kernel
theorem dX3_toOuter_32 : decode cX3_toOuter 32 = .ok (.getfield 31, 3) := by decide +kernel
theorem dX3_toOuter_35 : decode cX3_toOuter 35 = .ok (.iadd, 1) := by decide +kernel
theorem dX3_toOuter_36 : decode cX3_toOuter 36 = .ok (.if_icmp .ge 15, 3) := by decide +kernel
theorem dX3_toOuter_39 : decode cX3_toOuter 39 = .ok (.aload_n 2, 1) := by decide +kernel
theorem dX3_toOuter_40 : decode cX3_toOuter 40 = .ok (.getfield 34, 3) := by decide +kernel
theorem dX3_toOuter_43 : decode cX3_toOuter 43 = .ok (.iload_n 1, 1) := by decide +kernel
theorem dX3_toOuter_44 : decode cX3_toOuter 44 = .ok (.aload_n 2, 1) := by decide +kernel
theorem dX3_toOuter_45 : decode cX3_toOuter 45 = .ok (.getfield 26, 3) := by decide +kernel
theorem dX3_toOuter_48 : decode cX3_toOuter 48 = .ok (.isub, 1) := by decide +kernel
theorem dX3_toOuter_49 : decode cX3_toOuter 49 = .ok (.iadd, 1) := by decide +kernel
theorem dX3_toOuter_50 : decode cX3_toOuter 50 = .ok (.ireturn, 1) := by decide +kernel
theorem dX3_toOuter_51 : decode cX3_toOuter 51 = .ok (.aload_n 2, 1) := by decide +kernel
theorem dX3_toOuter_52 : decode cX3_toOuter 52 = .ok (.getfield 36, 3) := by decide +kernel
theorem dX3_toOuter_55 : decode cX3_toOuter 55 = .ok (.astore_n 2, 1) := by decide +kernel
theorem dX3_toOuter_56 : decode cX3_toOuter 56 = .ok (.goto (-42), 3) := by decide +kernel
theorem dX3_toOuter_59 : decode cX3_toOuter 59 = .ok (.iconst (-1), 1) := by decide +kernel
theorem dX3_toOuter_60 : decode cX3_toOuter 60 = .ok (.ireturn, 1) := by decide +kernel
theorem dX3_fromOuter_0 : decode cX3_fromOuter 0 = .ok (.aload_n 0, 1) := by decide +kernel
theorem dX3_fromOuter_1 : decode cX3_fromOuter 1 = .ok (.getfield 15, 3) := by decide +kernel
theorem dX3_fromOuter_4 : decode cX3_fromOuter 4 = .ok (.ifnonnull 5, 3) := by decide +kernel
theorem dX3_fromOuter_7 : decode cX3_fromOuter 7 = .ok (.iload_n 1, 1) := by decide +kernel
theorem dX3_fromOuter_8 : decode cX3_fromOuter 8 = .ok (.ireturn, 1) := by decide +kernel
theorem dX3_fromOuter_9 : decode cX3_fromOuter 9 = .ok (.aload_n 0, 1) := by decide +kernel
theorem dX3_fromOuter_10 : decode cX3_fromOuter 10 = .ok (.getfield 22, 3) := by decide +kernel
theorem dX3_fromOuter_13 : decode cX3_fromOuter 13 = .ok (.astore_n 2, 1) := by decide +kernel
theorem dX3_fromOuter_14 : decode cX3_fromOuter 14 = .ok (.aload_n 2, 1) := by decide +kernel
theorem dX3_fromOuter_15 : decode cX3_fromOuter 15 = .ok (.ifnull 44, 3) := by decide +kernel
theorem dX3_fromOuter_18 : decode cX3_fromOuter 18 = .ok (.iload_n 1, 1) := by decide +kernel
theorem dX3_fromOuter_19 : decode cX3_fromOuter 19 = .ok (.aload_n 2, 1) := by decide +kernel
theorem dX3_fromOuter_20 : decode cX3_fromOuter 20 = .ok (.getfield 34, 3) := by decide +kernel
theorem dX3_fromOuter_23 : decode cX3_fromOuter 23 = .ok (.if_icmp .lt 28, 3) := by decide +kernel
theorem dX3_fromOuter_26 : decode cX3_fromOuter 26 = .ok (.iload_n 1, 1) := by decide +kernel
theorem dX3_fromOuter_27 : decode cX3_fromOuter 27 = .ok (.aload_n 2, 1) := by decide +kernel
theorem dX3_fromOuter_28 : decode cX3_fromOuter 28 = .ok (.getfield 34, 3) := by decide +kernel
theorem dX3_fromOuter_31 : decode cX3_fromOuter 31 = .ok (.aload_n 2, 1) := by decide +kernel
theorem dX3_fromOuter_32 : decode cX3_fromOuter 32 = .ok (.getfield 31, 3) := by decide +kernel
theorem dX3_fromOuter_35 : decode cX3_fromOuter 35 = .ok (.iadd, 1) := by decide +kernel
theorem dX3_fromOuter_36 : decode cX3_fromOuter 36 = .ok (.if_icmp .ge 15, 3) := by decide +kernel
theorem dX3_fromOuter_39 : decode cX3_fromOuter 39 = .ok (.aload_n 2, 1) := by decide +kernel
theorem dX3_fromOuter_40 : decode cX3_fromOuter 40 = .ok (.getfield 26, 3) := by decide +kernel
theorem dX3_fromOuter_43 : decode cX3_fromOuter 43 = .ok (.iload_n 1, 1) := by decide +kernel
theorem dX3_fromOuter_44 : decode cX3_fromOuter 44 = .ok (.aload_n 2, 1) := by decide +kernel
theorem dX3_fromOuter_45 : decode cX3_fromOuter 45 = .ok (.getfield 34, 3) := by decide +kernel
theorem dX3_fromOuter_48 : decode cX3_fromOuter 48 = .ok (.isub, 1) := by decide +kernel
theorem dX3_fromOuter_49 : decode cX3_fromOuter 49 = .ok (.iadd, 1) := by decide +kernel
theorem dX3_fromOuter_50 : decode cX3_fromOuter 50 = .ok (.ireturn, 1) := by decide +kernel
theorem dX3_fromOuter_51 : decode cX3_fromOuter 51 = .ok (.aload_n 2, 1) := by decide +kernel
theorem dX3_fromOuter_52 : decode cX3_fromOuter 52 = .ok (.getfield 36, 3) := by decide +kernel
theorem dX3_fromOuter_55 : decode cX3_fromOuter 55 = .ok (.astore_n 2, 1) := by decide +kernel
theorem dX3_fromOuter_56 : decode cX3_fromOuter 56 = .ok (.goto (-42), 3) := by decide +kernel
theorem dX3_fromOuter_59 : decode cX3_fromOuter 59 = .ok (.sipush 999, 3) := by decide +kernel
theorem dX3_fromOuter_62 : decode cX3_fromOuter 62 = .ok (.ireturn, 1) := by decide +kernel
theorem dX4_init_0 : decode cX4_init 0 = .ok (.aload_n 0, 1) := by decide +kernel
theorem dX4_init_1 : decode cX4_init 1 = .ok (.invokespecial 1, 3) := by decide +kernel
theorem dX4_init_4 : decode cX4_init 4 = .ok (.new 7, 3) := by decide +kernel
theorem dX4_init_7 : decode cX4_init 7 = .ok (.dup, 1) := by decide +kernel
theorem dX4_init_8 : decode cX4_init 8 = .ok (.iconst 0, 1) := by decide +kernel
theorem dX4_init_9 : decode cX4_init 9 = .ok (.aconst_null, 1) := by decide +kernel
theorem dX4_init_10 : decode cX4_init 10 = .ok (.iconst (-1), 1) := by decide +kernel
theorem dX4_init_11 : decode cX4_init 11 = .ok (.invokespecial 11, 3) := by decide +kernel
theorem dX4_init_14 : decode cX4_init 14 = .ok (.astore_n 1, 1) := by decide +kernel
theorem dX4_init_15 : decode cX4_init 15 = .ok (.aload_n 0, 1) := by decide +kernel
theorem dX4_init_16 : decode cX4_init 16 = .ok (.bipush 10, 2) := by decide +kernel
theorem dX4_init_18 : decode cX4_init 18 = .ok (.anewarray 7, 3) := by decide +kernel
theorem dX4_init_21 : decode cX4_init 21 = .ok (.putfield 14, 3) := by decide +kernel
theorem dX4_init_24 : decode cX4_init 24 = .ok (.aload_n 0, 1) := by decide +kernel
theorem dX4_init_25 : decode cX4_init 25 = .ok (.getfield 14, 3) := by decide +kernel
theorem dX4_init_28 : decode cX4_init 28 = .ok (.iconst 0, 1) := by decide +kernel
theorem dX4_init_29 : decode cX4_init 29 = .ok (.aload_n 1, 1) := by decide +kernel
theorem dX4_init_30 : decode cX4_init 30 = .ok (.aastore, 1) := by decide +kernel
theorem dX4_init_31 : decode cX4_init 31 = .ok (.aload_n 0, 1) := by decide +kernel
theorem dX4_init_32 : decode cX4_init 32 = .ok (.iconst 1, 1) := by decide +kernel
theorem dX4_init_33 : decode cX4_init 33 = .ok (.putfield 18, 3) := by decide +kernel
theorem dX4_init_36 : decode cX4_init 36 = .ok (.aload_n 0, 1) := by decide +kernel
theorem dX4_init_37 : decode cX4_init 37 = .ok (.bipush 12, 2) := by decide +kernel
theorem dX4_init_39 : decode cX4_init 39 = .ok (.anewarray 22, 3) := by decide +kernel
theorem dX4_init_42 : decode cX4_init 42 = .ok (.putfield 24, 3) := by decide +kernel
theorem dX4_init_45 : decode cX4_init 45 = .ok (.aload_n 0, 1) := by decide +kernel
theorem dX4_init_46 : decode cX4_init 46 = .ok (.getfield 24, 3) := by decide +kernel
theorem dX4_init_49 : decode cX4_init 49 = .ok (.iconst 0, 1) := by decide +kernel
theorem dX4_init_50 : decode cX4_init 50 = .ok (.new 22, 3) := by decide +kernel
theorem dX4_init_53 : decode cX4_init 53 = .ok (.dup, 1) := by decide +kernel
theorem dX4_init_54 : decode cX4_init 54 = .ok (.aload_n 1, 1) := by decide +kernel
theorem dX4_init_55 : decode cX4_init 55 = .ok (.iconst 0, 1) := by decide +kernel
theorem dX4_init_56 : decode cX4_init 56 = .ok (.bipush 15, 2) := by decide +kernel
theorem dX4_init_58 : decode cX4_init 58 = .ok (.invokespecial 28, 3) := by decide +kernel
theorem dX4_init_61 : decode cX4_init 61 = .ok (.aastore, 1) := by decide +kernel
theorem dX4_init_62 : decode cX4_init 62 = .ok (.aload_n 0, 1) := by decide +kernel
theorem dX4_init_63 : decode cX4_init 63 = .ok (.iconst 1, 1) := by decide +kernel
theorem dX4_init_64 : decode cX4_init 64 = .ok (.putfield 31, 3) := by decide +kernel
theorem dX4_init_67 : decode cX4_init 67 = .ok (.aload_n 0, 1) := by decide +kernel
theorem dX4_init_68 : decode cX4_init 68 = .ok (.bipush 20, 2) := by decide +kernel
theorem dX4_init_70 : decode cX4_init 70 = .ok (.anewarray 34, 3) := by decide +kernel
theorem dX4_init_73 : decode cX4_init 73 = .ok (.putfield 36, 3) := by decide +kernel
theorem dX4_init_76 : decode cX4_init 76 = .ok (.aload_n 0, 1) := by decide +kernel
theorem dX4_init_77 : decode cX4_init 77 = .ok (.iconst 0, 1) := by decide +kernel
theorem dX4_init_78 : decode cX4_init 78 = .ok (.putfield 40, 3) := by decide +kernel
theorem dX4_init_81 : decode cX4_init 81 = .ok (.aload_n 0, 1) := by decide +kernel
theorem dX4_init_82 : decode cX4_init 82 = .ok (.aconst_null, 1) := by decide +kernel
theorem dX4_init_83 : decode cX4_init 83 = .ok (.putfield 43, 3) := by decide +kernel
theorem dX4_init_86 : decode cX4_init 86 = .ok (.aload_n 0, 1) := by decide +kernel
theorem dX4_init_87 : decode cX4_init 87 = .ok (.iconst 0, 1) := by decide +kernel
theorem dX4_init_88 : decode cX4_init 88 = .ok (.putfield 47, 3) := by decide +kernel
theorem dX4_init_91 : decode cX4_init 91 = .ok (.aload_n 0, 1) := by decide +kernel
theorem dX4_init_92 : decode cX4_init 92 = .ok (.iconst 0, 1) := by decide +kernel
theorem dX4_init_93 : decode cX4_init 93 = .ok (.putfield 50, 3) := by decide +kernel
theorem dX4_init_96 : decode cX4_init 96 = .ok (.return_, 1) := by decide +kernel
theorem dX4_makeRoom_0 : decode cX4_makeRoom 0 = .ok (.aload_n 0, 1) := by decide +kernel
theorem dX4_makeRoom_1 : decode cX4_makeRoom 1 = .ok (.iload_n 1, 1) := by decide +kernel
theorem dX4_makeRoom_2 : decode cX4_makeRoom 2 = .ok (.invokevirtual 53, 3) := by decide +kernel
theorem dX4_makeRoom_5 : decode cX4_makeRoom 5 = .ok (.astore_n 2, 1) := by decide +kernel
theorem dX4_makeRoom_6 : decode cX4_makeRoom 6 = .ok (.aload_n 0, 1) := by decide +kernel
theorem dX4_makeRoom_7 : decode cX4_makeRoom 7 = .ok (.getfield 18, 3) := by decide +kernel
theorem dX4_makeRoom_10 : decode cX4_makeRoom 10 = .ok (.aload_n 0, 1) := by decide +kernel
theorem dX4_makeRoom_11 : decode cX4_makeRoom 11 = .ok (.getfield 14, 3) := by decide +kernel
theorem dX4_makeRoom_14 : decode cX4_makeRoom 14 = .ok (.arraylength, 1) := by decide +kernel
theorem dX4_makeRoom_15 : decode cX4_makeRoom 15 = .ok (.if_icmp .lt 13, 3) := by decide +kernel
theorem dX4_makeRoom_18 : decode cX4_makeRoom 18 = .ok (.new 57, 3) := by decide +kernel
theorem dX4_makeRoom_21 : decode cX4_makeRoom 21 = .ok (.dup, 1) := by decide +kernel
theorem dX4_makeRoom_22 : decode cX4_makeRoom 22 = .ok (.ldc 59, 2) := by decide +kernel
theorem dX4_makeRoom_24 : decode cX4_makeRoom 24 = .ok (.invokespecial 61, 3) := by decide +kernel
theorem dX4_makeRoom_27 : decode cX4_makeRoom 27 = .ok (.athrow, 1) := by decide +kernel
theorem dX4_makeRoom_28 : decode cX4_makeRoom 28 = .ok (.new 7, 3) := by decide +kernel
theorem dX4_makeRoom_31 : decode cX4_makeRoom 31 = .ok (.dup, 1) := by decide +kernel
theorem dX4_makeRoom_32 : decode cX4_makeRoom 32 = .ok (.aload_n 0, 1) := by decide +kernel
theorem dX4_makeRoom_33 : decode cX4_makeRoom 33 = .ok (.getfield 18, 3) := by decide +kernel
theorem dX4_makeRoom_36 : decode cX4_makeRoom 36 = .ok (.aload_n 2, 1) := by decide +kernel
theorem dX4_makeRoom_37 : decode cX4_makeRoom 37 = .ok (.getfield 64, 3) := by decide +kernel
theorem dX4_makeRoom_40 : decode cX4_makeRoom 40 = .ok (.aload_n 2, 1) := by decide +kernel
theorem dX4_makeRoom_41 : decode cX4_makeRoom 41 = .ok (.getfield 68, 3) := by decide +kernel
theorem dX4_makeRoom_44 : decode cX4_makeRoom 44 = .ok (.invokespecial 11, 3) := by decide +kernel
theorem dX4_makeRoom_47 : decode cX4_makeRoom 47 = .ok (.astore_n 3, 1) := by decide +kernel
theorem dX4_makeRoom_48 : decode cX4_makeRoom 48 = .ok (.aload_n 0, 1) := by decide +kernel
theorem dX4_makeRoom_49 : decode cX4_makeRoom 49 = .ok (.getfield 14, 3) := by decide +kernel
theorem dX4_makeRoom_52 : decode cX4_makeRoom 52 = .ok (.aload_n 0, 1) := by decide +kernel
theorem dX4_makeRoom_53 : decode cX4_makeRoom 53 = .ok (.getfield 18, 3) := by decide +kernel
theorem dX4_makeRoom_56 : decode cX4_makeRoom 56 = .ok (.aload_n 3, 1) := by decide +kernel
theorem dX4_makeRoom_57 : decode cX4_makeRoom 57 = .ok (.aastore, 1) := by decide +kernel
theorem dX4_makeRoom_58 : decode cX4_makeRoom 58 = .ok (.aload_n 0, 1) := by decide +kernel
theorem dX4_makeRoom_59 : decode cX4_makeRoom 59 = .ok (.dup, 1) := by decide +kernel
theorem dX4_makeRoom_60 : decode cX4_makeRoom 60 = .ok (.getfield 18, 3) := by decide +kernel
theorem dX4_makeRoom_63 : decode cX4_makeRoom 63 = .ok (.iconst 1, 1) := by decide +kernel
theorem dX4_makeRoom_64 : decode cX4_makeRoom 64 = .ok (.iadd, 1) := by decide +kernel
theorem dX4_makeRoom_65 : decode cX4_makeRoom 65 = .ok (.putfield 18, 3) := by decide +kernel
theorem dX4_makeRoom_68 : decode cX4_makeRoom 68 = .ok (.aload_n 2, 1) := by decide +kernel
theorem dX4_makeRoom_69 : decode cX4_makeRoom 69 = .ok (.aload_n 3, 1) := by decide +kernel
theorem dX4_makeRoom_70 : decode cX4_makeRoom 70 = .ok (.invokevirtual 71, 3) := by decide +kernel
theorem dX4_makeRoom_73 : decode cX4_makeRoom 73 = .ok (.aload_n 3, 1) := by decide +kernel
theorem dX4_makeRoom_74 : decode cX4_makeRoom 74 = .ok (.getfield 75, 3) := by decide +kernel
theorem dX4_makeRoom_77 : decode cX4_makeRoom 77 = .ok (.ireturn, 1) := by decide +kernel
theorem dX4_line_0 : decode cX4_line 0 = .ok (.iload_n 1, 1) := by decide +kernel
theorem dX4_line_1 : decode cX4_line 1 = .ok (.invokestatic 76, 3) := by decide +kernel
theorem dX4_line_4 : decode cX4_line 4 = .ok (.iload_n 2, 1) := by decide +kernel
theorem dX4_line_5 : decode cX4_line 5 = .ok (.invokestatic 76, 3) := by decide +kernel
theorem dX4_line_8 : decode cX4_line 8 = .ok (.iload_n 3, 1) := by decide +kernel
theorem dX4_line_9 : decode cX4_line 9 = .ok (.iconst 1, 1) := by decide +kernel
theorem dX4_line_10 : decode cX4_line 10 = .ok (.if_icmp .lt 10, 3) := by decide +kernel
theorem dX4_line_13 : decode cX4_line 13 = .ok (.iload_n 3, 1) := by decide +kernel
theorem dX4_line_14 : decode cX4_line 14 = .ok (.sipush 999, 3) := by decide +kernel
theorem dX4_line_17 : decode cX4_line 17 = .ok (.if_icmp .le 13, 3) := by decide +kernel
theorem dX4_line_20 : decode cX4_line 20 = .ok (.new 80, 3) := by decide +kernel
theorem dX4_line_23 : decode cX4_line 23 = .ok (.dup, 1) := by decide +kernel
theorem dX4_line_24 : decode cX4_line 24 = .ok (.ldc 82, 2) := by decide +kernel
theorem dX4_line_26 : decode cX4_line 26 = .ok (.invokespecial 84, 3) := by decide +kernel
theorem dX4_line_29 : decode cX4_line 29 = .ok (.athrow, 1) := by decide +kernel
theorem dX4_line_30 : decode cX4_line 30 = .ok (.iload_n 1, 1) := by decide +kernel
theorem dX4_line_31 : decode cX4_line 31 = .ok (.iload_n 3, 1) := by decide +kernel
theorem dX4_line_32 : decode cX4_line 32 = .ok (.iadd, 1) := by decide +kernel
theorem dX4_line_33 : decode cX4_line 33 = .ok (.iconst 1, 1) := by decide +kernel
theorem dX4_line_34 : decode cX4_line 34 = .ok (.isub, 1) := by decide +kernel
theorem dX4_line_35 : decode cX4_line 35 = .ok (.invokestatic 76, 3) := by decide +kernel
theorem dX4_line_38 : decode cX4_line 38 = .ok (.iload_n 2, 1) := by decide +kernel
theorem dX4_line_39 : decode cX4_line 39 = .ok (.iload_n 3, 1) := by decide +kernel
theorem dX4_line_40 : decode cX4_line 40 = .ok (.iadd, 1) := by decide +kernel
theorem dX4_line_41 : decode cX4_line 41 = .ok (.iconst 1, 1) := by decide +kernel
theorem dX4_line_42 : decode cX4_line 42 = .ok (.isub, 1) := by decide +kernel
theorem dX4_line_43 : decode cX4_line 43 = .ok (.invokestatic 76, 3) := by decide +kernel
theorem dX4_line_46 : decode cX4_line 46 = .ok (.aload_n 0, 1) := by decide +kernel
theorem dX4_line_47 : decode cX4_line 47 = .ok (.getfield 43, 3) := by decide +kernel
theorem dX4_line_50 : decode cX4_line 50 = .ok (.invokestatic 85, 3) := by decide +kernel
theorem dX4_line_53 : decode cX4_line 53 = .ok (.istore 4, 2) := by decide +kernel
theorem dX4_line_55 : decode cX4_line 55 = .ok (.iload 4, 2) := by decide +kernel
theorem dX4_line_57 : decode cX4_line 57 = .ok (.iconst 3, 1) := by decide +kernel
theorem dX4_line_58 : decode cX4_line 58 = .ok (.if_icmp .lt 13, 3) := by decide +kernel
theorem dX4_line_61 : decode cX4_line 61 = .ok (.new 57, 3) := by decide +kernel
theorem dX4_line_64 : decode cX4_line 64 = .ok (.dup, 1) := by decide +kernel
theorem dX4_line_65 : decode cX4_line 65 = .ok (.ldc 89, 2) := by decide +kernel
theorem dX4_line_67 : decode cX4_line 67 = .ok (.invokespecial 61, 3) := by decide +kernel
theorem dX4_line_70 : decode cX4_line 70 = .ok (.athrow, 1) := by decide +kernel
theorem dX4_line_71 : decode cX4_line 71 = .ok (.aload_n 0, 1) := by decide +kernel
theorem dX4_line_72 : decode cX4_line 72 = .ok (.new 91, 3) := by decide +kernel
theorem dX4_line_75 : decode cX4_line 75 = .ok (.dup, 1) := by decide +kernel
theorem dX4_line_76 : decode cX4_line 76 = .ok (.iload_n 1, 1) := by decide +kernel
theorem dX4_line_77 : decode cX4_line 77 = .ok (.iload_n 2, 1) := by decide +kernel
theorem dX4_line_78 : decode cX4_line 78 = .ok (.iload_n 3, 1) := by decide +kernel
theorem dX4_line_79 : decode cX4_line 79 = .ok (.aload_n 0, 1) := by decide +kernel
theorem dX4_line_80 : decode cX4_line 80 = .ok (.getfield 43, 3) := by decide +kernel
theorem dX4_line_83 : decode cX4_line 83 = .ok (.invokespecial 93, 3) := by decide +kernel
theorem dX4_line_86 : decode cX4_line 86 = .ok (.putfield 43, 3) := by decide +kernel
theorem dX4_line_89 : decode cX4_line 89 = .ok (.iload 4, 2) := by decide +kernel
theorem dX4_line_91 : decode cX4_line 91 = .ok (.iconst 1, 1) := by decide +kernel
theorem dX4_line_92 : decode cX4_line 92 = .ok (.iadd, 1) := by decide +kernel
theorem dX4_line_93 : decode cX4_line 93 = .ok (.ireturn, 1) := by decide +kernel
theorem dX4_writeMap_0 : decode cX4_writeMap 0 = .ok (.aload_n 0, 1) := by decide +kernel
theorem dX4_writeMap_1 : decode cX4_writeMap 1 = .ok (.iload_n 1, 1) := by decide +kernel
theorem dX4_writeMap_2 : decode cX4_writeMap 2 = .ok (.invokevirtual 53, 3) := by decide +kernel
theorem dX4_writeMap_5 : decode cX4_writeMap 5 = .ok (.astore_n 3, 1) := by decide +kernel
theorem dX4_writeMap_6 : decode cX4_writeMap 6 = .ok (.aload_n 0, 1) := by decide +kernel
theorem dX4_writeMap_7 : decode cX4_writeMap 7 = .ok (.iload_n 2, 1) := by decide +kernel
theorem dX4_writeMap_8 : decode cX4_writeMap 8 = .ok (.invokevirtual 96, 3) := by decide +kernel
theorem dX4_writeMap_11 : decode cX4_writeMap 11 = .ok (.astore 4, 2) := by decide +kernel
theorem dX4_writeMap_13 : decode cX4_writeMap 13 = .ok (.aload 4, 2) := by decide +kernel
theorem dX4_writeMap_15 : decode cX4_writeMap 15 = .ok (.getfield 100, 3) := by decide +kernel
theorem dX4_writeMap_18 : decode cX4_writeMap 18 = .ok (.astore 5, 2) := by decide +kernel
theorem dX4_writeMap_20 : decode cX4_writeMap 20 = .ok (.aload 5, 2) := by decide +kernel
theorem dX4_writeMap_22 : decode cX4_writeMap 22 = .ok (.ifnonnull 13, 3) := by decide +kernel
theorem dX4_writeMap_25 : decode cX4_writeMap 25 = .ok (.new 103, 3) := by decide +kernel
theorem dX4_writeMap_28 : decode cX4_writeMap 28 = .ok (.dup, 1) := by decide +kernel
theorem dX4_writeMap_29 : decode cX4_writeMap 29 = .ok (.ldc 105, 2) := by decide +kernel
theorem dX4_writeMap_31 : decode cX4_writeMap 31 = .ok (.invokespecial 107, 3) := by decide +kernel
theorem dX4_writeMap_34 : decode cX4_writeMap 34 = .ok (.athrow, 1) := by decide +kernel
theorem dX4_writeMap_35 : decode cX4_writeMap 35 = .ok (.aload_n 0, 1) := by decide +kernel
theorem dX4_writeMap_36 : decode cX4_writeMap 36 = .ok (.getfield 43, 3) := by decide +kernel
theorem dX4_writeMap_39 : decode cX4_writeMap 39 = .ok (.astore 6, 2) := by decide +kernel
theorem dX4_writeMap_41 : decode cX4_writeMap 41 = .ok (.aload_n 0, 1) := by decide +kernel
theorem dX4_writeMap_42 : decode cX4_writeMap 42 = .ok (.aconst_null, 1) := by decide +kernel
theorem dX4_writeMap_43 : decode cX4_writeMap 43 = .ok (.putfield 43, 3) := by decide +kernel
theorem dX4_writeMap_46 : decode cX4_writeMap 46 = .ok (.aload 4, 2) := by decide +kernel
theorem dX4_writeMap_48 : decode cX4_writeMap 48 = .ok (.getfield 108, 3) := by decide +kernel
theorem dX4_writeMap_51 : decode cX4_writeMap 51 = .ok (.ifnull 10, 3) := by decide +kernel
theorem dX4_writeMap_54 : decode cX4_writeMap 54 = .ok (.aload_n 0, 1) := by decide +kernel
theorem dX4_writeMap_55 : decode cX4_writeMap 55 = .ok (.bipush (-4), 2) := by decide +kernel
theorem dX4_writeMap_57 : decode cX4_writeMap 57 = .ok (.invokevirtual 111, 3) := by decide +kernel
theorem dX4_writeMap_60 : decode cX4_writeMap 60 = .ok (.ireturn, 1) := by decide +kernel
theorem dX4_writeMap_61 : decode cX4_writeMap 61 = .ok (.aload 6, 2) := by decide +kernel
theorem dX4_writeMap_63 : decode cX4_writeMap 63 = .ok (.ifnull 11, 3) := by decide +kernel
theorem dX4_writeMap_66 : decode cX4_writeMap 66 = .ok (.aload 6, 2) := by decide +kernel
theorem dX4_writeMap_68 : decode cX4_writeMap 68 = .ok (.invokestatic 115, 3) := by decide +kernel
theorem dX4_writeMap_71 : decode cX4_writeMap 71 = .ok (.ifCond .eq 10, 3) := by decide +kernel
theorem dX4_writeMap_74 : decode cX4_writeMap 74 = .ok (.aload_n 0, 1) := by decide +kernel
theorem dX4_writeMap_75 : decode cX4_writeMap 75 = .ok (.bipush (-3), 2) := by decide +kernel
theorem dX4_writeMap_77 : decode cX4_writeMap 77 = .ok (.invokevirtual 111, 3) := by decide +kernel
theorem dX4_writeMap_80 : decode cX4_writeMap 80 = .ok (.ireturn, 1) := by decide +kernel
theorem dX4_writeMap_81 : decode cX4_writeMap 81 = .ok (.aload 6, 2) := by decide +kernel
theorem dX4_writeMap_83 : decode cX4_writeMap 83 = .ok (.aload 5, 2) := by decide +kernel
theorem dX4_writeMap_85 : decode cX4_writeMap 85 = .ok (.invokestatic 119, 3) := by decide +kernel
theorem dX4_writeMap_88 : decode cX4_writeMap 88 = .ok (.ifCond .ne 10, 3) := by decide +kernel
theorem dX4_writeMap_91 : decode cX4_writeMap 91 = .ok (.aload_n 0, 1) := by decide +kernel
theorem dX4_writeMap_92 : decode cX4_writeMap 92 = .ok (.bipush (-2), 2) := by decide +kernel
theorem dX4_writeMap_94 : decode cX4_writeMap 94 = .ok (.invokevirtual 111, 3) := by decide +kernel
theorem dX4_writeMap_97 : decode cX4_writeMap 97 = .ok (.ireturn, 1) := by decide +kernel
theorem dX4_writeMap_98 : decode cX4_writeMap 98 = .ok (.aload 6, 2) := by decide +kernel
theorem dX4_writeMap_100 : decode cX4_writeMap 100 = .ok (.invokevirtual 123, 3) := by decide +kernel
theorem dX4_writeMap_103 : decode cX4_writeMap 103 = .ok (.ifCond .eq 36, 3) := by decide +kernel
theorem dX4_writeMap_106 : decode cX4_writeMap 106 = .ok (.aload_n 3, 1) := by decide +kernel
theorem dX4_writeMap_107 : decode cX4_writeMap 107 = .ok (.getfield 68, 3) := by decide +kernel
theorem dX4_writeMap_110 : decode cX4_writeMap 110 = .ok (.aload 4, 2) := by decide +kernel
theorem dX4_writeMap_112 : decode cX4_writeMap 112 = .ok (.getfield 127, 3) := by decide +kernel
theorem dX4_writeMap_115 : decode cX4_writeMap 115 = .ok (.if_icmp .ne 24, 3) := by decide +kernel
theorem dX4_writeMap_118 : decode cX4_writeMap 118 = .ok (.aload 5, 2) := by decide +kernel
theorem dX4_writeMap_120 : decode cX4_writeMap 120 = .ok (.aload 6, 2) := by decide +kernel
theorem dX4_writeMap_122 : decode cX4_writeMap 122 = .ok (.getfield 130, 3) := by decide +kernel
theorem dX4_writeMap_125 : decode cX4_writeMap 125 = .ok (.invokestatic 132, 3) := by decide +kernel
theorem dX4_writeMap_128 : decode cX4_writeMap 128 = .ok (.aload_n 3, 1) := by decide +kernel
theorem dX4_writeMap_129 : decode cX4_writeMap 129 = .ok (.getfield 68, 3) := by decide +kernel
theorem dX4_writeMap_132 : decode cX4_writeMap 132 = .ok (.if_icmp .ne 7, 3) := by decide +kernel
theorem dX4_writeMap_135 : decode cX4_writeMap 135 = .ok (.iconst 1, 1) := by decide +kernel
theorem dX4_writeMap_136 : decode cX4_writeMap 136 = .ok (.goto 4, 3) := by decide +kernel
theorem dX4_writeMap_139 : decode cX4_writeMap 139 = .ok (.iconst 0, 1) := by decide +kernel
theorem dX4_writeMap_140 : decode cX4_writeMap 140 = .ok (.istore 7, 2) := by decide +kernel
theorem dX4_writeMap_142 : decode cX4_writeMap 142 = .ok (.iload 7, 2) := by decide +kernel
theorem dX4_writeMap_144 : decode cX4_writeMap 144 = .ok (.ifCond .ne 20, 3) := by decide +kernel
theorem dX4_writeMap_147 : decode cX4_writeMap 147 = .ok (.aload_n 3, 1) := by decide +kernel
theorem dX4_writeMap_148 : decode cX4_writeMap 148 = .ok (.bipush 8, 2) := by decide +kernel
theorem dX4_writeMap_150 : decode cX4_writeMap 150 = .ok (.aload 5, 2) := by decide +kernel
theorem dX4_writeMap_152 : decode cX4_writeMap 152 = .ok (.invokevirtual 136, 3) := by decide +kernel
theorem dX4_writeMap_155 : decode cX4_writeMap 155 = .ok (.ifCond .ne 9, 3) := by decide +kernel
theorem dX4_writeMap_158 : decode cX4_writeMap 158 = .ok (.aload_n 0, 1) := by decide +kernel
theorem dX4_writeMap_159 : decode cX4_writeMap 159 = .ok (.iconst (-1), 1) := by decide +kernel
theorem dX4_writeMap_160 : decode cX4_writeMap 160 = .ok (.invokevirtual 111, 3) := by decide +kernel
theorem dX4_writeMap_163 : decode cX4_writeMap 163 = .ok (.ireturn, 1) := by decide +kernel
theorem dX4_writeMap_164 : decode cX4_writeMap 164 = .ok (.aload 4, 2) := by decide +kernel
theorem dX4_writeMap_166 : decode cX4_writeMap 166 = .ok (.aload 6, 2) := by decide +kernel
theorem dX4_writeMap_168 : decode cX4_writeMap 168 = .ok (.putfield 108, 3) := by decide +kernel
theorem dX4_writeMap_171 : decode cX4_writeMap 171 = .ok (.aload 6, 2) := by decide +kernel
theorem dX4_writeMap_173 : decode cX4_writeMap 173 = .ok (.invokestatic 85, 3) := by decide +kernel
theorem dX4_writeMap_176 : decode cX4_writeMap 176 = .ok (.ireturn, 1) := by decide +kernel
theorem dX4_rooms_0 : decode cX4_rooms 0 = .ok (.aload_n 0, 1) := by decide +kernel
theorem dX4_rooms_1 : decode cX4_rooms 1 = .ok (.getfield 18, 3) := by decide +kernel
theorem dX4_rooms_4 : decode cX4_rooms 4 = .ok (.ireturn, 1) := by decide +kernel
theorem dX4_outerOf_0 : decode cX4_outerOf 0 = .ok (.aload_n 0, 1) := by decide +kernel
theorem dX4_outerOf_1 : decode cX4_outerOf 1 = .ok (.iload_n 1, 1) := by decide +kernel
theorem dX4_outerOf_2 : decode cX4_outerOf 2 = .ok (.invokevirtual 96, 3) := by decide +kernel
theorem dX4_outerOf_5 : decode cX4_outerOf 5 = .ok (.getfield 100, 3) := by decide +kernel
theorem dX4_outerOf_8 : decode cX4_outerOf 8 = .ok (.invokestatic 140, 3) := by decide +kernel
theorem dX4_outerOf_11 : decode cX4_outerOf 11 = .ok (.ireturn, 1) := by decide +kernel
theorem dX4_leadsTo_0 : decode cX4_leadsTo 0 = .ok (.aload_n 0, 1) := by decide +kernel
theorem dX4_leadsTo_1 : decode cX4_leadsTo 1 = .ok (.iload_n 1, 1) := by decide +kernel
theorem dX4_leadsTo_2 : decode cX4_leadsTo 2 = .ok (.invokevirtual 96, 3) := by decide +kernel
theorem dX4_leadsTo_5 : decode cX4_leadsTo 5 = .ok (.astore_n 3, 1) := by decide +kernel
theorem dX4_leadsTo_6 : decode cX4_leadsTo 6 = .ok (.iload_n 2, 1) := by decide +kernel
theorem dX4_leadsTo_7 : decode cX4_leadsTo 7 = .ok (.invokestatic 76, 3) := by decide +kernel
theorem dX4_leadsTo_10 : decode cX4_leadsTo 10 = .ok (.aload_n 3, 1) := by decide +kernel
theorem dX4_leadsTo_11 : decode cX4_leadsTo 11 = .ok (.iload_n 2, 1) := by decide +kernel
theorem dX4_leadsTo_12 : decode cX4_leadsTo 12 = .ok (.invokestatic 132, 3) := by decide +kernel
theorem dX4_leadsTo_15 : decode cX4_leadsTo 15 = .ok (.ireturn, 1) := by decide +kernel
theorem dX4_seenAs_0 : decode cX4_seenAs 0 = .ok (.aload_n 0, 1) := by decide +kernel
theorem dX4_seenAs_1 : decode cX4_seenAs 1 = .ok (.iload_n 1, 1) := by decide +kernel
theorem dX4_seenAs_2 : decode cX4_seenAs 2 = .ok (.invokevirtual 96, 3) := by decide +kernel
theorem dX4_seenAs_5 : decode cX4_seenAs 5 = .ok (.astore_n 3, 1) := by decide +kernel
theorem dX4_seenAs_6 : decode cX4_seenAs 6 = .ok (.iload_n 2, 1) := by decide +kernel
theorem dX4_seenAs_7 : decode cX4_seenAs 7 = .ok (.invokestatic 76, 3) := by decide +kernel
theorem dX4_seenAs_10 : decode cX4_seenAs 10 = .ok (.aload_n 0, 1) := by decide +kernel
theorem dX4_seenAs_11 : decode cX4_seenAs 11 = .ok (.aload_n 3, 1) := by decide +kernel
theorem dX4_seenAs_12 : decode cX4_seenAs 12 = .ok (.iload_n 2, 1) := by decide +kernel
theorem dX4_seenAs_13 : decode cX4_seenAs 13 = .ok (.invokevirtual 144, 3) := by decide +kernel
theorem dX4_seenAs_16 : decode cX4_seenAs 16 = .ok (.ireturn, 1) := by decide +kernel
theorem dX4_seenByLeading_0 : decode cX4_seenByLeading 0 = .ok (.aload_n 0, 1) := by decide +kernel
theorem dX4_seenByLeading_1 : decode cX4_seenByLeading 1 = .ok (.iload_n 1, 1) := by decide +kernel
theorem dX4_seenByLeading_2 : decode cX4_seenByLeading 2 = .ok (.invokevirtual 96, 3) := by decide +kernel
theorem dX4_seenByLeading_5 : decode cX4_seenByLeading 5 = .ok (.astore_n 3, 1) := by decide +kernel
theorem dX4_seenByLeading_6 : decode cX4_seenByLeading 6 = .ok (.iload_n 2, 1) := by decide +kernel
theorem dX4_seenByLeading_7 : decode cX4_seenByLeading 7 = .ok (.invokestatic 76, 3) := by decide +kernel
theorem dX4_seenByLeading_10 : decode cX4_seenByLeading 10 = .ok (.iconst 0, 1) := by decide +kernel
theorem dX4_seenByLeading_11 : decode cX4_seenByLeading 11 = .ok (.istore 4, 2) := by decide +kernel
theorem dX4_seenByLeading_13 : decode cX4_seenByLeading 13 = .ok (.iload 4, 2) := by decide +kernel
theorem dX4_seenByLeading_15 : decode cX4_seenByLeading 15 = .ok (.sipush 998, 3) := by decide +kernel
theorem dX4_seenByLeading_18 : decode cX4_seenByLeading 18 = .ok (.if_icmp .gt 22, 3) := by decide +kernel
theorem dX4_seenByLeading_21 : decode cX4_seenByLeading 21 = .ok (.aload_n 3, 1) := by decide +kernel
theorem dX4_seenByLeading_22 : decode cX4_seenByLeading 22 = .ok (.iload 4, 2) := by decide +kernel
theorem dX4_seenByLeading_24 : decode cX4_seenByLeading 24 = .ok (.invokestatic 132, 3) := by decide +kernel
theorem dX4_seenByLeading_27 : decode cX4_seenByLeading 27 = .ok (.iload_n 2, 1) := by decide +kernel
theorem dX4_seenByLeading_28 : decode cX4_seenByLeading 28 = .ok (.if_icmp .ne 6, 3) := by decide +kernel
theorem dX4_seenByLeading_31 : decode cX4_seenByLeading 31 = .ok (.iload 4, 2) := by decide +kernel
theorem dX4_seenByLeading_33 : decode cX4_seenByLeading 33 = .ok (.ireturn, 1) := by decide +kernel
theorem dX4_seenByLeading_34 : decode cX4_seenByLeading 34 = .ok (.iinc 4 1, 3) := by decide +kernel
theorem dX4_seenByLeading_37 : decode cX4_seenByLeading 37 = .ok (.goto (-24), 3) := by decide +kernel
theorem dX4_seenByLeading_40 : decode cX4_seenByLeading 40 = .ok (.sipush 999, 3) := by decide +kernel
theorem dX4_seenByLeading_43 : decode cX4_seenByLeading 43 = .ok (.ireturn, 1) := by decide +kernel
theorem dX4_fork_0 : decode cX4_fork 0 = .ok (.aload_n 0, 1) := by decide +kernel
theorem dX4_fork_1 : decode cX4_fork 1 = .ok (.iload_n 1, 1) := by decide +kernel
theorem dX4_fork_2 : decode cX4_fork 2 = .ok (.invokevirtual 53, 3) := by decide +kernel
theorem dX4_fork_5 : decode cX4_fork 5 = .ok (.astore_n 2, 1) := by decide +kernel
theorem dX4_fork_6 : decode cX4_fork 6 = .ok (.aload_n 0, 1) := by decide +kernel
theorem dX4_fork_7 : decode cX4_fork 7 = .ok (.getfield 31, 3) := by decide +kernel
theorem dX4_fork_10 : decode cX4_fork 10 = .ok (.aload_n 0, 1) := by decide +kernel
theorem dX4_fork_11 : decode cX4_fork 11 = .ok (.getfield 24, 3) := by decide +kernel
theorem dX4_fork_14 : decode cX4_fork 14 = .ok (.arraylength, 1) := by decide +kernel
theorem dX4_fork_15 : decode cX4_fork 15 = .ok (.if_icmp .lt 13, 3) := by decide +kernel
theorem dX4_fork_18 : decode cX4_fork 18 = .ok (.new 57, 3) := by decide +kernel
theorem dX4_fork_21 : decode cX4_fork 21 = .ok (.dup, 1) := by decide +kernel
theorem dX4_fork_22 : decode cX4_fork 22 = .ok (.ldc 147, 2) := by decide +kernel
theorem dX4_fork_24 : decode cX4_fork 24 = .ok (.invokespecial 61, 3) := by decide +kernel
theorem dX4_fork_27 : decode cX4_fork 27 = .ok (.athrow, 1) := by decide +kernel
theorem dX4_fork_28 : decode cX4_fork 28 = .ok (.aload_n 0, 1) := by decide +kernel
theorem dX4_fork_29 : decode cX4_fork 29 = .ok (.getfield 31, 3) := by decide +kernel
theorem dX4_fork_32 : decode cX4_fork 32 = .ok (.istore_n 3, 1) := by decide +kernel
theorem dX4_fork_33 : decode cX4_fork 33 = .ok (.aload_n 0, 1) := by decide +kernel
theorem dX4_fork_34 : decode cX4_fork 34 = .ok (.getfield 24, 3) := by decide +kernel
theorem dX4_fork_37 : decode cX4_fork 37 = .ok (.iload_n 3, 1) := by decide +kernel
theorem dX4_fork_38 : decode cX4_fork 38 = .ok (.new 22, 3) := by decide +kernel
theorem dX4_fork_41 : decode cX4_fork 41 = .ok (.dup, 1) := by decide +kernel
theorem dX4_fork_42 : decode cX4_fork 42 = .ok (.aload_n 2, 1) := by decide +kernel
theorem dX4_fork_43 : decode cX4_fork 43 = .ok (.getfield 64, 3) := by decide +kernel
theorem dX4_fork_46 : decode cX4_fork 46 = .ok (.aload_n 2, 1) := by decide +kernel
theorem dX4_fork_47 : decode cX4_fork 47 = .ok (.getfield 68, 3) := by decide +kernel
theorem dX4_fork_50 : decode cX4_fork 50 = .ok (.aload_n 2, 1) := by decide +kernel
theorem dX4_fork_51 : decode cX4_fork 51 = .ok (.getfield 149, 3) := by decide +kernel
theorem dX4_fork_54 : decode cX4_fork 54 = .ok (.invokespecial 28, 3) := by decide +kernel
theorem dX4_fork_57 : decode cX4_fork 57 = .ok (.aastore, 1) := by decide +kernel
theorem dX4_fork_58 : decode cX4_fork 58 = .ok (.aload_n 0, 1) := by decide +kernel
theorem dX4_fork_59 : decode cX4_fork 59 = .ok (.dup, 1) := by decide +kernel
theorem dX4_fork_60 : decode cX4_fork 60 = .ok (.getfield 31, 3) := by decide +kernel
theorem dX4_fork_63 : decode cX4_fork 63 = .ok (.iconst 1, 1) := by decide +kernel
theorem dX4_fork_64 : decode cX4_fork 64 = .ok (.iadd, 1) := by decide +kernel
theorem dX4_fork_65 : decode cX4_fork 65 = .ok (.putfield 31, 3) := by decide +kernel
theorem dX4_fork_68 : decode cX4_fork 68 = .ok (.iload_n 3, 1) := by decide +kernel
theorem dX4_fork_69 : decode cX4_fork 69 = .ok (.ireturn, 1) := by decide +kernel
theorem dX4_drop_0 : decode cX4_drop 0 = .ok (.aload_n 0, 1) := by decide +kernel
theorem dX4_drop_1 : decode cX4_drop 1 = .ok (.iload_n 1, 1) := by decide +kernel
theorem dX4_drop_2 : decode cX4_drop 2 = .ok (.invokevirtual 53, 3) := by decide +kernel
theorem dX4_drop_5 : decode cX4_drop 5 = .ok (.astore_n 3, 1) := by decide +kernel
theorem dX4_drop_6 : decode cX4_drop 6 = .ok (.iload_n 2, 1) := by decide +kernel
theorem dX4_drop_7 : decode cX4_drop 7 = .ok (.ifCond .lt 9, 3) := by decide +kernel
theorem dX4_drop_10 : decode cX4_drop 10 = .ok (.iload_n 2, 1) := by decide +kernel
theorem dX4_drop_11 : decode cX4_drop 11 = .ok (.bipush 15, 2) := by decide +kernel
theorem dX4_drop_13 : decode cX4_drop 13 = .ok (.if_icmp .le 13, 3) := by decide +kernel
theorem dX4_drop_16 : decode cX4_drop 16 = .ok (.new 80, 3) := by decide +kernel
theorem dX4_drop_19 : decode cX4_drop 19 = .ok (.dup, 1) := by decide +kernel
theorem dX4_drop_20 : decode cX4_drop 20 = .ok (.ldc 152, 2) := by decide +kernel
theorem dX4_drop_22 : decode cX4_drop 22 = .ok (.invokespecial 84, 3) := by decide +kernel
theorem dX4_drop_25 : decode cX4_drop 25 = .ok (.athrow, 1) := by decide +kernel
theorem dX4_drop_26 : decode cX4_drop 26 = .ok (.aload_n 3, 1) := by decide +kernel
theorem dX4_drop_27 : decode cX4_drop 27 = .ok (.dup, 1) := by decide +kernel
theorem dX4_drop_28 : decode cX4_drop 28 = .ok (.getfield 149, 3) := by decide +kernel
theorem dX4_drop_31 : decode cX4_drop 31 = .ok (.iload_n 2, 1) := by decide +kernel
theorem dX4_drop_32 : decode cX4_drop 32 = .ok (.iconst (-1), 1) := by decide +kernel
theorem dX4_drop_33 : decode cX4_drop 33 = .ok (.ixor, 1) := by decide +kernel
theorem dX4_drop_34 : decode cX4_drop 34 = .ok (.iand, 1) := by decide +kernel
theorem dX4_drop_35 : decode cX4_drop 35 = .ok (.putfield 149, 3) := by decide +kernel
theorem dX4_drop_38 : decode cX4_drop 38 = .ok (.aload_n 3, 1) := by decide +kernel
theorem dX4_drop_39 : decode cX4_drop 39 = .ok (.getfield 149, 3) := by decide +kernel
theorem dX4_drop_42 : decode cX4_drop 42 = .ok (.ireturn, 1) := by decide +kernel
theorem dX4_enter_0 : decode cX4_enter 0 = .ok (.aload_n 0, 1) := by decide +kernel
theorem dX4_enter_1 : decode cX4_enter 1 = .ok (.iload_n 1, 1) := by decide +kernel
theorem dX4_enter_2 : decode cX4_enter 2 = .ok (.invokevirtual 53, 3) := by decide +kernel
theorem dX4_enter_5 : decode cX4_enter 5 = .ok (.astore_n 3, 1) := by decide +kernel
theorem dX4_enter_6 : decode cX4_enter 6 = .ok (.aload_n 0, 1) := by decide +kernel
theorem dX4_enter_7 : decode cX4_enter 7 = .ok (.iload_n 2, 1) := by decide +kernel
theorem dX4_enter_8 : decode cX4_enter 8 = .ok (.invokevirtual 96, 3) := by decide +kernel
theorem dX4_enter_11 : decode cX4_enter 11 = .ok (.astore 4, 2) := by decide +kernel
theorem dX4_enter_13 : decode cX4_enter 13 = .ok (.aload 4, 2) := by decide +kernel
theorem dX4_enter_15 : decode cX4_enter 15 = .ok (.getfield 100, 3) := by decide +kernel
theorem dX4_enter_18 : decode cX4_enter 18 = .ok (.aload_n 3, 1) := by decide +kernel
theorem dX4_enter_19 : decode cX4_enter 19 = .ok (.getfield 64, 3) := by decide +kernel
theorem dX4_enter_22 : decode cX4_enter 22 = .ok (.invokestatic 154, 3) := by decide +kernel
theorem dX4_enter_25 : decode cX4_enter 25 = .ok (.ifCond .ne 10, 3) := by decide +kernel
theorem dX4_enter_28 : decode cX4_enter 28 = .ok (.aload_n 0, 1) := by decide +kernel
theorem dX4_enter_29 : decode cX4_enter 29 = .ok (.bipush (-5), 2) := by decide +kernel
theorem dX4_enter_31 : decode cX4_enter 31 = .ok (.invokevirtual 111, 3) := by decide +kernel
theorem dX4_enter_34 : decode cX4_enter 34 = .ok (.ireturn, 1) := by decide +kernel
theorem dX4_enter_35 : decode cX4_enter 35 = .ok (.aload_n 3, 1) := by decide +kernel
theorem dX4_enter_36 : decode cX4_enter 36 = .ok (.iconst 1, 1) := by decide +kernel
theorem dX4_enter_37 : decode cX4_enter 37 = .ok (.aload 4, 2) := by decide +kernel
theorem dX4_enter_39 : decode cX4_enter 39 = .ok (.invokevirtual 136, 3) := by decide +kernel
theorem dX4_enter_42 : decode cX4_enter 42 = .ok (.ifCond .ne 9, 3) := by decide +kernel
theorem dX4_enter_45 : decode cX4_enter 45 = .ok (.aload_n 0, 1) := by decide +kernel
theorem dX4_enter_46 : decode cX4_enter 46 = .ok (.iconst (-1), 1) := by decide +kernel
theorem dX4_enter_47 : decode cX4_enter 47 = .ok (.invokevirtual 111, 3) := by decide +kernel
theorem dX4_enter_50 : decode cX4_enter 50 = .ok (.ireturn, 1) := by decide +kernel
theorem dX4_enter_51 : decode cX4_enter 51 = .ok (.aload_n 3, 1) := by decide +kernel
theorem dX4_enter_52 : decode cX4_enter 52 = .ok (.aload 4, 2) := by decide +kernel
theorem dX4_enter_54 : decode cX4_enter 54 = .ok (.invokevirtual 71, 3) := by decide +kernel
theorem dX4_enter_57 : decode cX4_enter 57 = .ok (.aload_n 3, 1) := by decide +kernel
theorem dX4_enter_58 : decode cX4_enter 58 = .ok (.getfield 149, 3) := by decide +kernel
theorem dX4_enter_61 : decode cX4_enter 61 = .ok (.ireturn, 1) := by decide +kernel
theorem dX4_setNumber_0 : decode cX4_setNumber 0 = .ok (.aload_n 0, 1) := by decide +kernel
theorem dX4_setNumber_1 : decode cX4_setNumber 1 = .ok (.iload_n 1, 1) := by decide +kernel
theorem dX4_setNumber_2 : decode cX4_setNumber 2 = .ok (.invokevirtual 53, 3) := by decide +kernel
theorem dX4_setNumber_5 : decode cX4_setNumber 5 = .ok (.astore_n 3, 1) := by decide +kernel
theorem dX4_setNumber_6 : decode cX4_setNumber 6 = .ok (.iload_n 2, 1) := by decide +kernel
theorem dX4_setNumber_7 : decode cX4_setNumber 7 = .ok (.invokestatic 76, 3) := by decide +kernel
theorem dX4_setNumber_10 : decode cX4_setNumber 10 = .ok (.aload_n 3, 1) := by decide +kernel
theorem dX4_setNumber_11 : decode cX4_setNumber 11 = .ok (.getfield 64, 3) := by decide +kernel
theorem dX4_setNumber_14 : decode cX4_setNumber 14 = .ok (.iload_n 2, 1) := by decide +kernel
theorem dX4_setNumber_15 : decode cX4_setNumber 15 = .ok (.invokestatic 132, 3) := by decide +kernel
theorem dX4_setNumber_18 : decode cX4_setNumber 18 = .ok (.istore 4, 2) := by decide +kernel
theorem dX4_setNumber_20 : decode cX4_setNumber 20 = .ok (.iload 4, 2) := by decide +kernel
theorem dX4_setNumber_22 : decode cX4_setNumber 22 = .ok (.iconst (-1), 1) := by decide +kernel
theorem dX4_setNumber_23 : decode cX4_setNumber 23 = .ok (.if_icmp .ne 10, 3) := by decide +kernel
theorem dX4_setNumber_26 : decode cX4_setNumber 26 = .ok (.aload_n 0, 1) := by decide +kernel
theorem dX4_setNumber_27 : decode cX4_setNumber 27 = .ok (.bipush (-2), 2) := by decide +kernel
theorem dX4_setNumber_29 : decode cX4_setNumber 29 = .ok (.invokevirtual 111, 3) := by decide +kernel
theorem dX4_setNumber_32 : decode cX4_setNumber 32 = .ok (.ireturn, 1) := by decide +kernel
theorem dX4_setNumber_33 : decode cX4_setNumber 33 = .ok (.iload 4, 2) := by decide +kernel
theorem dX4_setNumber_35 : decode cX4_setNumber 35 = .ok (.aload_n 3, 1) := by decide +kernel
theorem dX4_setNumber_36 : decode cX4_setNumber 36 = .ok (.getfield 68, 3) := by decide +kernel
theorem dX4_setNumber_39 : decode cX4_setNumber 39 = .ok (.if_icmp .eq 22, 3) := by decide +kernel
theorem dX4_setNumber_42 : decode cX4_setNumber 42 = .ok (.aload_n 3, 1) := by decide +kernel
theorem dX4_setNumber_43 : decode cX4_setNumber 43 = .ok (.bipush 8, 2) := by decide +kernel
theorem dX4_setNumber_45 : decode cX4_setNumber 45 = .ok (.aload_n 3, 1) := by decide +kernel
theorem dX4_setNumber_46 : decode cX4_setNumber 46 = .ok (.getfield 64, 3) := by decide +kernel
theorem dX4_setNumber_49 : decode cX4_setNumber 49 = .ok (.invokevirtual 136, 3) := by decide +kernel
theorem dX4_setNumber_52 : decode cX4_setNumber 52 = .ok (.ifCond .ne 9, 3) := by decide +kernel
theorem dX4_setNumber_55 : decode cX4_setNumber 55 = .ok (.aload_n 0, 1) := by decide +kernel
theorem dX4_setNumber_56 : decode cX4_setNumber 56 = .ok (.iconst (-1), 1) := by decide +kernel
theorem dX4_setNumber_57 : decode cX4_setNumber 57 = .ok (.invokevirtual 111, 3) := by decide +kernel
theorem dX4_setNumber_60 : decode cX4_setNumber 60 = .ok (.ireturn, 1) := by decide +kernel
theorem dX4_setNumber_61 : decode cX4_setNumber 61 = .ok (.iload_n 2, 1) := by decide +kernel
theorem dX4_setNumber_62 : decode cX4_setNumber 62 = .ok (.ifCond .eq 23, 3) := by decide +kernel
theorem dX4_setNumber_65 : decode cX4_setNumber 65 = .ok (.aload_n 0, 1) := by decide +kernel
theorem dX4_setNumber_66 : decode cX4_setNumber 66 = .ok (.aload_n 3, 1) := by decide +kernel
theorem dX4_setNumber_67 : decode cX4_setNumber 67 = .ok (.getfield 64, 3) := by decide +kernel
theorem dX4_setNumber_70 : decode cX4_setNumber 70 = .ok (.aload_n 3, 1) := by decide +kernel
theorem dX4_setNumber_71 : decode cX4_setNumber 71 = .ok (.getfield 68, 3) := by decide +kernel
theorem dX4_setNumber_74 : decode cX4_setNumber 74 = .ok (.invokevirtual 144, 3) := by decide +kernel
theorem dX4_setNumber_77 : decode cX4_setNumber 77 = .ok (.ifCond .ne 8, 3) := by decide +kernel
theorem dX4_setNumber_80 : decode cX4_setNumber 80 = .ok (.aload_n 3, 1) := by decide +kernel
theorem dX4_setNumber_81 : decode cX4_setNumber 81 = .ok (.iconst 0, 1) := by decide +kernel
theorem dX4_setNumber_82 : decode cX4_setNumber 82 = .ok (.putfield 149, 3) := by decide +kernel
theorem dX4_setNumber_85 : decode cX4_setNumber 85 = .ok (.aload_n 3, 1) := by decide +kernel
theorem dX4_setNumber_86 : decode cX4_setNumber 86 = .ok (.iload 4, 2) := by decide +kernel
theorem dX4_setNumber_88 : decode cX4_setNumber 88 = .ok (.putfield 68, 3) := by decide +kernel
theorem dX4_setNumber_91 : decode cX4_setNumber 91 = .ok (.iload 4, 2) := by decide +kernel
theorem dX4_setNumber_93 : decode cX4_setNumber 93 = .ok (.ireturn, 1) := by decide +kernel
theorem dX4_processes_0 : decode cX4_processes 0 = .ok (.aload_n 0, 1) := by decide +kernel
theorem dX4_processes_1 : decode cX4_processes 1 = .ok (.getfield 31, 3) := by decide +kernel
theorem dX4_processes_4 : decode cX4_processes 4 = .ok (.ireturn, 1) := by decide +kernel
theorem dX4_roomOf_0 : decode cX4_roomOf 0 = .ok (.aload_n 0, 1) := by decide +kernel
theorem dX4_roomOf_1 : decode cX4_roomOf 1 = .ok (.iload_n 1, 1) := by decide +kernel
theorem dX4_roomOf_2 : decode cX4_roomOf 2 = .ok (.invokevirtual 53, 3) := by decide +kernel
theorem dX4_roomOf_5 : decode cX4_roomOf 5 = .ok (.getfield 64, 3) := by decide +kernel
theorem dX4_roomOf_8 : decode cX4_roomOf 8 = .ok (.invokestatic 140, 3) := by decide +kernel
theorem dX4_roomOf_11 : decode cX4_roomOf 11 = .ok (.ireturn, 1) := by decide +kernel
theorem dX4_numberOf_0 : decode cX4_numberOf 0 = .ok (.aload_n 0, 1) := by decide +kernel
theorem dX4_numberOf_1 : decode cX4_numberOf 1 = .ok (.iload_n 1, 1) := by decide +kernel
theorem dX4_numberOf_2 : decode cX4_numberOf 2 = .ok (.invokevirtual 53, 3) := by decide +kernel
theorem dX4_numberOf_5 : decode cX4_numberOf 5 = .ok (.getfield 68, 3) := by decide +kernel
theorem dX4_numberOf_8 : decode cX4_numberOf 8 = .ok (.ireturn, 1) := by decide +kernel
theorem dX4_rightsIn_0 : decode cX4_rightsIn 0 = .ok (.aload_n 0, 1) := by decide +kernel
theorem dX4_rightsIn_1 : decode cX4_rightsIn 1 = .ok (.iload_n 1, 1) := by decide +kernel
theorem dX4_rightsIn_2 : decode cX4_rightsIn 2 = .ok (.invokevirtual 53, 3) := by decide +kernel
theorem dX4_rightsIn_5 : decode cX4_rightsIn 5 = .ok (.astore_n 3, 1) := by decide +kernel
theorem dX4_rightsIn_6 : decode cX4_rightsIn 6 = .ok (.aload_n 3, 1) := by decide +kernel
theorem dX4_rightsIn_7 : decode cX4_rightsIn 7 = .ok (.aload_n 0, 1) := by decide +kernel
theorem dX4_rightsIn_8 : decode cX4_rightsIn 8 = .ok (.iload_n 2, 1) := by decide +kernel
theorem dX4_rightsIn_9 : decode cX4_rightsIn 9 = .ok (.invokevirtual 96, 3) := by decide +kernel
theorem dX4_rightsIn_12 : decode cX4_rightsIn 12 = .ok (.invokevirtual 158, 3) := by decide +kernel
theorem dX4_rightsIn_15 : decode cX4_rightsIn 15 = .ok (.ireturn, 1) := by decide +kernel
theorem dX4_makeFile_0 : decode cX4_makeFile 0 = .ok (.aload_n 0, 1) := by decide +kernel
theorem dX4_makeFile_1 : decode cX4_makeFile 1 = .ok (.iload_n 1, 1) := by decide +kernel
theorem dX4_makeFile_2 : decode cX4_makeFile 2 = .ok (.invokevirtual 53, 3) := by decide +kernel
theorem dX4_makeFile_5 : decode cX4_makeFile 5 = .ok (.astore_n 3, 1) := by decide +kernel
theorem dX4_makeFile_6 : decode cX4_makeFile 6 = .ok (.iload_n 2, 1) := by decide +kernel
theorem dX4_makeFile_7 : decode cX4_makeFile 7 = .ok (.ifCond .lt 9, 3) := by decide +kernel
theorem dX4_makeFile_10 : decode cX4_makeFile 10 = .ok (.iload_n 2, 1) := by decide +kernel
theorem dX4_makeFile_11 : decode cX4_makeFile 11 = .ok (.bipush 15, 2) := by decide +kernel
theorem dX4_makeFile_13 : decode cX4_makeFile 13 = .ok (.if_icmp .le 13, 3) := by decide +kernel
theorem dX4_makeFile_16 : decode cX4_makeFile 16 = .ok (.new 80, 3) := by decide +kernel
theorem dX4_makeFile_19 : decode cX4_makeFile 19 = .ok (.dup, 1) := by decide +kernel
theorem dX4_makeFile_20 : decode cX4_makeFile 20 = .ok (.ldc 161, 2) := by decide +kernel
theorem dX4_makeFile_22 : decode cX4_makeFile 22 = .ok (.invokespecial 84, 3) := by decide +kernel
theorem dX4_makeFile_25 : decode cX4_makeFile 25 = .ok (.athrow, 1) := by decide +kernel
theorem dX4_makeFile_26 : decode cX4_makeFile 26 = .ok (.aload_n 0, 1) := by decide +kernel
theorem dX4_makeFile_27 : decode cX4_makeFile 27 = .ok (.getfield 40, 3) := by decide +kernel
theorem dX4_makeFile_30 : decode cX4_makeFile 30 = .ok (.aload_n 0, 1) := by decide +kernel
theorem dX4_makeFile_31 : decode cX4_makeFile 31 = .ok (.getfield 36, 3) := by decide +kernel
theorem dX4_makeFile_34 : decode cX4_makeFile 34 = .ok (.arraylength, 1) := by decide +kernel
theorem dX4_makeFile_35 : decode cX4_makeFile 35 = .ok (.if_icmp .lt 13, 3) := by decide +kernel
theorem dX4_makeFile_38 : decode cX4_makeFile 38 = .ok (.new 57, 3) := by decide +kernel
theorem dX4_makeFile_41 : decode cX4_makeFile 41 = .ok (.dup, 1) := by decide +kernel
theorem dX4_makeFile_42 : decode cX4_makeFile 42 = .ok (.ldc 163, 2) := by decide +kernel
theorem dX4_makeFile_44 : decode cX4_makeFile 44 = .ok (.invokespecial 61, 3) := by decide +kernel
theorem dX4_makeFile_47 : decode cX4_makeFile 47 = .ok (.athrow, 1) := by decide +kernel
theorem dX4_makeFile_48 : decode cX4_makeFile 48 = .ok (.aload_n 0, 1) := by decide +kernel
theorem dX4_makeFile_49 : decode cX4_makeFile 49 = .ok (.aload_n 3, 1) := by decide +kernel
theorem dX4_makeFile_50 : decode cX4_makeFile 50 = .ok (.getfield 64, 3) := by decide +kernel
theorem dX4_makeFile_53 : decode cX4_makeFile 53 = .ok (.aload_n 3, 1) := by decide +kernel
theorem dX4_makeFile_54 : decode cX4_makeFile 54 = .ok (.getfield 68, 3) := by decide +kernel
theorem dX4_makeFile_57 : decode cX4_makeFile 57 = .ok (.invokevirtual 144, 3) := by decide +kernel
theorem dX4_makeFile_60 : decode cX4_makeFile 60 = .ok (.sipush 999, 3) := by decide +kernel
theorem dX4_makeFile_63 : decode cX4_makeFile 63 = .ok (.if_icmp .ne 10, 3) := by decide +kernel
theorem dX4_makeFile_66 : decode cX4_makeFile 66 = .ok (.aload_n 0, 1) := by decide +kernel
theorem dX4_makeFile_67 : decode cX4_makeFile 67 = .ok (.bipush (-2), 2) := by decide +kernel
theorem dX4_makeFile_69 : decode cX4_makeFile 69 = .ok (.invokevirtual 111, 3) := by decide +kernel
theorem dX4_makeFile_72 : decode cX4_makeFile 72 = .ok (.ireturn, 1) := by decide +kernel
theorem dX4_makeFile_73 : decode cX4_makeFile 73 = .ok (.aload_n 0, 1) := by decide +kernel
theorem dX4_makeFile_74 : decode cX4_makeFile 74 = .ok (.getfield 40, 3) := by decide +kernel
theorem dX4_makeFile_77 : decode cX4_makeFile 77 = .ok (.istore 4, 2) := by decide +kernel
theorem dX4_makeFile_79 : decode cX4_makeFile 79 = .ok (.aload_n 0, 1) := by decide +kernel
theorem dX4_makeFile_80 : decode cX4_makeFile 80 = .ok (.getfield 36, 3) := by decide +kernel
theorem dX4_makeFile_83 : decode cX4_makeFile 83 = .ok (.iload 4, 2) := by decide +kernel
theorem dX4_makeFile_85 : decode cX4_makeFile 85 = .ok (.new 34, 3) := by decide +kernel
theorem dX4_makeFile_88 : decode cX4_makeFile 88 = .ok (.dup, 1) := by decide +kernel
theorem dX4_makeFile_89 : decode cX4_makeFile 89 = .ok (.aload_n 3, 1) := by decide +kernel
theorem dX4_makeFile_90 : decode cX4_makeFile 90 = .ok (.getfield 68, 3) := by decide +kernel
theorem dX4_makeFile_93 : decode cX4_makeFile 93 = .ok (.iload_n 2, 1) := by decide +kernel
theorem dX4_makeFile_94 : decode cX4_makeFile 94 = .ok (.invokespecial 165, 3) := by decide +kernel
theorem dX4_makeFile_97 : decode cX4_makeFile 97 = .ok (.aastore, 1) := by decide +kernel
theorem dX4_makeFile_98 : decode cX4_makeFile 98 = .ok (.aload_n 0, 1) := by decide +kernel
theorem dX4_makeFile_99 : decode cX4_makeFile 99 = .ok (.dup, 1) := by decide +kernel
theorem dX4_makeFile_100 : decode cX4_makeFile 100 = .ok (.getfield 40, 3) := by decide +kernel
theorem dX4_makeFile_103 : decode cX4_makeFile 103 = .ok (.iconst 1, 1) := by decide +kernel
theorem dX4_makeFile_104 : decode cX4_makeFile 104 = .ok (.iadd, 1) := by decide +kernel
theorem dX4_makeFile_105 : decode cX4_makeFile 105 = .ok (.putfield 40, 3) := by decide +kernel
theorem dX4_makeFile_108 : decode cX4_makeFile 108 = .ok (.iload 4, 2) := by decide +kernel
theorem dX4_makeFile_110 : decode cX4_makeFile 110 = .ok (.ireturn, 1) := by decide +kernel
theorem dX4_handOver_0 : decode cX4_handOver 0 = .ok (.aload_n 0, 1) := by decide +kernel
theorem dX4_handOver_1 : decode cX4_handOver 1 = .ok (.iload_n 1, 1) := by decide +kernel
theorem dX4_handOver_2 : decode cX4_handOver 2 = .ok (.invokevirtual 53, 3) := by decide +kernel
theorem dX4_handOver_5 : decode cX4_handOver 5 = .ok (.astore 4, 2) := by decide +kernel
theorem dX4_handOver_7 : decode cX4_handOver 7 = .ok (.aload_n 0, 1) := by decide +kernel
theorem dX4_handOver_8 : decode cX4_handOver 8 = .ok (.iload_n 2, 1) := by decide +kernel
theorem dX4_handOver_9 : decode cX4_handOver 9 = .ok (.invokevirtual 168, 3) := by decide +kernel
theorem dX4_handOver_12 : decode cX4_handOver 12 = .ok (.astore 5, 2) := by decide +kernel
theorem dX4_handOver_14 : decode cX4_handOver 14 = .ok (.iload_n 3, 1) := by decide +kernel
theorem dX4_handOver_15 : decode cX4_handOver 15 = .ok (.invokestatic 76, 3) := by decide +kernel
theorem dX4_handOver_18 : decode cX4_handOver 18 = .ok (.aload 4, 2) := by decide +kernel
theorem dX4_handOver_20 : decode cX4_handOver 20 = .ok (.getfield 64, 3) := by decide +kernel
theorem dX4_handOver_23 : decode cX4_handOver 23 = .ok (.iload_n 3, 1) := by decide +kernel
theorem dX4_handOver_24 : decode cX4_handOver 24 = .ok (.invokestatic 132, 3) := by decide +kernel
theorem dX4_handOver_27 : decode cX4_handOver 27 = .ok (.istore 6, 2) := by decide +kernel
theorem dX4_handOver_29 : decode cX4_handOver 29 = .ok (.iload 6, 2) := by decide +kernel
theorem dX4_handOver_31 : decode cX4_handOver 31 = .ok (.iconst (-1), 1) := by decide +kernel
theorem dX4_handOver_32 : decode cX4_handOver 32 = .ok (.if_icmp .eq 23, 3) := by decide +kernel
theorem dX4_handOver_35 : decode cX4_handOver 35 = .ok (.aload_n 0, 1) := by decide +kernel
theorem dX4_handOver_36 : decode cX4_handOver 36 = .ok (.aload 4, 2) := by decide +kernel
theorem dX4_handOver_38 : decode cX4_handOver 38 = .ok (.getfield 64, 3) := by decide +kernel
theorem dX4_handOver_41 : decode cX4_handOver 41 = .ok (.aload 5, 2) := by decide +kernel
theorem dX4_handOver_43 : decode cX4_handOver 43 = .ok (.getfield 172, 3) := by decide +kernel
theorem dX4_handOver_46 : decode cX4_handOver 46 = .ok (.invokevirtual 144, 3) := by decide +kernel
theorem dX4_handOver_49 : decode cX4_handOver 49 = .ok (.sipush 999, 3) := by decide +kernel
theorem dX4_handOver_52 : decode cX4_handOver 52 = .ok (.if_icmp .ne 10, 3) := by decide +kernel
theorem dX4_handOver_55 : decode cX4_handOver 55 = .ok (.aload_n 0, 1) := by decide +kernel
theorem dX4_handOver_56 : decode cX4_handOver 56 = .ok (.bipush (-2), 2) := by decide +kernel
theorem dX4_handOver_58 : decode cX4_handOver 58 = .ok (.invokevirtual 111, 3) := by decide +kernel
theorem dX4_handOver_61 : decode cX4_handOver 61 = .ok (.ireturn, 1) := by decide +kernel
theorem dX4_handOver_62 : decode cX4_handOver 62 = .ok (.aload 4, 2) := by decide +kernel
theorem dX4_handOver_64 : decode cX4_handOver 64 = .ok (.iconst 2, 1) := by decide +kernel
theorem dX4_handOver_65 : decode cX4_handOver 65 = .ok (.aload 4, 2) := by decide +kernel
theorem dX4_handOver_67 : decode cX4_handOver 67 = .ok (.getfield 64, 3) := by decide +kernel
theorem dX4_handOver_70 : decode cX4_handOver 70 = .ok (.invokevirtual 136, 3) := by decide +kernel
theorem dX4_handOver_73 : decode cX4_handOver 73 = .ok (.ifCond .ne 9, 3) := by decide +kernel
theorem dX4_handOver_76 : decode cX4_handOver 76 = .ok (.aload_n 0, 1) := by decide +kernel
theorem dX4_handOver_77 : decode cX4_handOver 77 = .ok (.iconst (-1), 1) := by decide +kernel
theorem dX4_handOver_78 : decode cX4_handOver 78 = .ok (.invokevirtual 111, 3) := by decide +kernel
theorem dX4_handOver_81 : decode cX4_handOver 81 = .ok (.ireturn, 1) := by decide +kernel
theorem dX4_handOver_82 : decode cX4_handOver 82 = .ok (.aload 5, 2) := by decide +kernel
theorem dX4_handOver_84 : decode cX4_handOver 84 = .ok (.iload 6, 2) := by decide +kernel
theorem dX4_handOver_86 : decode cX4_handOver 86 = .ok (.putfield 172, 3) := by decide +kernel
theorem dX4_handOver_89 : decode cX4_handOver 89 = .ok (.iload 6, 2) := by decide +kernel
theorem dX4_handOver_91 : decode cX4_handOver 91 = .ok (.ireturn, 1) := by decide +kernel
theorem dX4_open_0 : decode cX4_open 0 = .ok (.aload_n 0, 1) := by decide +kernel
theorem dX4_open_1 : decode cX4_open 1 = .ok (.iload_n 1, 1) := by decide +kernel
theorem dX4_open_2 : decode cX4_open 2 = .ok (.invokevirtual 53, 3) := by decide +kernel
theorem dX4_open_5 : decode cX4_open 5 = .ok (.astore 4, 2) := by decide +kernel
theorem dX4_open_7 : decode cX4_open 7 = .ok (.aload_n 0, 1) := by decide +kernel
theorem dX4_open_8 : decode cX4_open 8 = .ok (.iload_n 2, 1) := by decide +kernel
theorem dX4_open_9 : decode cX4_open 9 = .ok (.invokevirtual 168, 3) := by decide +kernel
theorem dX4_open_12 : decode cX4_open 12 = .ok (.astore 5, 2) := by decide +kernel
theorem dX4_open_14 : decode cX4_open 14 = .ok (.aload 5, 2) := by decide +kernel
theorem dX4_open_16 : decode cX4_open 16 = .ok (.aload 4, 2) := by decide +kernel
theorem dX4_open_18 : decode cX4_open 18 = .ok (.getfield 68, 3) := by decide +kernel
theorem dX4_open_21 : decode cX4_open 21 = .ok (.iload_n 3, 1) := by decide +kernel
theorem dX4_open_22 : decode cX4_open 22 = .ok (.invokevirtual 173, 3) := by decide +kernel
theorem dX4_open_25 : decode cX4_open 25 = .ok (.ifCond .eq 5, 3) := by decide +kernel
theorem dX4_open_28 : decode cX4_open 28 = .ok (.iconst 1, 1) := by decide +kernel
theorem dX4_open_29 : decode cX4_open 29 = .ok (.ireturn, 1) := by decide +kernel
theorem dX4_open_30 : decode cX4_open 30 = .ok (.aload 4, 2) := by decide +kernel
theorem dX4_open_32 : decode cX4_open 32 = .ok (.iconst 4, 1) := by decide +kernel
theorem dX4_open_33 : decode cX4_open 33 = .ok (.aload 4, 2) := by decide +kernel
theorem dX4_open_35 : decode cX4_open 35 = .ok (.getfield 64, 3) := by decide +kernel
theorem dX4_open_38 : decode cX4_open 38 = .ok (.invokevirtual 136, 3) := by decide +kernel
theorem dX4_open_41 : decode cX4_open 41 = .ok (.ifCond .ne 10, 3) := by decide +kernel
theorem dX4_open_44 : decode cX4_open 44 = .ok (.aload_n 0, 1) := by decide +kernel
theorem dX4_open_45 : decode cX4_open 45 = .ok (.bipush (-6), 2) := by decide +kernel
theorem dX4_open_47 : decode cX4_open 47 = .ok (.invokevirtual 111, 3) := by decide +kernel
theorem dX4_open_50 : decode cX4_open 50 = .ok (.ireturn, 1) := by decide +kernel
theorem dX4_open_51 : decode cX4_open 51 = .ok (.aload_n 0, 1) := by decide +kernel
theorem dX4_open_52 : decode cX4_open 52 = .ok (.aload 4, 2) := by decide +kernel
theorem dX4_open_54 : decode cX4_open 54 = .ok (.getfield 64, 3) := by decide +kernel
theorem dX4_open_57 : decode cX4_open 57 = .ok (.aload 5, 2) := by decide +kernel
theorem dX4_open_59 : decode cX4_open 59 = .ok (.getfield 172, 3) := by decide +kernel
theorem dX4_open_62 : decode cX4_open 62 = .ok (.invokevirtual 144, 3) := by decide +kernel
theorem dX4_open_65 : decode cX4_open 65 = .ok (.sipush 999, 3) := by decide +kernel
theorem dX4_open_68 : decode cX4_open 68 = .ok (.if_icmp .ne 10, 3) := by decide +kernel
theorem dX4_open_71 : decode cX4_open 71 = .ok (.aload_n 0, 1) := by decide +kernel
theorem dX4_open_72 : decode cX4_open 72 = .ok (.bipush (-2), 2) := by decide +kernel
theorem dX4_open_74 : decode cX4_open 74 = .ok (.invokevirtual 111, 3) := by decide +kernel
theorem dX4_open_77 : decode cX4_open 77 = .ok (.ireturn, 1) := by decide +kernel
theorem dX4_open_78 : decode cX4_open 78 = .ok (.iconst 2, 1) := by decide +kernel
theorem dX4_open_79 : decode cX4_open 79 = .ok (.ireturn, 1) := by decide +kernel
theorem dX4_ownerSeenBy_0 : decode cX4_ownerSeenBy 0 = .ok (.aload_n 0, 1) := by decide +kernel
theorem dX4_ownerSeenBy_1 : decode cX4_ownerSeenBy 1 = .ok (.iload_n 1, 1) := by decide +kernel
theorem dX4_ownerSeenBy_2 : decode cX4_ownerSeenBy 2 = .ok (.invokevirtual 53, 3) := by decide +kernel
theorem dX4_ownerSeenBy_5 : decode cX4_ownerSeenBy 5 = .ok (.astore_n 3, 1) := by decide +kernel
theorem dX4_ownerSeenBy_6 : decode cX4_ownerSeenBy 6 = .ok (.aload_n 0, 1) := by decide +kernel
theorem dX4_ownerSeenBy_7 : decode cX4_ownerSeenBy 7 = .ok (.aload_n 3, 1) := by decide +kernel
theorem dX4_ownerSeenBy_8 : decode cX4_ownerSeenBy 8 = .ok (.getfield 64, 3) := by decide +kernel
theorem dX4_ownerSeenBy_11 : decode cX4_ownerSeenBy 11 = .ok (.aload_n 0, 1) := by decide +kernel
theorem dX4_ownerSeenBy_12 : decode cX4_ownerSeenBy 12 = .ok (.iload_n 2, 1) := by decide +kernel
theorem dX4_ownerSeenBy_13 : decode cX4_ownerSeenBy 13 = .ok (.invokevirtual 168, 3) := by decide +kernel
theorem dX4_ownerSeenBy_16 : decode cX4_ownerSeenBy 16 = .ok (.getfield 172, 3) := by decide +kernel
theorem dX4_ownerSeenBy_19 : decode cX4_ownerSeenBy 19 = .ok (.invokevirtual 144, 3) := by decide +kernel
theorem dX4_ownerSeenBy_22 : decode cX4_ownerSeenBy 22 = .ok (.ireturn, 1) := by decide +kernel
theorem dX4_files_0 : decode cX4_files 0 = .ok (.aload_n 0, 1) := by decide +kernel
theorem dX4_files_1 : decode cX4_files 1 = .ok (.getfield 40, 3) := by decide +kernel
theorem dX4_files_4 : decode cX4_files 4 = .ok (.ireturn, 1) := by decide +kernel
theorem dX4_refusals_0 : decode cX4_refusals 0 = .ok (.aload_n 0, 1) := by decide +kernel
theorem dX4_refusals_1 : decode cX4_refusals 1 = .ok (.getfield 47, 3) := by decide +kernel
theorem dX4_refusals_4 : decode cX4_refusals 4 = .ok (.ireturn, 1) := by decide +kernel
theorem dX4_lastRefusal_0 : decode cX4_lastRefusal 0 = .ok (.aload_n 0, 1) := by decide +kernel
theorem dX4_lastRefusal_1 : decode cX4_lastRefusal 1 = .ok (.getfield 50, 3) := by decide +kernel
theorem dX4_lastRefusal_4 : decode cX4_lastRefusal 4 = .ok (.ireturn, 1) := by decide +kernel
theorem dX4_roomAt_0 : decode cX4_roomAt 0 = .ok (.iload_n 1, 1) := by decide +kernel
theorem dX4_roomAt_1 : decode cX4_roomAt 1 = .ok (.ifCond .lt 12, 3) := by decide +kernel
theorem dX4_roomAt_4 : decode cX4_roomAt 4 = .ok (.iload_n 1, 1) := by decide +kernel
theorem dX4_roomAt_5 : decode cX4_roomAt 5 = .ok (.aload_n 0, 1) := by decide +kernel
theorem dX4_roomAt_6 : decode cX4_roomAt 6 = .ok (.getfield 14, 3) := by decide +kernel
theorem dX4_roomAt_9 : decode cX4_roomAt 9 = .ok (.arraylength, 1) := by decide +kernel
theorem dX4_roomAt_10 : decode cX4_roomAt 10 = .ok (.if_icmp .lt 13, 3) := by decide +kernel
theorem dX4_roomAt_13 : decode cX4_roomAt 13 = .ok (.new 103, 3) := by decide +kernel
theorem dX4_roomAt_16 : decode cX4_roomAt 16 = .ok (.dup, 1) := by decide +kernel
theorem dX4_roomAt_17 : decode cX4_roomAt 17 = .ok (.ldc 177, 2) := by decide +kernel
theorem dX4_roomAt_19 : decode cX4_roomAt 19 = .ok (.invokespecial 107, 3) := by decide +kernel
theorem dX4_roomAt_22 : decode cX4_roomAt 22 = .ok (.athrow, 1) := by decide +kernel
theorem dX4_roomAt_23 : decode cX4_roomAt 23 = .ok (.aload_n 0, 1) := by decide +kernel
theorem dX4_roomAt_24 : decode cX4_roomAt 24 = .ok (.getfield 14, 3) := by decide +kernel
theorem dX4_roomAt_27 : decode cX4_roomAt 27 = .ok (.iload_n 1, 1) := by decide +kernel
theorem dX4_roomAt_28 : decode cX4_roomAt 28 = .ok (.aaload, 1) := by decide +kernel
theorem dX4_roomAt_29 : decode cX4_roomAt 29 = .ok (.astore_n 2, 1) := by decide +kernel
theorem dX4_roomAt_30 : decode cX4_roomAt 30 = .ok (.aload_n 2, 1) := by decide +kernel
theorem dX4_roomAt_31 : decode cX4_roomAt 31 = .ok (.ifnonnull 13, 3) := by decide +kernel
theorem dX4_roomAt_34 : decode cX4_roomAt 34 = .ok (.new 103, 3) := by decide +kernel
theorem dX4_roomAt_37 : decode cX4_roomAt 37 = .ok (.dup, 1) := by decide +kernel
theorem dX4_roomAt_38 : decode cX4_roomAt 38 = .ok (.ldc 177, 2) := by decide +kernel
theorem dX4_roomAt_40 : decode cX4_roomAt 40 = .ok (.invokespecial 107, 3) := by decide +kernel
theorem dX4_roomAt_43 : decode cX4_roomAt 43 = .ok (.athrow, 1) := by decide +kernel
theorem dX4_roomAt_44 : decode cX4_roomAt 44 = .ok (.aload_n 2, 1) := by decide +kernel
theorem dX4_roomAt_45 : decode cX4_roomAt 45 = .ok (.areturn, 1) := by decide +kernel
theorem dX4_processAt_0 : decode cX4_processAt 0 = .ok (.iload_n 1, 1) := by decide +kernel
theorem dX4_processAt_1 : decode cX4_processAt 1 = .ok (.ifCond .lt 12, 3) := by decide +kernel
theorem dX4_processAt_4 : decode cX4_processAt 4 = .ok (.iload_n 1, 1) := by decide +kernel
theorem dX4_processAt_5 : decode cX4_processAt 5 = .ok (.aload_n 0, 1) := by decide +kernel
theorem dX4_processAt_6 : decode cX4_processAt 6 = .ok (.getfield 24, 3) := by decide +kernel
theorem dX4_processAt_9 : decode cX4_processAt 9 = .ok (.arraylength, 1) := by decide +kernel
theorem dX4_processAt_10 : decode cX4_processAt 10 = .ok (.if_icmp .lt 13, 3) := by decide +kernel
theorem dX4_processAt_13 : decode cX4_processAt 13 = .ok (.new 103, 3) := by decide +kernel
theorem dX4_processAt_16 : decode cX4_processAt 16 = .ok (.dup, 1) := by decide +kernel
theorem dX4_processAt_17 : decode cX4_processAt 17 = .ok (.ldc 179, 2) := by decide +kernel
theorem dX4_processAt_19 : decode cX4_processAt 19 = .ok (.invokespecial 107, 3) := by decide +kernel
theorem dX4_processAt_22 : decode cX4_processAt 22 = .ok (.athrow, 1) := by decide +kernel
theorem dX4_processAt_23 : decode cX4_processAt 23 = .ok (.aload_n 0, 1) := by decide +kernel
theorem dX4_processAt_24 : decode cX4_processAt 24 = .ok (.getfield 24, 3) := by decide +kernel
theorem dX4_processAt_27 : decode cX4_processAt 27 = .ok (.iload_n 1, 1) := by decide +kernel
theorem dX4_processAt_28 : decode cX4_processAt 28 = .ok (.aaload, 1) := by decide +kernel
theorem dX4_processAt_29 : decode cX4_processAt 29 = .ok (.astore_n 2, 1) := by decide +kernel
theorem dX4_processAt_30 : decode cX4_processAt 30 = .ok (.aload_n 2, 1) := by decide +kernel
theorem dX4_processAt_31 : decode cX4_processAt 31 = .ok (.ifnonnull 13, 3) := by decide +kernel
theorem dX4_processAt_34 : decode cX4_processAt 34 = .ok (.new 103, 3) := by decide +kernel
theorem dX4_processAt_37 : decode cX4_processAt 37 = .ok (.dup, 1) := by decide +kernel
theorem dX4_processAt_38 : decode cX4_processAt 38 = .ok (.ldc 179, 2) := by decide +kernel
theorem dX4_processAt_40 : decode cX4_processAt 40 = .ok (.invokespecial 107, 3) := by decide +kernel
theorem dX4_processAt_43 : decode cX4_processAt 43 = .ok (.athrow, 1) := by decide +kernel
theorem dX4_processAt_44 : decode cX4_processAt 44 = .ok (.aload_n 2, 1) := by decide +kernel
theorem dX4_processAt_45 : decode cX4_processAt 45 = .ok (.areturn, 1) := by decide +kernel
theorem dX4_fileAt_0 : decode cX4_fileAt 0 = .ok (.iload_n 1, 1) := by decide +kernel
theorem dX4_fileAt_1 : decode cX4_fileAt 1 = .ok (.ifCond .lt 12, 3) := by decide +kernel
theorem dX4_fileAt_4 : decode cX4_fileAt 4 = .ok (.iload_n 1, 1) := by decide +kernel
theorem dX4_fileAt_5 : decode cX4_fileAt 5 = .ok (.aload_n 0, 1) := by decide +kernel
theorem dX4_fileAt_6 : decode cX4_fileAt 6 = .ok (.getfield 36, 3) := by decide +kernel
theorem dX4_fileAt_9 : decode cX4_fileAt 9 = .ok (.arraylength, 1) := by decide +kernel
theorem dX4_fileAt_10 : decode cX4_fileAt 10 = .ok (.if_icmp .lt 13, 3) := by decide +kernel
theorem dX4_fileAt_13 : decode cX4_fileAt 13 = .ok (.new 103, 3) := by decide +kernel
theorem dX4_fileAt_16 : decode cX4_fileAt 16 = .ok (.dup, 1) := by decide +kernel
theorem dX4_fileAt_17 : decode cX4_fileAt 17 = .ok (.ldc 181, 2) := by decide +kernel
theorem dX4_fileAt_19 : decode cX4_fileAt 19 = .ok (.invokespecial 107, 3) := by decide +kernel
theorem dX4_fileAt_22 : decode cX4_fileAt 22 = .ok (.athrow, 1) := by decide +kernel
theorem dX4_fileAt_23 : decode cX4_fileAt 23 = .ok (.aload_n 0, 1) := by decide +kernel
theorem dX4_fileAt_24 : decode cX4_fileAt 24 = .ok (.getfield 36, 3) := by decide +kernel
theorem dX4_fileAt_27 : decode cX4_fileAt 27 = .ok (.iload_n 1, 1) := by decide +kernel
theorem dX4_fileAt_28 : decode cX4_fileAt 28 = .ok (.aaload, 1) := by decide +kernel
theorem dX4_fileAt_29 : decode cX4_fileAt 29 = .ok (.astore_n 2, 1) := by decide +kernel
theorem dX4_fileAt_30 : decode cX4_fileAt 30 = .ok (.aload_n 2, 1) := by decide +kernel
theorem dX4_fileAt_31 : decode cX4_fileAt 31 = .ok (.ifnonnull 13, 3) := by decide +kernel
theorem dX4_fileAt_34 : decode cX4_fileAt 34 = .ok (.new 103, 3) := by decide +kernel
theorem dX4_fileAt_37 : decode cX4_fileAt 37 = .ok (.dup, 1) := by decide +kernel
theorem dX4_fileAt_38 : decode cX4_fileAt 38 = .ok (.ldc 181, 2) := by decide +kernel
theorem dX4_fileAt_40 : decode cX4_fileAt 40 = .ok (.invokespecial 107, 3) := by decide +kernel
theorem dX4_fileAt_43 : decode cX4_fileAt 43 = .ok (.athrow, 1) := by decide +kernel
theorem dX4_fileAt_44 : decode cX4_fileAt 44 = .ok (.aload_n 2, 1) := by decide +kernel
theorem dX4_fileAt_45 : decode cX4_fileAt 45 = .ok (.areturn, 1) := by decide +kernel
theorem dX4_requireNumber_0 : decode cX4_requireNumber 0 = .ok (.iload_n 0, 1) := by decide +kernel
theorem dX4_requireNumber_1 : decode cX4_requireNumber 1 = .ok (.ifCond .lt 10, 3) := by decide +kernel
theorem dX4_requireNumber_4 : decode cX4_requireNumber 4 = .ok (.iload_n 0, 1) := by decide +kernel
theorem dX4_requireNumber_5 : decode cX4_requireNumber 5 = .ok (.sipush 998, 3) := by decide +kernel
theorem dX4_requireNumber_8 : decode cX4_requireNumber 8 = .ok (.if_icmp .le 13, 3) := by decide +kernel
theorem dX4_requireNumber_11 : decode cX4_requireNumber 11 = .ok (.new 80, 3) := by decide +kernel
theorem dX4_requireNumber_14 : decode cX4_requireNumber 14 = .ok (.dup, 1) := by decide +kernel
theorem dX4_requireNumber_15 : decode cX4_requireNumber 15 = .ok (.ldc 183, 2) := by decide +kernel
theorem dX4_requireNumber_17 : decode cX4_requireNumber 17 = .ok (.invokespecial 84, 3) := by decide +kernel
theorem dX4_requireNumber_20 : decode cX4_requireNumber 20 = .ok (.athrow, 1) := by decide +kernel
theorem dX4_requireNumber_21 : decode cX4_requireNumber 21 = .ok (.return_, 1) := by decide +kernel
theorem dX4_refuse_0 : decode cX4_refuse 0 = .ok (.aload_n 0, 1) := by decide +kernel
theorem dX4_refuse_1 : decode cX4_refuse 1 = .ok (.dup, 1) := by decide +kernel
theorem dX4_refuse_2 : decode cX4_refuse 2 = .ok (.getfield 47, 3) := by decide +kernel
theorem dX4_refuse_5 : decode cX4_refuse 5 = .ok (.iconst 1, 1) := by decide +kernel
theorem dX4_refuse_6 : decode cX4_refuse 6 = .ok (.iadd, 1) := by decide +kernel
theorem dX4_refuse_7 : decode cX4_refuse 7 = .ok (.putfield 47, 3) := by decide +kernel
theorem dX4_refuse_10 : decode cX4_refuse 10 = .ok (.aload_n 0, 1) := by decide +kernel
theorem dX4_refuse_11 : decode cX4_refuse 11 = .ok (.iload_n 1, 1) := by decide +kernel
theorem dX4_refuse_12 : decode cX4_refuse 12 = .ok (.putfield 50, 3) := by decide +kernel
theorem dX4_refuse_15 : decode cX4_refuse 15 = .ok (.iload_n 1, 1) := by decide +kernel
theorem dX4_refuse_16 : decode cX4_refuse 16 = .ok (.ireturn, 1) := by decide +kernel
theorem dX4_seenFrom_0 : decode cX4_seenFrom 0 = .ok (.iload_n 2, 1) := by decide +kernel
theorem dX4_seenFrom_1 : decode cX4_seenFrom 1 = .ok (.istore_n 3, 1) := by decide +kernel
theorem dX4_seenFrom_2 : decode cX4_seenFrom 2 = .ok (.aload_n 0, 1) := by decide +kernel
theorem dX4_seenFrom_3 : decode cX4_seenFrom 3 = .ok (.getfield 14, 3) := by decide +kernel
theorem dX4_seenFrom_6 : decode cX4_seenFrom 6 = .ok (.astore 4, 2) := by decide +kernel
theorem dX4_seenFrom_8 : decode cX4_seenFrom 8 = .ok (.aload 4, 2) := by decide +kernel
theorem dX4_seenFrom_10 : decode cX4_seenFrom 10 = .ok (.arraylength, 1) := by decide +kernel
theorem dX4_seenFrom_11 : decode cX4_seenFrom 11 = .ok (.istore 5, 2) := by decide +kernel
theorem dX4_seenFrom_13 : decode cX4_seenFrom 13 = .ok (.iconst 0, 1) := by decide +kernel
theorem dX4_seenFrom_14 : decode cX4_seenFrom 14 = .ok (.istore 6, 2) := by decide +kernel
theorem dX4_seenFrom_16 : decode cX4_seenFrom 16 = .ok (.iload 6, 2) := by decide +kernel
theorem dX4_seenFrom_18 : decode cX4_seenFrom 18 = .ok (.iload 5, 2) := by decide +kernel
theorem dX4_seenFrom_20 : decode cX4_seenFrom 20 = .ok (.if_icmp .ge 37, 3) := by decide +kernel
theorem dX4_seenFrom_23 : decode cX4_seenFrom 23 = .ok (.aload 4, 2) := by decide +kernel
theorem dX4_seenFrom_25 : decode cX4_seenFrom 25 = .ok (.iload 6, 2) := by decide +kernel
theorem dX4_seenFrom_27 : decode cX4_seenFrom 27 = .ok (.aaload, 1) := by decide +kernel
theorem dX4_seenFrom_28 : decode cX4_seenFrom 28 = .ok (.astore 7, 2) := by decide +kernel
theorem dX4_seenFrom_30 : decode cX4_seenFrom 30 = .ok (.aload 7, 2) := by decide +kernel
theorem dX4_seenFrom_32 : decode cX4_seenFrom 32 = .ok (.ifnull 19, 3) := by decide +kernel
theorem dX4_seenFrom_35 : decode cX4_seenFrom 35 = .ok (.aload_n 1, 1) := by decide +kernel
theorem dX4_seenFrom_36 : decode cX4_seenFrom 36 = .ok (.aload 7, 2) := by decide +kernel
theorem dX4_seenFrom_38 : decode cX4_seenFrom 38 = .ok (.invokestatic 154, 3) := by decide +kernel
theorem dX4_seenFrom_41 : decode cX4_seenFrom 41 = .ok (.ifCond .eq 10, 3) := by decide +kernel
theorem dX4_seenFrom_44 : decode cX4_seenFrom 44 = .ok (.aload 7, 2) := by decide +kernel
theorem dX4_seenFrom_46 : decode cX4_seenFrom 46 = .ok (.iload_n 3, 1) := by decide +kernel
theorem dX4_seenFrom_47 : decode cX4_seenFrom 47 = .ok (.invokevirtual 185, 3) := by decide +kernel
theorem dX4_seenFrom_50 : decode cX4_seenFrom 50 = .ok (.istore_n 3, 1) := by decide +kernel
theorem dX4_seenFrom_51 : decode cX4_seenFrom 51 = .ok (.iinc 6 1, 3) := by decide +kernel
theorem dX4_seenFrom_54 : decode cX4_seenFrom 54 = .ok (.goto (-38), 3) := by decide +kernel
theorem dX4_seenFrom_57 : decode cX4_seenFrom 57 = .ok (.iload_n 3, 1) := by decide +kernel
theorem dX4_seenFrom_58 : decode cX4_seenFrom 58 = .ok (.ireturn, 1) := by decide +kernel
theorem dX4_countOf_0 : decode cX4_countOf 0 = .ok (.iconst 0, 1) := by decide +kernel
theorem dX4_countOf_1 : decode cX4_countOf 1 = .ok (.istore_n 1, 1) := by decide +kernel
theorem dX4_countOf_2 : decode cX4_countOf 2 = .ok (.aload_n 0, 1) := by decide +kernel
theorem dX4_countOf_3 : decode cX4_countOf 3 = .ok (.astore_n 2, 1) := by decide +kernel
theorem dX4_countOf_4 : decode cX4_countOf 4 = .ok (.aload_n 2, 1) := by decide +kernel
theorem dX4_countOf_5 : decode cX4_countOf 5 = .ok (.ifnull 14, 3) := by decide +kernel
theorem dX4_countOf_8 : decode cX4_countOf 8 = .ok (.iinc 1 1, 3) := by decide +kernel
theorem dX4_countOf_11 : decode cX4_countOf 11 = .ok (.aload_n 2, 1) := by decide +kernel
theorem dX4_countOf_12 : decode cX4_countOf 12 = .ok (.getfield 188, 3) := by decide +kernel
theorem dX4_countOf_15 : decode cX4_countOf 15 = .ok (.astore_n 2, 1) := by decide +kernel
theorem dX4_countOf_16 : decode cX4_countOf 16 = .ok (.goto (-12), 3) := by decide +kernel
theorem dX4_countOf_19 : decode cX4_countOf 19 = .ok (.iload_n 1, 1) := by decide +kernel
theorem dX4_countOf_20 : decode cX4_countOf 20 = .ok (.ireturn, 1) := by decide +kernel
theorem dX4_anyMeet_0 : decode cX4_anyMeet 0 = .ok (.aload_n 0, 1) := by decide +kernel
theorem dX4_anyMeet_1 : decode cX4_anyMeet 1 = .ok (.astore_n 1, 1) := by decide +kernel
theorem dX4_anyMeet_2 : decode cX4_anyMeet 2 = .ok (.aload_n 1, 1) := by decide +kernel
theorem dX4_anyMeet_3 : decode cX4_anyMeet 3 = .ok (.ifnull 38, 3) := by decide +kernel
theorem dX4_anyMeet_6 : decode cX4_anyMeet 6 = .ok (.aload_n 1, 1) := by decide +kernel
theorem dX4_anyMeet_7 : decode cX4_anyMeet 7 = .ok (.getfield 188, 3) := by decide +kernel
theorem dX4_anyMeet_10 : decode cX4_anyMeet 10 = .ok (.astore_n 2, 1) := by decide +kernel
theorem dX4_anyMeet_11 : decode cX4_anyMeet 11 = .ok (.aload_n 2, 1) := by decide +kernel
theorem dX4_anyMeet_12 : decode cX4_anyMeet 12 = .ok (.ifnull 21, 3) := by decide +kernel
theorem dX4_anyMeet_15 : decode cX4_anyMeet 15 = .ok (.aload_n 1, 1) := by decide +kernel
theorem dX4_anyMeet_16 : decode cX4_anyMeet 16 = .ok (.aload_n 2, 1) := by decide +kernel
theorem dX4_anyMeet_17 : decode cX4_anyMeet 17 = .ok (.invokevirtual 191, 3) := by decide +kernel
theorem dX4_anyMeet_20 : decode cX4_anyMeet 20 = .ok (.ifCond .eq 5, 3) := by decide +kernel
theorem dX4_anyMeet_23 : decode cX4_anyMeet 23 = .ok (.iconst 1, 1) := by decide +kernel
theorem dX4_anyMeet_24 : decode cX4_anyMeet 24 = .ok (.ireturn, 1) := by decide +kernel
theorem dX4_anyMeet_25 : decode cX4_anyMeet 25 = .ok (.aload_n 2, 1) := by decide +kernel
theorem dX4_anyMeet_26 : decode cX4_anyMeet 26 = .ok (.getfield 188, 3) := by decide +kernel
theorem dX4_anyMeet_29 : decode cX4_anyMeet 29 = .ok (.astore_n 2, 1) := by decide +kernel
theorem dX4_anyMeet_30 : decode cX4_anyMeet 30 = .ok (.goto (-19), 3) := by decide +kernel
theorem dX4_anyMeet_33 : decode cX4_anyMeet 33 = .ok (.aload_n 1, 1) := by decide +kernel
theorem dX4_anyMeet_34 : decode cX4_anyMeet 34 = .ok (.getfield 188, 3) := by decide +kernel
theorem dX4_anyMeet_37 : decode cX4_anyMeet 37 = .ok (.astore_n 1, 1) := by decide +kernel
theorem dX4_anyMeet_38 : decode cX4_anyMeet 38 = .ok (.goto (-36), 3) := by decide +kernel
theorem dX4_anyMeet_41 : decode cX4_anyMeet 41 = .ok (.iconst 0, 1) := by decide +kernel
theorem dX4_anyMeet_42 : decode cX4_anyMeet 42 = .ok (.ireturn, 1) := by decide +kernel
theorem dX4_allLeadOut_0 : decode cX4_allLeadOut 0 = .ok (.aload_n 0, 1) := by decide +kernel
theorem dX4_allLeadOut_1 : decode cX4_allLeadOut 1 = .ok (.astore_n 2, 1) := by decide +kernel
theorem dX4_allLeadOut_2 : decode cX4_allLeadOut 2 = .ok (.aload_n 2, 1) := by decide +kernel
theorem dX4_allLeadOut_3 : decode cX4_allLeadOut 3 = .ok (.ifnull 43, 3) := by decide +kernel
theorem dX4_allLeadOut_6 : decode cX4_allLeadOut 6 = .ok (.iconst 0, 1) := by decide +kernel
theorem dX4_allLeadOut_7 : decode cX4_allLeadOut 7 = .ok (.istore_n 3, 1) := by decide +kernel
theorem dX4_allLeadOut_8 : decode cX4_allLeadOut 8 = .ok (.iload_n 3, 1) := by decide +kernel
theorem dX4_allLeadOut_9 : decode cX4_allLeadOut 9 = .ok (.aload_n 2, 1) := by decide +kernel
theorem dX4_allLeadOut_10 : decode cX4_allLeadOut 10 = .ok (.getfield 194, 3) := by decide +kernel
theorem dX4_allLeadOut_13 : decode cX4_allLeadOut 13 = .ok (.if_icmp .ge 25, 3) := by decide +kernel
theorem dX4_allLeadOut_16 : decode cX4_allLeadOut 16 = .ok (.aload_n 1, 1) := by decide +kernel
theorem dX4_allLeadOut_17 : decode cX4_allLeadOut 17 = .ok (.aload_n 2, 1) := by decide +kernel
theorem dX4_allLeadOut_18 : decode cX4_allLeadOut 18 = .ok (.getfield 130, 3) := by decide +kernel
theorem dX4_allLeadOut_21 : decode cX4_allLeadOut 21 = .ok (.iload_n 3, 1) := by decide +kernel
theorem dX4_allLeadOut_22 : decode cX4_allLeadOut 22 = .ok (.iadd, 1) := by decide +kernel
theorem dX4_allLeadOut_23 : decode cX4_allLeadOut 23 = .ok (.invokestatic 132, 3) := by decide +kernel
theorem dX4_allLeadOut_26 : decode cX4_allLeadOut 26 = .ok (.iconst (-1), 1) := by decide +kernel
theorem dX4_allLeadOut_27 : decode cX4_allLeadOut 27 = .ok (.if_icmp .ne 5, 3) := by decide +kernel
theorem dX4_allLeadOut_30 : decode cX4_allLeadOut 30 = .ok (.iconst 0, 1) := by decide +kernel
theorem dX4_allLeadOut_31 : decode cX4_allLeadOut 31 = .ok (.ireturn, 1) := by decide +kernel
theorem dX4_allLeadOut_32 : decode cX4_allLeadOut 32 = .ok (.iinc 3 1, 3) := by decide +kernel
theorem dX4_allLeadOut_35 : decode cX4_allLeadOut 35 = .ok (.goto (-27), 3) := by decide +kernel
theorem dX4_allLeadOut_38 : decode cX4_allLeadOut 38 = .ok (.aload_n 2, 1) := by decide +kernel
theorem dX4_allLeadOut_39 : decode cX4_allLeadOut 39 = .ok (.getfield 188, 3) := by decide +kernel
theorem dX4_allLeadOut_42 : decode cX4_allLeadOut 42 = .ok (.astore_n 2, 1) := by decide +kernel
theorem dX4_allLeadOut_43 : decode cX4_allLeadOut 43 = .ok (.goto (-41), 3) := by decide +kernel
theorem dX4_allLeadOut_46 : decode cX4_allLeadOut 46 = .ok (.iconst 1, 1) := by decide +kernel
theorem dX4_allLeadOut_47 : decode cX4_allLeadOut 47 = .ok (.ireturn, 1) := by decide +kernel
theorem dX4_leadOut_0 : decode cX4_leadOut 0 = .ok (.iload_n 1, 1) := by decide +kernel
theorem dX4_leadOut_1 : decode cX4_leadOut 1 = .ok (.istore_n 2, 1) := by decide +kernel
theorem dX4_leadOut_2 : decode cX4_leadOut 2 = .ok (.aload_n 0, 1) := by decide +kernel
theorem dX4_leadOut_3 : decode cX4_leadOut 3 = .ok (.astore_n 3, 1) := by decide +kernel
theorem dX4_leadOut_4 : decode cX4_leadOut 4 = .ok (.aload_n 3, 1) := by decide +kernel
theorem dX4_leadOut_5 : decode cX4_leadOut 5 = .ok (.ifnull 22, 3) := by decide +kernel
theorem dX4_leadOut_8 : decode cX4_leadOut 8 = .ok (.iload_n 2, 1) := by decide +kernel
theorem dX4_leadOut_9 : decode cX4_leadOut 9 = .ok (.iconst (-1), 1) := by decide +kernel
theorem dX4_leadOut_10 : decode cX4_leadOut 10 = .ok (.if_icmp .eq 17, 3) := by decide +kernel
theorem dX4_leadOut_13 : decode cX4_leadOut 13 = .ok (.aload_n 3, 1) := by decide +kernel
theorem dX4_leadOut_14 : decode cX4_leadOut 14 = .ok (.iload_n 2, 1) := by decide +kernel
theorem dX4_leadOut_15 : decode cX4_leadOut 15 = .ok (.invokevirtual 197, 3) := by decide +kernel
theorem dX4_leadOut_18 : decode cX4_leadOut 18 = .ok (.istore_n 2, 1) := by decide +kernel
theorem dX4_leadOut_19 : decode cX4_leadOut 19 = .ok (.aload_n 3, 1) := by decide +kernel
theorem dX4_leadOut_20 : decode cX4_leadOut 20 = .ok (.getfield 100, 3) := by decide +kernel
theorem dX4_leadOut_23 : decode cX4_leadOut 23 = .ok (.astore_n 3, 1) := by decide +kernel
theorem dX4_leadOut_24 : decode cX4_leadOut 24 = .ok (.goto (-20), 3) := by decide +kernel
theorem dX4_leadOut_27 : decode cX4_leadOut 27 = .ok (.iload_n 2, 1) := by decide +kernel
theorem dX4_leadOut_28 : decode cX4_leadOut 28 = .ok (.ireturn, 1) := by decide +kernel
theorem dX4_isOrIsInside_0 : decode cX4_isOrIsInside 0 = .ok (.aload_n 0, 1) := by decide +kernel
theorem dX4_isOrIsInside_1 : decode cX4_isOrIsInside 1 = .ok (.astore_n 2, 1) := by decide +kernel
theorem dX4_isOrIsInside_2 : decode cX4_isOrIsInside 2 = .ok (.aload_n 2, 1) := by decide +kernel
theorem dX4_isOrIsInside_3 : decode cX4_isOrIsInside 3 = .ok (.ifnull 18, 3) := by decide +kernel
theorem dX4_isOrIsInside_6 : decode cX4_isOrIsInside 6 = .ok (.aload_n 2, 1) := by decide +kernel
theorem dX4_isOrIsInside_7 : decode cX4_isOrIsInside 7 = .ok (.aload_n 1, 1) := by decide +kernel
theorem dX4_isOrIsInside_8 : decode cX4_isOrIsInside 8 = .ok (.if_acmp .ne 5, 3) := by decide +kernel
theorem dX4_isOrIsInside_11 : decode cX4_isOrIsInside 11 = .ok (.iconst 1, 1) := by decide +kernel
theorem dX4_isOrIsInside_12 : decode cX4_isOrIsInside 12 = .ok (.ireturn, 1) := by decide +kernel
theorem dX4_isOrIsInside_13 : decode cX4_isOrIsInside 13 = .ok (.aload_n 2, 1) := by decide +kernel
theorem dX4_isOrIsInside_14 : decode cX4_isOrIsInside 14 = .ok (.getfield 100, 3) := by decide +kernel
theorem dX4_isOrIsInside_17 : decode cX4_isOrIsInside 17 = .ok (.astore_n 2, 1) := by decide +kernel
theorem dX4_isOrIsInside_18 : decode cX4_isOrIsInside 18 = .ok (.goto (-16), 3) := by decide +kernel
theorem dX4_isOrIsInside_21 : decode cX4_isOrIsInside 21 = .ok (.iconst 0, 1) := by decide +kernel
theorem dX4_isOrIsInside_22 : decode cX4_isOrIsInside 22 = .ok (.ireturn, 1) := by decide +kernel
theorem dX4_numberOrNone_0 : decode cX4_numberOrNone 0 = .ok (.aload_n 0, 1) := by decide +kernel
theorem dX4_numberOrNone_1 : decode cX4_numberOrNone 1 = .ok (.ifnonnull 7, 3) := by decide +kernel
theorem dX4_numberOrNone_4 : decode cX4_numberOrNone 4 = .ok (.iconst (-1), 1) := by decide +kernel
theorem dX4_numberOrNone_5 : decode cX4_numberOrNone 5 = .ok (.goto 7, 3) := by decide +kernel
theorem dX4_numberOrNone_8 : decode cX4_numberOrNone 8 = .ok (.aload_n 0, 1) := by decide +kernel
theorem dX4_numberOrNone_9 : decode cX4_numberOrNone 9 = .ok (.getfield 75, 3) := by decide +kernel
theorem dX4_numberOrNone_12 : decode cX4_numberOrNone 12 = .ok (.ireturn, 1) := by decide +kernel
theorem dX5_init_0 : decode cX5_init 0 = .ok (.aload_n 0, 1) := by decide +kernel
theorem dX5_init_1 : decode cX5_init 1 = .ok (.invokespecial 1, 3) := by decide +kernel
theorem dX5_init_4 : decode cX5_init 4 = .ok (.aload_n 0, 1) := by decide +kernel
theorem dX5_init_5 : decode cX5_init 5 = .ok (.iconst 1, 1) := by decide +kernel
theorem dX5_init_6 : decode cX5_init 6 = .ok (.putfield 7, 3) := by decide +kernel
theorem dX5_init_9 : decode cX5_init 9 = .ok (.aload_n 0, 1) := by decide +kernel
theorem dX5_init_10 : decode cX5_init 10 = .ok (.bipush 10, 2) := by decide +kernel
theorem dX5_init_12 : decode cX5_init 12 = .ok (.newarray .int, 2) := by decide +kernel
theorem dX5_init_14 : decode cX5_init 14 = .ok (.putfield 13, 3) := by decide +kernel
theorem dX5_init_17 : decode cX5_init 17 = .ok (.aload_n 0, 1) := by decide +kernel
theorem dX5_init_18 : decode cX5_init 18 = .ok (.bipush 10, 2) := by decide +kernel
theorem dX5_init_20 : decode cX5_init 20 = .ok (.newarray .int, 2) := by decide +kernel
theorem dX5_init_22 : decode cX5_init 22 = .ok (.putfield 17, 3) := by decide +kernel
theorem dX5_init_25 : decode cX5_init 25 = .ok (.aload_n 0, 1) := by decide +kernel
theorem dX5_init_26 : decode cX5_init 26 = .ok (.bipush 10, 2) := by decide +kernel
theorem dX5_init_28 : decode cX5_init 28 = .ok (.newarray .int, 2) := by decide +kernel
theorem dX5_init_30 : decode cX5_init 30 = .ok (.putfield 20, 3) := by decide +kernel
theorem dX5_init_33 : decode cX5_init 33 = .ok (.aload_n 0, 1) := by decide +kernel
theorem dX5_init_34 : decode cX5_init 34 = .ok (.bipush 33, 2) := by decide +kernel
theorem dX5_init_36 : decode cX5_init 36 = .ok (.newarray .int, 2) := by decide +kernel
theorem dX5_init_38 : decode cX5_init 38 = .ok (.putfield 23, 3) := by decide +kernel
theorem dX5_init_41 : decode cX5_init 41 = .ok (.aload_n 0, 1) := by decide +kernel
theorem dX5_init_42 : decode cX5_init 42 = .ok (.bipush 33, 2) := by decide +kernel
theorem dX5_init_44 : decode cX5_init 44 = .ok (.newarray .int, 2) := by decide +kernel
theorem dX5_init_46 : decode cX5_init 46 = .ok (.putfield 26, 3) := by decide +kernel
theorem dX5_init_49 : decode cX5_init 49 = .ok (.aload_n 0, 1) := by decide +kernel
theorem dX5_init_50 : decode cX5_init 50 = .ok (.bipush 33, 2) := by decide +kernel
theorem dX5_init_52 : decode cX5_init 52 = .ok (.newarray .int, 2) := by decide +kernel
theorem dX5_init_54 : decode cX5_init 54 = .ok (.putfield 29, 3) := by decide +kernel
theorem dX5_init_57 : decode cX5_init 57 = .ok (.aload_n 0, 1) := by decide +kernel
theorem dX5_init_58 : decode cX5_init 58 = .ok (.iconst 1, 1) := by decide +kernel
theorem dX5_init_59 : decode cX5_init 59 = .ok (.putfield 32, 3) := by decide +kernel
theorem dX5_init_62 : decode cX5_init 62 = .ok (.aload_n 0, 1) := by decide +kernel
theorem dX5_init_63 : decode cX5_init 63 = .ok (.bipush 12, 2) := by decide +kernel
theorem dX5_init_65 : decode cX5_init 65 = .ok (.newarray .int, 2) := by decide +kernel
theorem dX5_init_67 : decode cX5_init 67 = .ok (.putfield 35, 3) := by decide +kernel
theorem dX5_init_70 : decode cX5_init 70 = .ok (.aload_n 0, 1) := by decide +kernel
theorem dX5_init_71 : decode cX5_init 71 = .ok (.bipush 12, 2) := by decide +kernel
theorem dX5_init_73 : decode cX5_init 73 = .ok (.newarray .int, 2) := by decide +kernel
theorem dX5_init_75 : decode cX5_init 75 = .ok (.putfield 38, 3) := by decide +kernel
theorem dX5_init_78 : decode cX5_init 78 = .ok (.aload_n 0, 1) := by decide +kernel
theorem dX5_init_79 : decode cX5_init 79 = .ok (.bipush 12, 2) := by decide +kernel
theorem dX5_init_81 : decode cX5_init 81 = .ok (.newarray .int, 2) := by decide +kernel
theorem dX5_init_83 : decode cX5_init 83 = .ok (.putfield 41, 3) := by decide +kernel
theorem dX5_init_86 : decode cX5_init 86 = .ok (.aload_n 0, 1) := by decide +kernel
theorem dX5_init_87 : decode cX5_init 87 = .ok (.bipush 20, 2) := by decide +kernel
theorem dX5_init_89 : decode cX5_init 89 = .ok (.newarray .int, 2) := by decide +kernel
theorem dX5_init_91 : decode cX5_init 91 = .ok (.putfield 44, 3) := by decide +kernel
theorem dX5_init_94 : decode cX5_init 94 = .ok (.aload_n 0, 1) := by decide +kernel
theorem dX5_init_95 : decode cX5_init 95 = .ok (.bipush 20, 2) := by decide +kernel
theorem dX5_init_97 : decode cX5_init 97 = .ok (.newarray .int, 2) := by decide +kernel
theorem dX5_init_99 : decode cX5_init 99 = .ok (.putfield 47, 3) := by decide +kernel
theorem dX5_init_102 : decode cX5_init 102 = .ok (.aload_n 0, 1) := by decide +kernel
theorem dX5_init_103 : decode cX5_init 103 = .ok (.getfield 13, 3) := by decide +kernel
theorem dX5_init_106 : decode cX5_init 106 = .ok (.iconst 0, 1) := by decide +kernel
theorem dX5_init_107 : decode cX5_init 107 = .ok (.iconst (-1), 1) := by decide +kernel
theorem dX5_init_108 : decode cX5_init 108 = .ok (.iastore, 1) := by decide +kernel
theorem dX5_init_109 : decode cX5_init 109 = .ok (.aload_n 0, 1) := by decide +kernel
theorem dX5_init_110 : decode cX5_init 110 = .ok (.getfield 41, 3) := by decide +kernel
theorem dX5_init_113 : decode cX5_init 113 = .ok (.iconst 0, 1) := by decide +kernel
theorem dX5_init_114 : decode cX5_init 114 = .ok (.bipush 15, 2) := by decide +kernel
theorem dX5_init_116 : decode cX5_init 116 = .ok (.iastore, 1) := by decide +kernel
theorem dX5_init_117 : decode cX5_init 117 = .ok (.return_, 1) := by decide +kernel
theorem dX5_thrown_0 : decode cX5_thrown 0 = .ok (.aload_n 0, 1) := by decide +kernel
theorem dX5_thrown_1 : decode cX5_thrown 1 = .ok (.getfield 50, 3) := by decide +kernel
theorem dX5_thrown_4 : decode cX5_thrown 4 = .ok (.ireturn, 1) := by decide +kernel
theorem dX5_refused_0 : decode cX5_refused 0 = .ok (.aload_n 0, 1) := by decide +kernel
theorem dX5_refused_1 : decode cX5_refused 1 = .ok (.iload_n 1, 1) := by decide +kernel
theorem dX5_refused_2 : decode cX5_refused 2 = .ok (.putfield 50, 3) := by decide +kernel
theorem dX5_refused_5 : decode cX5_refused 5 = .ok (.iload_n 1, 1) := by decide +kernel
theorem dX5_refused_6 : decode cX5_refused 6 = .ok (.ifCond .eq 7, 3) := by decide +kernel
theorem dX5_refused_9 : decode cX5_refused 9 = .ok (.iconst 1, 1) := by decide +kernel
theorem dX5_refused_10 : decode cX5_refused 10 = .ok (.goto 4, 3) := by decide +kernel
theorem dX5_refused_13 : decode cX5_refused 13 = .ok (.iconst 0, 1) := by decide +kernel
theorem dX5_refused_14 : decode cX5_refused 14 = .ok (.ireturn, 1) := by decide +kernel
theorem dX5_fine_0 : decode cX5_fine 0 = .ok (.aload_n 0, 1) := by decide +kernel
theorem dX5_fine_1 : decode cX5_fine 1 = .ok (.iconst 0, 1) := by decide +kernel
theorem dX5_fine_2 : decode cX5_fine 2 = .ok (.putfield 50, 3) := by decide +kernel
theorem dX5_fine_5 : decode cX5_fine 5 = .ok (.iload_n 1, 1) := by decide +kernel
theorem dX5_fine_6 : decode cX5_fine 6 = .ok (.ireturn, 1) := by decide +kernel
theorem dX5_told_0 : decode cX5_told 0 = .ok (.aload_n 0, 1) := by decide +kernel
theorem dX5_told_1 : decode cX5_told 1 = .ok (.dup, 1) := by decide +kernel
theorem dX5_told_2 : decode cX5_told 2 = .ok (.getfield 53, 3) := by decide +kernel
theorem dX5_told_5 : decode cX5_told 5 = .ok (.iconst 1, 1) := by decide +kernel
theorem dX5_told_6 : decode cX5_told 6 = .ok (.iadd, 1) := by decide +kernel
theorem dX5_told_7 : decode cX5_told 7 = .ok (.putfield 53, 3) := by decide +kernel
theorem dX5_told_10 : decode cX5_told 10 = .ok (.aload_n 0, 1) := by decide +kernel
theorem dX5_told_11 : decode cX5_told 11 = .ok (.iload_n 1, 1) := by decide +kernel
theorem dX5_told_12 : decode cX5_told 12 = .ok (.putfield 56, 3) := by decide +kernel
theorem dX5_told_15 : decode cX5_told 15 = .ok (.iload_n 1, 1) := by decide +kernel
theorem dX5_told_16 : decode cX5_told 16 = .ok (.ireturn, 1) := by decide +kernel
theorem dX5_in_0 : decode cX5_in 0 = .ok (.iload_n 0, 1) := by decide +kernel
theorem dX5_in_1 : decode cX5_in 1 = .ok (.iload_n 1, 1) := by decide +kernel
theorem dX5_in_2 : decode cX5_in 2 = .ok (.if_icmp .lt 12, 3) := by decide +kernel
theorem dX5_in_5 : decode cX5_in 5 = .ok (.iload_n 0, 1) := by decide +kernel
theorem dX5_in_6 : decode cX5_in 6 = .ok (.iload_n 2, 1) := by decide +kernel
theorem dX5_in_7 : decode cX5_in 7 = .ok (.if_icmp .gt 7, 3) := by decide +kernel
theorem dX5_in_10 : decode cX5_in 10 = .ok (.iconst 1, 1) := by decide +kernel
theorem dX5_in_11 : decode cX5_in 11 = .ok (.goto 4, 3) := by decide +kernel
theorem dX5_in_14 : decode cX5_in 14 = .ok (.iconst 0, 1) := by decide +kernel
theorem dX5_in_15 : decode cX5_in 15 = .ok (.ireturn, 1) := by decide +kernel
theorem dX5_isRoom_0 : decode cX5_isRoom 0 = .ok (.iload_n 1, 1) := by decide +kernel
theorem dX5_isRoom_1 : decode cX5_isRoom 1 = .ok (.iconst 0, 1) := by decide +kernel
theorem dX5_isRoom_2 : decode cX5_isRoom 2 = .ok (.aload_n 0, 1) := by decide +kernel
theorem dX5_isRoom_3 : decode cX5_isRoom 3 = .ok (.getfield 7, 3) := by decide +kernel
theorem dX5_isRoom_6 : decode cX5_isRoom 6 = .ok (.iconst 1, 1) := by decide +kernel
theorem dX5_isRoom_7 : decode cX5_isRoom 7 = .ok (.isub, 1) := by decide +kernel
theorem dX5_isRoom_8 : decode cX5_isRoom 8 = .ok (.invokestatic 59, 3) := by decide +kernel
theorem dX5_isRoom_11 : decode cX5_isRoom 11 = .ok (.ireturn, 1) := by decide +kernel
theorem dX5_isProcess_0 : decode cX5_isProcess 0 = .ok (.iload_n 1, 1) := by decide +kernel
theorem dX5_isProcess_1 : decode cX5_isProcess 1 = .ok (.iconst 0, 1) := by decide +kernel
theorem dX5_isProcess_2 : decode cX5_isProcess 2 = .ok (.aload_n 0, 1) := by decide +kernel
theorem dX5_isProcess_3 : decode cX5_isProcess 3 = .ok (.getfield 32, 3) := by decide +kernel
theorem dX5_isProcess_6 : decode cX5_isProcess 6 = .ok (.iconst 1, 1) := by decide +kernel
theorem dX5_isProcess_7 : decode cX5_isProcess 7 = .ok (.isub, 1) := by decide +kernel
theorem dX5_isProcess_8 : decode cX5_isProcess 8 = .ok (.invokestatic 59, 3) := by decide +kernel
theorem dX5_isProcess_11 : decode cX5_isProcess 11 = .ok (.ireturn, 1) := by decide +kernel
theorem dX5_isFile_0 : decode cX5_isFile 0 = .ok (.iload_n 1, 1) := by decide +kernel
theorem dX5_isFile_1 : decode cX5_isFile 1 = .ok (.iconst 0, 1) := by decide +kernel
theorem dX5_isFile_2 : decode cX5_isFile 2 = .ok (.aload_n 0, 1) := by decide +kernel
theorem dX5_isFile_3 : decode cX5_isFile 3 = .ok (.getfield 63, 3) := by decide +kernel
theorem dX5_isFile_6 : decode cX5_isFile 6 = .ok (.iconst 1, 1) := by decide +kernel
theorem dX5_isFile_7 : decode cX5_isFile 7 = .ok (.isub, 1) := by decide +kernel
theorem dX5_isFile_8 : decode cX5_isFile 8 = .ok (.invokestatic 59, 3) := by decide +kernel
theorem dX5_isFile_11 : decode cX5_isFile 11 = .ok (.ireturn, 1) := by decide +kernel
theorem dX5_isNumber_0 : decode cX5_isNumber 0 = .ok (.iload_n 0, 1) := by decide +kernel
theorem dX5_isNumber_1 : decode cX5_isNumber 1 = .ok (.iconst 0, 1) := by decide +kernel
theorem dX5_isNumber_2 : decode cX5_isNumber 2 = .ok (.sipush 998, 3) := by decide +kernel
theorem dX5_isNumber_5 : decode cX5_isNumber 5 = .ok (.invokestatic 59, 3) := by decide +kernel
theorem dX5_isNumber_8 : decode cX5_isNumber 8 = .ok (.ireturn, 1) := by decide +kernel
theorem dX5_makeRoom_0 : decode cX5_makeRoom 0 = .ok (.aload_n 0, 1) := by decide +kernel
theorem dX5_makeRoom_1 : decode cX5_makeRoom 1 = .ok (.aload_n 0, 1) := by decide +kernel
theorem dX5_makeRoom_2 : decode cX5_makeRoom 2 = .ok (.iload_n 1, 1) := by decide +kernel
theorem dX5_makeRoom_3 : decode cX5_makeRoom 3 = .ok (.invokevirtual 66, 3) := by decide +kernel
theorem dX5_makeRoom_6 : decode cX5_makeRoom 6 = .ok (.ifCond .ne 7, 3) := by decide +kernel
theorem dX5_makeRoom_9 : decode cX5_makeRoom 9 = .ok (.iconst 1, 1) := by decide +kernel
theorem dX5_makeRoom_10 : decode cX5_makeRoom 10 = .ok (.goto 17, 3) := by decide +kernel
theorem dX5_makeRoom_13 : decode cX5_makeRoom 13 = .ok (.aload_n 0, 1) := by decide +kernel
theorem dX5_makeRoom_14 : decode cX5_makeRoom 14 = .ok (.getfield 7, 3) := by decide +kernel
theorem dX5_makeRoom_17 : decode cX5_makeRoom 17 = .ok (.bipush 10, 2) := by decide +kernel
theorem dX5_makeRoom_19 : decode cX5_makeRoom 19 = .ok (.if_icmp .ne 7, 3) := by decide +kernel
theorem dX5_makeRoom_22 : decode cX5_makeRoom 22 = .ok (.iconst 2, 1) := by decide +kernel
theorem dX5_makeRoom_23 : decode cX5_makeRoom 23 = .ok (.goto 4, 3) := by decide +kernel
theorem dX5_makeRoom_26 : decode cX5_makeRoom 26 = .ok (.iconst 0, 1) := by decide +kernel
theorem dX5_makeRoom_27 : decode cX5_makeRoom 27 = .ok (.invokevirtual 70, 3) := by decide +kernel
theorem dX5_makeRoom_30 : decode cX5_makeRoom 30 = .ok (.ifCond .eq 5, 3) := by decide +kernel
theorem dX5_makeRoom_33 : decode cX5_makeRoom 33 = .ok (.iconst 0, 1) := by decide +kernel
theorem dX5_makeRoom_34 : decode cX5_makeRoom 34 = .ok (.ireturn, 1) := by decide +kernel
theorem dX5_makeRoom_35 : decode cX5_makeRoom 35 = .ok (.aload_n 0, 1) := by decide +kernel
theorem dX5_makeRoom_36 : decode cX5_makeRoom 36 = .ok (.getfield 13, 3) := by decide +kernel
theorem dX5_makeRoom_39 : decode cX5_makeRoom 39 = .ok (.aload_n 0, 1) := by decide +kernel
theorem dX5_makeRoom_40 : decode cX5_makeRoom 40 = .ok (.getfield 7, 3) := by decide +kernel
theorem dX5_makeRoom_43 : decode cX5_makeRoom 43 = .ok (.aload_n 0, 1) := by decide +kernel
theorem dX5_makeRoom_44 : decode cX5_makeRoom 44 = .ok (.getfield 35, 3) := by decide +kernel
theorem dX5_makeRoom_47 : decode cX5_makeRoom 47 = .ok (.iload_n 1, 1) := by decide +kernel
theorem dX5_makeRoom_48 : decode cX5_makeRoom 48 = .ok (.iaload, 1) := by decide +kernel
theorem dX5_makeRoom_49 : decode cX5_makeRoom 49 = .ok (.iastore, 1) := by decide +kernel
theorem dX5_makeRoom_50 : decode cX5_makeRoom 50 = .ok (.aload_n 0, 1) := by decide +kernel
theorem dX5_makeRoom_51 : decode cX5_makeRoom 51 = .ok (.getfield 17, 3) := by decide +kernel
theorem dX5_makeRoom_54 : decode cX5_makeRoom 54 = .ok (.aload_n 0, 1) := by decide +kernel
theorem dX5_makeRoom_55 : decode cX5_makeRoom 55 = .ok (.getfield 7, 3) := by decide +kernel
theorem dX5_makeRoom_58 : decode cX5_makeRoom 58 = .ok (.aload_n 0, 1) := by decide +kernel
theorem dX5_makeRoom_59 : decode cX5_makeRoom 59 = .ok (.getfield 38, 3) := by decide +kernel
theorem dX5_makeRoom_62 : decode cX5_makeRoom 62 = .ok (.iload_n 1, 1) := by decide +kernel
theorem dX5_makeRoom_63 : decode cX5_makeRoom 63 = .ok (.iaload, 1) := by decide +kernel
theorem dX5_makeRoom_64 : decode cX5_makeRoom 64 = .ok (.iastore, 1) := by decide +kernel
theorem dX5_makeRoom_65 : decode cX5_makeRoom 65 = .ok (.aload_n 0, 1) := by decide +kernel
theorem dX5_makeRoom_66 : decode cX5_makeRoom 66 = .ok (.getfield 35, 3) := by decide +kernel
theorem dX5_makeRoom_69 : decode cX5_makeRoom 69 = .ok (.iload_n 1, 1) := by decide +kernel
theorem dX5_makeRoom_70 : decode cX5_makeRoom 70 = .ok (.aload_n 0, 1) := by decide +kernel
theorem dX5_makeRoom_71 : decode cX5_makeRoom 71 = .ok (.getfield 7, 3) := by decide +kernel
theorem dX5_makeRoom_74 : decode cX5_makeRoom 74 = .ok (.iastore, 1) := by decide +kernel
theorem dX5_makeRoom_75 : decode cX5_makeRoom 75 = .ok (.aload_n 0, 1) := by decide +kernel
theorem dX5_makeRoom_76 : decode cX5_makeRoom 76 = .ok (.getfield 41, 3) := by decide +kernel
theorem dX5_makeRoom_79 : decode cX5_makeRoom 79 = .ok (.iload_n 1, 1) := by decide +kernel
theorem dX5_makeRoom_80 : decode cX5_makeRoom 80 = .ok (.bipush 15, 2) := by decide +kernel
theorem dX5_makeRoom_82 : decode cX5_makeRoom 82 = .ok (.iastore, 1) := by decide +kernel
theorem dX5_makeRoom_83 : decode cX5_makeRoom 83 = .ok (.aload_n 0, 1) := by decide +kernel
theorem dX5_makeRoom_84 : decode cX5_makeRoom 84 = .ok (.dup, 1) := by decide +kernel
theorem dX5_makeRoom_85 : decode cX5_makeRoom 85 = .ok (.getfield 7, 3) := by decide +kernel
theorem dX5_makeRoom_88 : decode cX5_makeRoom 88 = .ok (.iconst 1, 1) := by decide +kernel
theorem dX5_makeRoom_89 : decode cX5_makeRoom 89 = .ok (.iadd, 1) := by decide +kernel
theorem dX5_makeRoom_90 : decode cX5_makeRoom 90 = .ok (.putfield 7, 3) := by decide +kernel
theorem dX5_makeRoom_93 : decode cX5_makeRoom 93 = .ok (.aload_n 0, 1) := by decide +kernel
theorem dX5_makeRoom_94 : decode cX5_makeRoom 94 = .ok (.getfield 7, 3) := by decide +kernel
theorem dX5_makeRoom_97 : decode cX5_makeRoom 97 = .ok (.iconst 1, 1) := by decide +kernel
theorem dX5_makeRoom_98 : decode cX5_makeRoom 98 = .ok (.isub, 1) := by decide +kernel
theorem dX5_makeRoom_99 : decode cX5_makeRoom 99 = .ok (.ireturn, 1) := by decide +kernel
theorem dX5_line_0 : decode cX5_line 0 = .ok (.iload_n 1, 1) := by decide +kernel
theorem dX5_line_1 : decode cX5_line 1 = .ok (.invokestatic 73, 3) := by decide +kernel
theorem dX5_line_4 : decode cX5_line 4 = .ok (.ifCond .eq 25, 3) := by decide +kernel
theorem dX5_line_7 : decode cX5_line 7 = .ok (.iload_n 2, 1) := by decide +kernel
theorem dX5_line_8 : decode cX5_line 8 = .ok (.invokestatic 73, 3) := by decide +kernel
theorem dX5_line_11 : decode cX5_line 11 = .ok (.ifCond .eq 18, 3) := by decide +kernel
theorem dX5_line_14 : decode cX5_line 14 = .ok (.iload_n 3, 1) := by decide +kernel
theorem dX5_line_15 : decode cX5_line 15 = .ok (.iconst 1, 1) := by decide +kernel
theorem dX5_line_16 : decode cX5_line 16 = .ok (.sipush 999, 3) := by decide +kernel
theorem dX5_line_19 : decode cX5_line 19 = .ok (.invokestatic 59, 3) := by decide +kernel
theorem dX5_line_22 : decode cX5_line 22 = .ok (.ifCond .eq 7, 3) := by decide +kernel
theorem dX5_line_25 : decode cX5_line 25 = .ok (.iconst 1, 1) := by decide +kernel
theorem dX5_line_26 : decode cX5_line 26 = .ok (.goto 4, 3) := by decide +kernel
theorem dX5_line_29 : decode cX5_line 29 = .ok (.iconst 0, 1) := by decide +kernel
theorem dX5_line_30 : decode cX5_line 30 = .ok (.istore 4, 2) := by decide +kernel
theorem dX5_line_32 : decode cX5_line 32 = .ok (.iload 4, 2) := by decide +kernel
theorem dX5_line_34 : decode cX5_line 34 = .ok (.ifCond .eq 25, 3) := by decide +kernel
theorem dX5_line_37 : decode cX5_line 37 = .ok (.iload_n 1, 1) := by decide +kernel
theorem dX5_line_38 : decode cX5_line 38 = .ok (.iload_n 3, 1) := by decide +kernel
theorem dX5_line_39 : decode cX5_line 39 = .ok (.iadd, 1) := by decide +kernel
theorem dX5_line_40 : decode cX5_line 40 = .ok (.sipush 999, 3) := by decide +kernel
theorem dX5_line_43 : decode cX5_line 43 = .ok (.if_icmp .gt 16, 3) := by decide +kernel
theorem dX5_line_46 : decode cX5_line 46 = .ok (.iload_n 2, 1) := by decide +kernel
theorem dX5_line_47 : decode cX5_line 47 = .ok (.iload_n 3, 1) := by decide +kernel
theorem dX5_line_48 : decode cX5_line 48 = .ok (.iadd, 1) := by decide +kernel
theorem dX5_line_49 : decode cX5_line 49 = .ok (.sipush 999, 3) := by decide +kernel
theorem dX5_line_52 : decode cX5_line 52 = .ok (.if_icmp .gt 7, 3) := by decide +kernel
theorem dX5_line_55 : decode cX5_line 55 = .ok (.iconst 1, 1) := by decide +kernel
theorem dX5_line_56 : decode cX5_line 56 = .ok (.goto 4, 3) := by decide +kernel
theorem dX5_line_59 : decode cX5_line 59 = .ok (.iconst 0, 1) := by decide +kernel
theorem dX5_line_60 : decode cX5_line 60 = .ok (.istore 5, 2) := by decide +kernel
theorem dX5_line_62 : decode cX5_line 62 = .ok (.aload_n 0, 1) := by decide +kernel
theorem dX5_line_63 : decode cX5_line 63 = .ok (.iload 5, 2) := by decide +kernel
theorem dX5_line_65 : decode cX5_line 65 = .ok (.ifCond .ne 7, 3) := by decide +kernel
theorem dX5_line_68 : decode cX5_line 68 = .ok (.iconst 1, 1) := by decide +kernel
theorem dX5_line_69 : decode cX5_line 69 = .ok (.goto 16, 3) := by decide +kernel
theorem dX5_line_72 : decode cX5_line 72 = .ok (.aload_n 0, 1) := by decide +kernel
theorem dX5_line_73 : decode cX5_line 73 = .ok (.getfield 76, 3) := by decide +kernel
theorem dX5_line_76 : decode cX5_line 76 = .ok (.iconst 3, 1) := by decide +kernel
theorem dX5_line_77 : decode cX5_line 77 = .ok (.if_icmp .ne 7, 3) := by decide +kernel
theorem dX5_line_80 : decode cX5_line 80 = .ok (.iconst 2, 1) := by decide +kernel
theorem dX5_line_81 : decode cX5_line 81 = .ok (.goto 4, 3) := by decide +kernel
theorem dX5_line_84 : decode cX5_line 84 = .ok (.iconst 0, 1) := by decide +kernel
theorem dX5_line_85 : decode cX5_line 85 = .ok (.invokevirtual 70, 3) := by decide +kernel
theorem dX5_line_88 : decode cX5_line 88 = .ok (.ifCond .eq 5, 3) := by decide +kernel
theorem dX5_line_91 : decode cX5_line 91 = .ok (.iconst 0, 1) := by decide +kernel
theorem dX5_line_92 : decode cX5_line 92 = .ok (.ireturn, 1) := by decide +kernel
theorem dX5_line_93 : decode cX5_line 93 = .ok (.bipush 30, 2) := by decide +kernel
theorem dX5_line_95 : decode cX5_line 95 = .ok (.aload_n 0, 1) := by decide +kernel
theorem dX5_line_96 : decode cX5_line 96 = .ok (.getfield 76, 3) := by decide +kernel
theorem dX5_line_99 : decode cX5_line 99 = .ok (.iadd, 1) := by decide +kernel
theorem dX5_line_100 : decode cX5_line 100 = .ok (.istore 6, 2) := by decide +kernel
theorem dX5_line_102 : decode cX5_line 102 = .ok (.aload_n 0, 1) := by decide +kernel
theorem dX5_line_103 : decode cX5_line 103 = .ok (.getfield 23, 3) := by decide +kernel
theorem dX5_line_106 : decode cX5_line 106 = .ok (.iload 6, 2) := by decide +kernel
theorem dX5_line_108 : decode cX5_line 108 = .ok (.iload_n 1, 1) := by decide +kernel
theorem dX5_line_109 : decode cX5_line 109 = .ok (.iastore, 1) := by decide +kernel
theorem dX5_line_110 : decode cX5_line 110 = .ok (.aload_n 0, 1) := by decide +kernel
theorem dX5_line_111 : decode cX5_line 111 = .ok (.getfield 26, 3) := by decide +kernel
theorem dX5_line_114 : decode cX5_line 114 = .ok (.iload 6, 2) := by decide +kernel
theorem dX5_line_116 : decode cX5_line 116 = .ok (.iload_n 2, 1) := by decide +kernel
theorem dX5_line_117 : decode cX5_line 117 = .ok (.iastore, 1) := by decide +kernel
theorem dX5_line_118 : decode cX5_line 118 = .ok (.aload_n 0, 1) := by decide +kernel
theorem dX5_line_119 : decode cX5_line 119 = .ok (.getfield 29, 3) := by decide +kernel
theorem dX5_line_122 : decode cX5_line 122 = .ok (.iload 6, 2) := by decide +kernel
theorem dX5_line_124 : decode cX5_line 124 = .ok (.iload_n 3, 1) := by decide +kernel
theorem dX5_line_125 : decode cX5_line 125 = .ok (.iastore, 1) := by decide +kernel
theorem dX5_line_126 : decode cX5_line 126 = .ok (.aload_n 0, 1) := by decide +kernel
theorem dX5_line_127 : decode cX5_line 127 = .ok (.dup, 1) := by decide +kernel
theorem dX5_line_128 : decode cX5_line 128 = .ok (.getfield 76, 3) := by decide +kernel
theorem dX5_line_131 : decode cX5_line 131 = .ok (.iconst 1, 1) := by decide +kernel
theorem dX5_line_132 : decode cX5_line 132 = .ok (.iadd, 1) := by decide +kernel
theorem dX5_line_133 : decode cX5_line 133 = .ok (.putfield 76, 3) := by decide +kernel
theorem dX5_line_136 : decode cX5_line 136 = .ok (.aload_n 0, 1) := by decide +kernel
theorem dX5_line_137 : decode cX5_line 137 = .ok (.getfield 76, 3) := by decide +kernel
theorem dX5_line_140 : decode cX5_line 140 = .ok (.ireturn, 1) := by decide +kernel
theorem dX5_mapped_0 : decode cX5_mapped 0 = .ok (.iconst (-1), 1) := by decide +kernel
theorem dX5_mapped_1 : decode cX5_mapped 1 = .ok (.istore_n 3, 1) := by decide +kernel
theorem dX5_mapped_2 : decode cX5_mapped 2 = .ok (.iconst 3, 1) := by decide +kernel
theorem dX5_mapped_3 : decode cX5_mapped 3 = .ok (.iload_n 1, 1) := by decide +kernel
theorem dX5_mapped_4 : decode cX5_mapped 4 = .ok (.imul, 1) := by decide +kernel
theorem dX5_mapped_5 : decode cX5_mapped 5 = .ok (.istore 4, 2) := by decide +kernel
theorem dX5_mapped_7 : decode cX5_mapped 7 = .ok (.iload 4, 2) := by decide +kernel
theorem dX5_mapped_9 : decode cX5_mapped 9 = .ok (.iconst 3, 1) := by decide +kernel
theorem dX5_mapped_10 : decode cX5_mapped 10 = .ok (.iload_n 1, 1) := by decide +kernel
theorem dX5_mapped_11 : decode cX5_mapped 11 = .ok (.imul, 1) := by decide +kernel
theorem dX5_mapped_12 : decode cX5_mapped 12 = .ok (.aload_n 0, 1) := by decide +kernel
theorem dX5_mapped_13 : decode cX5_mapped 13 = .ok (.getfield 20, 3) := by decide +kernel
theorem dX5_mapped_16 : decode cX5_mapped 16 = .ok (.iload_n 1, 1) := by decide +kernel
theorem dX5_mapped_17 : decode cX5_mapped 17 = .ok (.iaload, 1) := by decide +kernel
theorem dX5_mapped_18 : decode cX5_mapped 18 = .ok (.iadd, 1) := by decide +kernel
theorem dX5_mapped_19 : decode cX5_mapped 19 = .ok (.if_icmp .ge 53, 3) := by decide +kernel
theorem dX5_mapped_22 : decode cX5_mapped 22 = .ok (.iload_n 2, 1) := by decide +kernel
theorem dX5_mapped_23 : decode cX5_mapped 23 = .ok (.aload_n 0, 1) := by decide +kernel
theorem dX5_mapped_24 : decode cX5_mapped 24 = .ok (.getfield 23, 3) := by decide +kernel
theorem dX5_mapped_27 : decode cX5_mapped 27 = .ok (.iload 4, 2) := by decide +kernel
theorem dX5_mapped_29 : decode cX5_mapped 29 = .ok (.iaload, 1) := by decide +kernel
theorem dX5_mapped_30 : decode cX5_mapped 30 = .ok (.isub, 1) := by decide +kernel
theorem dX5_mapped_31 : decode cX5_mapped 31 = .ok (.istore 5, 2) := by decide +kernel
theorem dX5_mapped_33 : decode cX5_mapped 33 = .ok (.iload 5, 2) := by decide +kernel
theorem dX5_mapped_35 : decode cX5_mapped 35 = .ok (.iconst 0, 1) := by decide +kernel
theorem dX5_mapped_36 : decode cX5_mapped 36 = .ok (.aload_n 0, 1) := by decide +kernel
theorem dX5_mapped_37 : decode cX5_mapped 37 = .ok (.getfield 29, 3) := by decide +kernel
theorem dX5_mapped_40 : decode cX5_mapped 40 = .ok (.iload 4, 2) := by decide +kernel
theorem dX5_mapped_42 : decode cX5_mapped 42 = .ok (.iaload, 1) := by decide +kernel
theorem dX5_mapped_43 : decode cX5_mapped 43 = .ok (.iconst 1, 1) := by decide +kernel
theorem dX5_mapped_44 : decode cX5_mapped 44 = .ok (.isub, 1) := by decide +kernel
theorem dX5_mapped_45 : decode cX5_mapped 45 = .ok (.invokestatic 59, 3) := by decide +kernel
theorem dX5_mapped_48 : decode cX5_mapped 48 = .ok (.ifCond .eq 16, 3) := by decide +kernel
theorem dX5_mapped_51 : decode cX5_mapped 51 = .ok (.aload_n 0, 1) := by decide +kernel
theorem dX5_mapped_52 : decode cX5_mapped 52 = .ok (.getfield 26, 3) := by decide +kernel
theorem dX5_mapped_55 : decode cX5_mapped 55 = .ok (.iload 4, 2) := by decide +kernel
theorem dX5_mapped_57 : decode cX5_mapped 57 = .ok (.iaload, 1) := by decide +kernel
theorem dX5_mapped_58 : decode cX5_mapped 58 = .ok (.iload 5, 2) := by decide +kernel
theorem dX5_mapped_60 : decode cX5_mapped 60 = .ok (.iadd, 1) := by decide +kernel
theorem dX5_mapped_61 : decode cX5_mapped 61 = .ok (.goto 4, 3) := by decide +kernel
theorem dX5_mapped_64 : decode cX5_mapped 64 = .ok (.iload_n 3, 1) := by decide +kernel
theorem dX5_mapped_65 : decode cX5_mapped 65 = .ok (.istore_n 3, 1) := by decide +kernel
theorem dX5_mapped_66 : decode cX5_mapped 66 = .ok (.iinc 4 1, 3) := by decide +kernel
theorem dX5_mapped_69 : decode cX5_mapped 69 = .ok (.goto (-62), 3) := by decide +kernel
theorem dX5_mapped_72 : decode cX5_mapped 72 = .ok (.iload_n 3, 1) := by decide +kernel
theorem dX5_mapped_73 : decode cX5_mapped 73 = .ok (.ireturn, 1) := by decide +kernel
theorem dX5_led_0 : decode cX5_led 0 = .ok (.iload_n 1, 1) := by decide +kernel
theorem dX5_led_1 : decode cX5_led 1 = .ok (.istore_n 3, 1) := by decide +kernel
theorem dX5_led_2 : decode cX5_led 2 = .ok (.iload_n 2, 1) := by decide +kernel
theorem dX5_led_3 : decode cX5_led 3 = .ok (.istore 4, 2) := by decide +kernel
theorem dX5_led_5 : decode cX5_led 5 = .ok (.iload_n 3, 1) := by decide +kernel
theorem dX5_led_6 : decode cX5_led 6 = .ok (.ifCond .eq 28, 3) := by decide +kernel
theorem dX5_led_9 : decode cX5_led 9 = .ok (.iload 4, 2) := by decide +kernel
theorem dX5_led_11 : decode cX5_led 11 = .ok (.iconst (-1), 1) := by decide +kernel
theorem dX5_led_12 : decode cX5_led 12 = .ok (.if_icmp .eq 22, 3) := by decide +kernel
theorem dX5_led_15 : decode cX5_led 15 = .ok (.aload_n 0, 1) := by decide +kernel
theorem dX5_led_16 : decode cX5_led 16 = .ok (.iload_n 3, 1) := by decide +kernel
theorem dX5_led_17 : decode cX5_led 17 = .ok (.iload 4, 2) := by decide +kernel
theorem dX5_led_19 : decode cX5_led 19 = .ok (.invokevirtual 79, 3) := by decide +kernel
theorem dX5_led_22 : decode cX5_led 22 = .ok (.istore 4, 2) := by decide +kernel
theorem dX5_led_24 : decode cX5_led 24 = .ok (.aload_n 0, 1) := by decide +kernel
theorem dX5_led_25 : decode cX5_led 25 = .ok (.getfield 13, 3) := by decide +kernel
theorem dX5_led_28 : decode cX5_led 28 = .ok (.iload_n 3, 1) := by decide +kernel
theorem dX5_led_29 : decode cX5_led 29 = .ok (.iaload, 1) := by decide +kernel
theorem dX5_led_30 : decode cX5_led 30 = .ok (.istore_n 3, 1) := by decide +kernel
theorem dX5_led_31 : decode cX5_led 31 = .ok (.goto (-26), 3) := by decide +kernel
theorem dX5_led_34 : decode cX5_led 34 = .ok (.iload 4, 2) := by decide +kernel
theorem dX5_led_36 : decode cX5_led 36 = .ok (.ireturn, 1) := by decide +kernel
theorem dX5_meet_0 : decode cX5_meet 0 = .ok (.iload_n 0, 1) := by decide +kernel
theorem dX5_meet_1 : decode cX5_meet 1 = .ok (.iload_n 2, 1) := by decide +kernel
theorem dX5_meet_2 : decode cX5_meet 2 = .ok (.iload_n 3, 1) := by decide +kernel
theorem dX5_meet_3 : decode cX5_meet 3 = .ok (.iadd, 1) := by decide +kernel
theorem dX5_meet_4 : decode cX5_meet 4 = .ok (.if_icmp .ge 14, 3) := by decide +kernel
theorem dX5_meet_7 : decode cX5_meet 7 = .ok (.iload_n 2, 1) := by decide +kernel
theorem dX5_meet_8 : decode cX5_meet 8 = .ok (.iload_n 0, 1) := by decide +kernel
theorem dX5_meet_9 : decode cX5_meet 9 = .ok (.iload_n 1, 1) := by decide +kernel
theorem dX5_meet_10 : decode cX5_meet 10 = .ok (.iadd, 1) := by decide +kernel
theorem dX5_meet_11 : decode cX5_meet 11 = .ok (.if_icmp .ge 7, 3) := by decide +kernel
theorem dX5_meet_14 : decode cX5_meet 14 = .ok (.iconst 1, 1) := by decide +kernel
theorem dX5_meet_15 : decode cX5_meet 15 = .ok (.goto 4, 3) := by decide +kernel
theorem dX5_meet_18 : decode cX5_meet 18 = .ok (.iconst 0, 1) := by decide +kernel
theorem dX5_meet_19 : decode cX5_meet 19 = .ok (.ireturn, 1) := by decide +kernel
theorem dX5_isDraftBad_0 : decode cX5_isDraftBad 0 = .ok (.aload_n 0, 1) := by decide +kernel
theorem dX5_isDraftBad_1 : decode cX5_isDraftBad 1 = .ok (.getfield 76, 3) := by decide +kernel
theorem dX5_isDraftBad_4 : decode cX5_isDraftBad 4 = .ok (.ifCond .ne 7, 3) := by decide +kernel
theorem dX5_isDraftBad_7 : decode cX5_isDraftBad 7 = .ok (.iconst 1, 1) := by decide +kernel
theorem dX5_isDraftBad_8 : decode cX5_isDraftBad 8 = .ok (.goto 4, 3) := by decide +kernel
theorem dX5_isDraftBad_11 : decode cX5_isDraftBad 11 = .ok (.iconst 0, 1) := by decide +kernel
theorem dX5_isDraftBad_12 : decode cX5_isDraftBad 12 = .ok (.istore_n 1, 1) := by decide +kernel
theorem dX5_isDraftBad_13 : decode cX5_isDraftBad 13 = .ok (.bipush 30, 2) := by decide +kernel
theorem dX5_isDraftBad_15 : decode cX5_isDraftBad 15 = .ok (.istore_n 2, 1) := by decide +kernel
theorem dX5_isDraftBad_16 : decode cX5_isDraftBad 16 = .ok (.iload_n 2, 1) := by decide +kernel
theorem dX5_isDraftBad_17 : decode cX5_isDraftBad 17 = .ok (.istore_n 3, 1) := by decide +kernel
theorem dX5_isDraftBad_18 : decode cX5_isDraftBad 18 = .ok (.iload_n 3, 1) := by decide +kernel
theorem dX5_isDraftBad_19 : decode cX5_isDraftBad 19 = .ok (.iload_n 2, 1) := by decide +kernel
theorem dX5_isDraftBad_20 : decode cX5_isDraftBad 20 = .ok (.aload_n 0, 1) := by decide +kernel
theorem dX5_isDraftBad_21 : decode cX5_isDraftBad 21 = .ok (.getfield 76, 3) := by decide +kernel
theorem dX5_isDraftBad_24 : decode cX5_isDraftBad 24 = .ok (.iadd, 1) := by decide +kernel
theorem dX5_isDraftBad_25 : decode cX5_isDraftBad 25 = .ok (.if_icmp .ge 98, 3) := by decide +kernel
theorem dX5_isDraftBad_28 : decode cX5_isDraftBad 28 = .ok (.iload_n 2, 1) := by decide +kernel
theorem dX5_isDraftBad_29 : decode cX5_isDraftBad 29 = .ok (.istore 4, 2) := by decide +kernel
theorem dX5_isDraftBad_31 : decode cX5_isDraftBad 31 = .ok (.iload 4, 2) := by decide +kernel
theorem dX5_isDraftBad_33 : decode cX5_isDraftBad 33 = .ok (.iload_n 3, 1) := by decide +kernel
theorem dX5_isDraftBad_34 : decode cX5_isDraftBad 34 = .ok (.if_icmp .ge 83, 3) := by decide +kernel
theorem dX5_isDraftBad_37 : decode cX5_isDraftBad 37 = .ok (.iload_n 1, 1) := by decide +kernel
theorem dX5_isDraftBad_38 : decode cX5_isDraftBad 38 = .ok (.ifCond .ne 67, 3) := by decide +kernel
theorem dX5_isDraftBad_41 : decode cX5_isDraftBad 41 = .ok (.aload_n 0, 1) := by decide +kernel
theorem dX5_isDraftBad_42 : decode cX5_isDraftBad 42 = .ok (.getfield 23, 3) := by decide +kernel
theorem dX5_isDraftBad_45 : decode cX5_isDraftBad 45 = .ok (.iload_n 3, 1) := by decide +kernel
theorem dX5_isDraftBad_46 : decode cX5_isDraftBad 46 = .ok (.iaload, 1) := by decide +kernel
theorem dX5_isDraftBad_47 : decode cX5_isDraftBad 47 = .ok (.aload_n 0, 1) := by decide +kernel
theorem dX5_isDraftBad_48 : decode cX5_isDraftBad 48 = .ok (.getfield 29, 3) := by decide +kernel
theorem dX5_isDraftBad_51 : decode cX5_isDraftBad 51 = .ok (.iload_n 3, 1) := by decide +kernel
theorem dX5_isDraftBad_52 : decode cX5_isDraftBad 52 = .ok (.iaload, 1) := by decide +kernel
theorem dX5_isDraftBad_53 : decode cX5_isDraftBad 53 = .ok (.aload_n 0, 1) := by decide +kernel
theorem dX5_isDraftBad_54 : decode cX5_isDraftBad 54 = .ok (.getfield 23, 3) := by decide +kernel
theorem dX5_isDraftBad_57 : decode cX5_isDraftBad 57 = .ok (.iload 4, 2) := by decide +kernel
theorem dX5_isDraftBad_59 : decode cX5_isDraftBad 59 = .ok (.iaload, 1) := by decide +kernel
theorem dX5_isDraftBad_60 : decode cX5_isDraftBad 60 = .ok (.aload_n 0, 1) := by decide +kernel
theorem dX5_isDraftBad_61 : decode cX5_isDraftBad 61 = .ok (.getfield 29, 3) := by decide +kernel
theorem dX5_isDraftBad_64 : decode cX5_isDraftBad 64 = .ok (.iload 4, 2) := by decide +kernel
theorem dX5_isDraftBad_66 : decode cX5_isDraftBad 66 = .ok (.iaload, 1) := by decide +kernel
theorem dX5_isDraftBad_67 : decode cX5_isDraftBad 67 = .ok (.invokestatic 83, 3) := by decide +kernel
theorem dX5_isDraftBad_70 : decode cX5_isDraftBad 70 = .ok (.ifCond .ne 35, 3) := by decide +kernel
theorem dX5_isDraftBad_73 : decode cX5_isDraftBad 73 = .ok (.aload_n 0, 1) := by decide +kernel
theorem dX5_isDraftBad_74 : decode cX5_isDraftBad 74 = .ok (.getfield 26, 3) := by decide +kernel
theorem dX5_isDraftBad_77 : decode cX5_isDraftBad 77 = .ok (.iload_n 3, 1) := by decide +kernel
theorem dX5_isDraftBad_78 : decode cX5_isDraftBad 78 = .ok (.iaload, 1) := by decide +kernel
theorem dX5_isDraftBad_79 : decode cX5_isDraftBad 79 = .ok (.aload_n 0, 1) := by decide +kernel
theorem dX5_isDraftBad_80 : decode cX5_isDraftBad 80 = .ok (.getfield 29, 3) := by decide +kernel
theorem dX5_isDraftBad_83 : decode cX5_isDraftBad 83 = .ok (.iload_n 3, 1) := by decide +kernel
theorem dX5_isDraftBad_84 : decode cX5_isDraftBad 84 = .ok (.iaload, 1) := by decide +kernel
theorem dX5_isDraftBad_85 : decode cX5_isDraftBad 85 = .ok (.aload_n 0, 1) := by decide +kernel
theorem dX5_isDraftBad_86 : decode cX5_isDraftBad 86 = .ok (.getfield 26, 3) := by decide +kernel
theorem dX5_isDraftBad_89 : decode cX5_isDraftBad 89 = .ok (.iload 4, 2) := by decide +kernel
theorem dX5_isDraftBad_91 : decode cX5_isDraftBad 91 = .ok (.iaload, 1) := by decide +kernel
theorem dX5_isDraftBad_92 : decode cX5_isDraftBad 92 = .ok (.aload_n 0, 1) := by decide +kernel
theorem dX5_isDraftBad_93 : decode cX5_isDraftBad 93 = .ok (.getfield 29, 3) := by decide +kernel
theorem dX5_isDraftBad_96 : decode cX5_isDraftBad 96 = .ok (.iload 4, 2) := by decide +kernel
theorem dX5_isDraftBad_98 : decode cX5_isDraftBad 98 = .ok (.iaload, 1) := by decide +kernel
theorem dX5_isDraftBad_99 : decode cX5_isDraftBad 99 = .ok (.invokestatic 83, 3) := by decide +kernel
theorem dX5_isDraftBad_102 : decode cX5_isDraftBad 102 = .ok (.ifCond .eq 7, 3) := by decide +kernel
theorem dX5_isDraftBad_105 : decode cX5_isDraftBad 105 = .ok (.iconst 1, 1) := by decide +kernel
theorem dX5_isDraftBad_106 : decode cX5_isDraftBad 106 = .ok (.goto 4, 3) := by decide +kernel
theorem dX5_isDraftBad_109 : decode cX5_isDraftBad 109 = .ok (.iconst 0, 1) := by decide +kernel
theorem dX5_isDraftBad_110 : decode cX5_isDraftBad 110 = .ok (.istore_n 1, 1) := by decide +kernel
theorem dX5_isDraftBad_111 : decode cX5_isDraftBad 111 = .ok (.iinc 4 1, 3) := by decide +kernel
theorem dX5_isDraftBad_114 : decode cX5_isDraftBad 114 = .ok (.goto (-83), 3) := by decide +kernel
theorem dX5_isDraftBad_117 : decode cX5_isDraftBad 117 = .ok (.iinc 3 1, 3) := by decide +kernel
theorem dX5_isDraftBad_120 : decode cX5_isDraftBad 120 = .ok (.goto (-102), 3) := by decide +kernel
theorem dX5_isDraftBad_123 : decode cX5_isDraftBad 123 = .ok (.iload_n 1, 1) := by decide +kernel
theorem dX5_isDraftBad_124 : decode cX5_isDraftBad 124 = .ok (.ireturn, 1) := by decide +kernel
theorem dX5_isDraftLost_0 : decode cX5_isDraftLost 0 = .ok (.iconst 0, 1) := by decide +kernel
theorem dX5_isDraftLost_1 : decode cX5_isDraftLost 1 = .ok (.istore_n 2, 1) := by decide +kernel
theorem dX5_isDraftLost_2 : decode cX5_isDraftLost 2 = .ok (.bipush 30, 2) := by decide +kernel
theorem dX5_isDraftLost_4 : decode cX5_isDraftLost 4 = .ok (.istore_n 3, 1) := by decide +kernel
theorem dX5_isDraftLost_5 : decode cX5_isDraftLost 5 = .ok (.iload_n 3, 1) := by decide +kernel
theorem dX5_isDraftLost_6 : decode cX5_isDraftLost 6 = .ok (.istore 4, 2) := by decide +kernel
theorem dX5_isDraftLost_8 : decode cX5_isDraftLost 8 = .ok (.iload 4, 2) := by decide +kernel
theorem dX5_isDraftLost_10 : decode cX5_isDraftLost 10 = .ok (.iload_n 3, 1) := by decide +kernel
theorem dX5_isDraftLost_11 : decode cX5_isDraftLost 11 = .ok (.aload_n 0, 1) := by decide +kernel
theorem dX5_isDraftLost_12 : decode cX5_isDraftLost 12 = .ok (.getfield 76, 3) := by decide +kernel
theorem dX5_isDraftLost_15 : decode cX5_isDraftLost 15 = .ok (.iadd, 1) := by decide +kernel
theorem dX5_isDraftLost_16 : decode cX5_isDraftLost 16 = .ok (.if_icmp .ge 65, 3) := by decide +kernel
theorem dX5_isDraftLost_19 : decode cX5_isDraftLost 19 = .ok (.aload_n 0, 1) := by decide +kernel
theorem dX5_isDraftLost_20 : decode cX5_isDraftLost 20 = .ok (.getfield 26, 3) := by decide +kernel
theorem dX5_isDraftLost_23 : decode cX5_isDraftLost 23 = .ok (.iload 4, 2) := by decide +kernel
theorem dX5_isDraftLost_25 : decode cX5_isDraftLost 25 = .ok (.iaload, 1) := by decide +kernel
theorem dX5_isDraftLost_26 : decode cX5_isDraftLost 26 = .ok (.istore 5, 2) := by decide +kernel
theorem dX5_isDraftLost_28 : decode cX5_isDraftLost 28 = .ok (.iload 5, 2) := by decide +kernel
theorem dX5_isDraftLost_30 : decode cX5_isDraftLost 30 = .ok (.aload_n 0, 1) := by decide +kernel
theorem dX5_isDraftLost_31 : decode cX5_isDraftLost 31 = .ok (.getfield 26, 3) := by decide +kernel
theorem dX5_isDraftLost_34 : decode cX5_isDraftLost 34 = .ok (.iload 4, 2) := by decide +kernel
theorem dX5_isDraftLost_36 : decode cX5_isDraftLost 36 = .ok (.iaload, 1) := by decide +kernel
theorem dX5_isDraftLost_37 : decode cX5_isDraftLost 37 = .ok (.aload_n 0, 1) := by decide +kernel
theorem dX5_isDraftLost_38 : decode cX5_isDraftLost 38 = .ok (.getfield 29, 3) := by decide +kernel
theorem dX5_isDraftLost_41 : decode cX5_isDraftLost 41 = .ok (.iload 4, 2) := by decide +kernel
theorem dX5_isDraftLost_43 : decode cX5_isDraftLost 43 = .ok (.iaload, 1) := by decide +kernel
theorem dX5_isDraftLost_44 : decode cX5_isDraftLost 44 = .ok (.iadd, 1) := by decide +kernel
theorem dX5_isDraftLost_45 : decode cX5_isDraftLost 45 = .ok (.if_icmp .ge 30, 3) := by decide +kernel
theorem dX5_isDraftLost_48 : decode cX5_isDraftLost 48 = .ok (.iload_n 2, 1) := by decide +kernel
theorem dX5_isDraftLost_49 : decode cX5_isDraftLost 49 = .ok (.ifCond .ne 14, 3) := by decide +kernel
theorem dX5_isDraftLost_52 : decode cX5_isDraftLost 52 = .ok (.aload_n 0, 1) := by decide +kernel
theorem dX5_isDraftLost_53 : decode cX5_isDraftLost 53 = .ok (.iload_n 1, 1) := by decide +kernel
theorem dX5_isDraftLost_54 : decode cX5_isDraftLost 54 = .ok (.iload 5, 2) := by decide +kernel
theorem dX5_isDraftLost_56 : decode cX5_isDraftLost 56 = .ok (.invokevirtual 87, 3) := by decide +kernel
theorem dX5_isDraftLost_59 : decode cX5_isDraftLost 59 = .ok (.iconst (-1), 1) := by decide +kernel
theorem dX5_isDraftLost_60 : decode cX5_isDraftLost 60 = .ok (.if_icmp .ne 7, 3) := by decide +kernel
theorem dX5_isDraftLost_63 : decode cX5_isDraftLost 63 = .ok (.iconst 1, 1) := by decide +kernel
theorem dX5_isDraftLost_64 : decode cX5_isDraftLost 64 = .ok (.goto 4, 3) := by decide +kernel
theorem dX5_isDraftLost_67 : decode cX5_isDraftLost 67 = .ok (.iconst 0, 1) := by decide +kernel
theorem dX5_isDraftLost_68 : decode cX5_isDraftLost 68 = .ok (.istore_n 2, 1) := by decide +kernel
theorem dX5_isDraftLost_69 : decode cX5_isDraftLost 69 = .ok (.iinc 5 1, 3) := by decide +kernel
theorem dX5_isDraftLost_72 : decode cX5_isDraftLost 72 = .ok (.goto (-44), 3) := by decide +kernel
theorem dX5_isDraftLost_75 : decode cX5_isDraftLost 75 = .ok (.iinc 4 1, 3) := by decide +kernel
theorem dX5_isDraftLost_78 : decode cX5_isDraftLost 78 = .ok (.goto (-70), 3) := by decide +kernel
theorem dX5_isDraftLost_81 : decode cX5_isDraftLost 81 = .ok (.iload_n 2, 1) := by decide +kernel
theorem dX5_isDraftLost_82 : decode cX5_isDraftLost 82 = .ok (.ireturn, 1) := by decide +kernel
theorem dX5_mayWrite_0 : decode cX5_mayWrite 0 = .ok (.bipush 30, 2) := by decide +kernel
theorem dX5_mayWrite_2 : decode cX5_mayWrite 2 = .ok (.istore_n 3, 1) := by decide +kernel
theorem dX5_mayWrite_3 : decode cX5_mayWrite 3 = .ok (.aload_n 0, 1) := by decide +kernel
theorem dX5_mayWrite_4 : decode cX5_mayWrite 4 = .ok (.getfield 76, 3) := by decide +kernel
theorem dX5_mayWrite_7 : decode cX5_mayWrite 7 = .ok (.iconst 1, 1) := by decide +kernel
theorem dX5_mayWrite_8 : decode cX5_mayWrite 8 = .ok (.if_icmp .ne 57, 3) := by decide +kernel
theorem dX5_mayWrite_11 : decode cX5_mayWrite 11 = .ok (.aload_n 0, 1) := by decide +kernel
theorem dX5_mayWrite_12 : decode cX5_mayWrite 12 = .ok (.getfield 29, 3) := by decide +kernel
theorem dX5_mayWrite_15 : decode cX5_mayWrite 15 = .ok (.iload_n 3, 1) := by decide +kernel
theorem dX5_mayWrite_16 : decode cX5_mayWrite 16 = .ok (.iaload, 1) := by decide +kernel
theorem dX5_mayWrite_17 : decode cX5_mayWrite 17 = .ok (.iconst 1, 1) := by decide +kernel
theorem dX5_mayWrite_18 : decode cX5_mayWrite 18 = .ok (.if_icmp .ne 47, 3) := by decide +kernel
theorem dX5_mayWrite_21 : decode cX5_mayWrite 21 = .ok (.aload_n 0, 1) := by decide +kernel
theorem dX5_mayWrite_22 : decode cX5_mayWrite 22 = .ok (.getfield 38, 3) := by decide +kernel
theorem dX5_mayWrite_25 : decode cX5_mayWrite 25 = .ok (.iload_n 1, 1) := by decide +kernel
theorem dX5_mayWrite_26 : decode cX5_mayWrite 26 = .ok (.iaload, 1) := by decide +kernel
theorem dX5_mayWrite_27 : decode cX5_mayWrite 27 = .ok (.aload_n 0, 1) := by decide +kernel
theorem dX5_mayWrite_28 : decode cX5_mayWrite 28 = .ok (.getfield 17, 3) := by decide +kernel
theorem dX5_mayWrite_31 : decode cX5_mayWrite 31 = .ok (.iload_n 2, 1) := by decide +kernel
theorem dX5_mayWrite_32 : decode cX5_mayWrite 32 = .ok (.iaload, 1) := by decide +kernel
theorem dX5_mayWrite_33 : decode cX5_mayWrite 33 = .ok (.if_icmp .ne 32, 3) := by decide +kernel
theorem dX5_mayWrite_36 : decode cX5_mayWrite 36 = .ok (.aload_n 0, 1) := by decide +kernel
theorem dX5_mayWrite_37 : decode cX5_mayWrite 37 = .ok (.aload_n 0, 1) := by decide +kernel
theorem dX5_mayWrite_38 : decode cX5_mayWrite 38 = .ok (.getfield 13, 3) := by decide +kernel
theorem dX5_mayWrite_41 : decode cX5_mayWrite 41 = .ok (.iload_n 2, 1) := by decide +kernel
theorem dX5_mayWrite_42 : decode cX5_mayWrite 42 = .ok (.iaload, 1) := by decide +kernel
theorem dX5_mayWrite_43 : decode cX5_mayWrite 43 = .ok (.aload_n 0, 1) := by decide +kernel
theorem dX5_mayWrite_44 : decode cX5_mayWrite 44 = .ok (.getfield 26, 3) := by decide +kernel
theorem dX5_mayWrite_47 : decode cX5_mayWrite 47 = .ok (.iload_n 3, 1) := by decide +kernel
theorem dX5_mayWrite_48 : decode cX5_mayWrite 48 = .ok (.iaload, 1) := by decide +kernel
theorem dX5_mayWrite_49 : decode cX5_mayWrite 49 = .ok (.invokevirtual 87, 3) := by decide +kernel
theorem dX5_mayWrite_52 : decode cX5_mayWrite 52 = .ok (.aload_n 0, 1) := by decide +kernel
theorem dX5_mayWrite_53 : decode cX5_mayWrite 53 = .ok (.getfield 38, 3) := by decide +kernel
theorem dX5_mayWrite_56 : decode cX5_mayWrite 56 = .ok (.iload_n 1, 1) := by decide +kernel
theorem dX5_mayWrite_57 : decode cX5_mayWrite 57 = .ok (.iaload, 1) := by decide +kernel
theorem dX5_mayWrite_58 : decode cX5_mayWrite 58 = .ok (.if_icmp .ne 7, 3) := by decide +kernel
theorem dX5_mayWrite_61 : decode cX5_mayWrite 61 = .ok (.iconst 1, 1) := by decide +kernel
theorem dX5_mayWrite_62 : decode cX5_mayWrite 62 = .ok (.goto 4, 3) := by decide +kernel
theorem dX5_mayWrite_65 : decode cX5_mayWrite 65 = .ok (.iconst 0, 1) := by decide +kernel
theorem dX5_mayWrite_66 : decode cX5_mayWrite 66 = .ok (.istore 4, 2) := by decide +kernel
theorem dX5_mayWrite_68 : decode cX5_mayWrite 68 = .ok (.iload 4, 2) := by decide +kernel
theorem dX5_mayWrite_70 : decode cX5_mayWrite 70 = .ok (.ifCond .ne 20, 3) := by decide +kernel
theorem dX5_mayWrite_73 : decode cX5_mayWrite 73 = .ok (.aload_n 0, 1) := by decide +kernel
theorem dX5_mayWrite_74 : decode cX5_mayWrite 74 = .ok (.iload_n 1, 1) := by decide +kernel
theorem dX5_mayWrite_75 : decode cX5_mayWrite 75 = .ok (.aload_n 0, 1) := by decide +kernel
theorem dX5_mayWrite_76 : decode cX5_mayWrite 76 = .ok (.getfield 13, 3) := by decide +kernel
theorem dX5_mayWrite_79 : decode cX5_mayWrite 79 = .ok (.iload_n 2, 1) := by decide +kernel
theorem dX5_mayWrite_80 : decode cX5_mayWrite 80 = .ok (.iaload, 1) := by decide +kernel
theorem dX5_mayWrite_81 : decode cX5_mayWrite 81 = .ok (.invokevirtual 90, 3) := by decide +kernel
theorem dX5_mayWrite_84 : decode cX5_mayWrite 84 = .ok (.bipush 8, 2) := by decide +kernel
theorem dX5_mayWrite_86 : decode cX5_mayWrite 86 = .ok (.iand, 1) := by decide +kernel
theorem dX5_mayWrite_87 : decode cX5_mayWrite 87 = .ok (.ifCond .eq 7, 3) := by decide +kernel
theorem dX5_mayWrite_90 : decode cX5_mayWrite 90 = .ok (.iconst 1, 1) := by decide +kernel
theorem dX5_mayWrite_91 : decode cX5_mayWrite 91 = .ok (.goto 4, 3) := by decide +kernel
theorem dX5_mayWrite_94 : decode cX5_mayWrite 94 = .ok (.iconst 0, 1) := by decide +kernel
theorem dX5_mayWrite_95 : decode cX5_mayWrite 95 = .ok (.ireturn, 1) := by decide +kernel
theorem dX5_writeMap_0 : decode cX5_writeMap 0 = .ok (.aload_n 0, 1) := by decide +kernel
theorem dX5_writeMap_1 : decode cX5_writeMap 1 = .ok (.aload_n 0, 1) := by decide +kernel
theorem dX5_writeMap_2 : decode cX5_writeMap 2 = .ok (.iload_n 1, 1) := by decide +kernel
theorem dX5_writeMap_3 : decode cX5_writeMap 3 = .ok (.invokevirtual 66, 3) := by decide +kernel
theorem dX5_writeMap_6 : decode cX5_writeMap 6 = .ok (.ifCond .eq 19, 3) := by decide +kernel
theorem dX5_writeMap_9 : decode cX5_writeMap 9 = .ok (.aload_n 0, 1) := by decide +kernel
theorem dX5_writeMap_10 : decode cX5_writeMap 10 = .ok (.iload_n 2, 1) := by decide +kernel
theorem dX5_writeMap_11 : decode cX5_writeMap 11 = .ok (.invokevirtual 93, 3) := by decide +kernel
theorem dX5_writeMap_14 : decode cX5_writeMap 14 = .ok (.ifCond .eq 11, 3) := by decide +kernel
theorem dX5_writeMap_17 : decode cX5_writeMap 17 = .ok (.iload_n 2, 1) := by decide +kernel
theorem dX5_writeMap_18 : decode cX5_writeMap 18 = .ok (.ifCond .le 7, 3) := by decide +kernel
theorem dX5_writeMap_21 : decode cX5_writeMap 21 = .ok (.iconst 0, 1) := by decide +kernel
theorem dX5_writeMap_22 : decode cX5_writeMap 22 = .ok (.goto 4, 3) := by decide +kernel
theorem dX5_writeMap_25 : decode cX5_writeMap 25 = .ok (.iconst 1, 1) := by decide +kernel
theorem dX5_writeMap_26 : decode cX5_writeMap 26 = .ok (.invokevirtual 70, 3) := by decide +kernel
theorem dX5_writeMap_29 : decode cX5_writeMap 29 = .ok (.ifCond .eq 5, 3) := by decide +kernel
theorem dX5_writeMap_32 : decode cX5_writeMap 32 = .ok (.iconst 0, 1) := by decide +kernel
theorem dX5_writeMap_33 : decode cX5_writeMap 33 = .ok (.ireturn, 1) := by decide +kernel
theorem dX5_writeMap_34 : decode cX5_writeMap 34 = .ok (.aload_n 0, 1) := by decide +kernel
theorem dX5_writeMap_35 : decode cX5_writeMap 35 = .ok (.getfield 20, 3) := by decide +kernel
theorem dX5_writeMap_38 : decode cX5_writeMap 38 = .ok (.iload_n 2, 1) := by decide +kernel
theorem dX5_writeMap_39 : decode cX5_writeMap 39 = .ok (.iaload, 1) := by decide +kernel
theorem dX5_writeMap_40 : decode cX5_writeMap 40 = .ok (.ifCond .le 8, 3) := by decide +kernel
theorem dX5_writeMap_43 : decode cX5_writeMap 43 = .ok (.bipush (-4), 2) := by decide +kernel
theorem dX5_writeMap_45 : decode cX5_writeMap 45 = .ok (.goto 47, 3) := by decide +kernel
theorem dX5_writeMap_48 : decode cX5_writeMap 48 = .ok (.aload_n 0, 1) := by decide +kernel
theorem dX5_writeMap_49 : decode cX5_writeMap 49 = .ok (.invokevirtual 96, 3) := by decide +kernel
theorem dX5_writeMap_52 : decode cX5_writeMap 52 = .ok (.ifCond .eq 8, 3) := by decide +kernel
theorem dX5_writeMap_55 : decode cX5_writeMap 55 = .ok (.bipush (-3), 2) := by decide +kernel
theorem dX5_writeMap_57 : decode cX5_writeMap 57 = .ok (.goto 35, 3) := by decide +kernel
theorem dX5_writeMap_60 : decode cX5_writeMap 60 = .ok (.aload_n 0, 1) := by decide +kernel
theorem dX5_writeMap_61 : decode cX5_writeMap 61 = .ok (.aload_n 0, 1) := by decide +kernel
theorem dX5_writeMap_62 : decode cX5_writeMap 62 = .ok (.getfield 13, 3) := by decide +kernel
theorem dX5_writeMap_65 : decode cX5_writeMap 65 = .ok (.iload_n 2, 1) := by decide +kernel
theorem dX5_writeMap_66 : decode cX5_writeMap 66 = .ok (.iaload, 1) := by decide +kernel
theorem dX5_writeMap_67 : decode cX5_writeMap 67 = .ok (.invokevirtual 100, 3) := by decide +kernel
theorem dX5_writeMap_70 : decode cX5_writeMap 70 = .ok (.ifCond .eq 8, 3) := by decide +kernel
theorem dX5_writeMap_73 : decode cX5_writeMap 73 = .ok (.bipush (-2), 2) := by decide +kernel
theorem dX5_writeMap_75 : decode cX5_writeMap 75 = .ok (.goto 17, 3) := by decide +kernel
theorem dX5_writeMap_78 : decode cX5_writeMap 78 = .ok (.aload_n 0, 1) := by decide +kernel
theorem dX5_writeMap_79 : decode cX5_writeMap 79 = .ok (.iload_n 1, 1) := by decide +kernel
theorem dX5_writeMap_80 : decode cX5_writeMap 80 = .ok (.iload_n 2, 1) := by decide +kernel
theorem dX5_writeMap_81 : decode cX5_writeMap 81 = .ok (.invokevirtual 103, 3) := by decide +kernel
theorem dX5_writeMap_84 : decode cX5_writeMap 84 = .ok (.ifCond .eq 7, 3) := by decide +kernel
theorem dX5_writeMap_87 : decode cX5_writeMap 87 = .ok (.iconst 0, 1) := by decide +kernel
theorem dX5_writeMap_88 : decode cX5_writeMap 88 = .ok (.goto 4, 3) := by decide +kernel
theorem dX5_writeMap_91 : decode cX5_writeMap 91 = .ok (.iconst (-1), 1) := by decide +kernel
theorem dX5_writeMap_92 : decode cX5_writeMap 92 = .ok (.istore_n 3, 1) := by decide +kernel
theorem dX5_writeMap_93 : decode cX5_writeMap 93 = .ok (.aload_n 0, 1) := by decide +kernel
theorem dX5_writeMap_94 : decode cX5_writeMap 94 = .ok (.getfield 76, 3) := by decide +kernel
theorem dX5_writeMap_97 : decode cX5_writeMap 97 = .ok (.istore 4, 2) := by decide +kernel
theorem dX5_writeMap_99 : decode cX5_writeMap 99 = .ok (.aload_n 0, 1) := by decide +kernel
theorem dX5_writeMap_100 : decode cX5_writeMap 100 = .ok (.iconst 0, 1) := by decide +kernel
theorem dX5_writeMap_101 : decode cX5_writeMap 101 = .ok (.putfield 76, 3) := by decide +kernel
theorem dX5_writeMap_104 : decode cX5_writeMap 104 = .ok (.iload_n 3, 1) := by decide +kernel
theorem dX5_writeMap_105 : decode cX5_writeMap 105 = .ok (.ifCond .ge 9, 3) := by decide +kernel
theorem dX5_writeMap_108 : decode cX5_writeMap 108 = .ok (.aload_n 0, 1) := by decide +kernel
theorem dX5_writeMap_109 : decode cX5_writeMap 109 = .ok (.iload_n 3, 1) := by decide +kernel
theorem dX5_writeMap_110 : decode cX5_writeMap 110 = .ok (.invokevirtual 107, 3) := by decide +kernel
theorem dX5_writeMap_113 : decode cX5_writeMap 113 = .ok (.ireturn, 1) := by decide +kernel
theorem dX5_writeMap_114 : decode cX5_writeMap 114 = .ok (.iconst 0, 1) := by decide +kernel
theorem dX5_writeMap_115 : decode cX5_writeMap 115 = .ok (.istore 5, 2) := by decide +kernel
theorem dX5_writeMap_117 : decode cX5_writeMap 117 = .ok (.iload 5, 2) := by decide +kernel
theorem dX5_writeMap_119 : decode cX5_writeMap 119 = .ok (.iload 4, 2) := by decide +kernel
theorem dX5_writeMap_121 : decode cX5_writeMap 121 = .ok (.if_icmp .ge 70, 3) := by decide +kernel
theorem dX5_writeMap_124 : decode cX5_writeMap 124 = .ok (.bipush 30, 2) := by decide +kernel
theorem dX5_writeMap_126 : decode cX5_writeMap 126 = .ok (.iload 5, 2) := by decide +kernel
theorem dX5_writeMap_128 : decode cX5_writeMap 128 = .ok (.iadd, 1) := by decide +kernel
theorem dX5_writeMap_129 : decode cX5_writeMap 129 = .ok (.istore 6, 2) := by decide +kernel
theorem dX5_writeMap_131 : decode cX5_writeMap 131 = .ok (.aload_n 0, 1) := by decide +kernel
theorem dX5_writeMap_132 : decode cX5_writeMap 132 = .ok (.getfield 23, 3) := by decide +kernel
theorem dX5_writeMap_135 : decode cX5_writeMap 135 = .ok (.iconst 3, 1) := by decide +kernel
theorem dX5_writeMap_136 : decode cX5_writeMap 136 = .ok (.iload_n 2, 1) := by decide +kernel
theorem dX5_writeMap_137 : decode cX5_writeMap 137 = .ok (.imul, 1) := by decide +kernel
theorem dX5_writeMap_138 : decode cX5_writeMap 138 = .ok (.iload 5, 2) := by decide +kernel
theorem dX5_writeMap_140 : decode cX5_writeMap 140 = .ok (.iadd, 1) := by decide +kernel
theorem dX5_writeMap_141 : decode cX5_writeMap 141 = .ok (.aload_n 0, 1) := by decide +kernel
theorem dX5_writeMap_142 : decode cX5_writeMap 142 = .ok (.getfield 23, 3) := by decide +kernel
theorem dX5_writeMap_145 : decode cX5_writeMap 145 = .ok (.iload 6, 2) := by decide +kernel
theorem dX5_writeMap_147 : decode cX5_writeMap 147 = .ok (.iaload, 1) := by decide +kernel
theorem dX5_writeMap_148 : decode cX5_writeMap 148 = .ok (.iastore, 1) := by decide +kernel
theorem dX5_writeMap_149 : decode cX5_writeMap 149 = .ok (.aload_n 0, 1) := by decide +kernel
theorem dX5_writeMap_150 : decode cX5_writeMap 150 = .ok (.getfield 26, 3) := by decide +kernel
theorem dX5_writeMap_153 : decode cX5_writeMap 153 = .ok (.iconst 3, 1) := by decide +kernel
theorem dX5_writeMap_154 : decode cX5_writeMap 154 = .ok (.iload_n 2, 1) := by decide +kernel
theorem dX5_writeMap_155 : decode cX5_writeMap 155 = .ok (.imul, 1) := by decide +kernel
theorem dX5_writeMap_156 : decode cX5_writeMap 156 = .ok (.iload 5, 2) := by decide +kernel
theorem dX5_writeMap_158 : decode cX5_writeMap 158 = .ok (.iadd, 1) := by decide +kernel
theorem dX5_writeMap_159 : decode cX5_writeMap 159 = .ok (.aload_n 0, 1) := by decide +kernel
theorem dX5_writeMap_160 : decode cX5_writeMap 160 = .ok (.getfield 26, 3) := by decide +kernel
theorem dX5_writeMap_163 : decode cX5_writeMap 163 = .ok (.iload 6, 2) := by decide +kernel
theorem dX5_writeMap_165 : decode cX5_writeMap 165 = .ok (.iaload, 1) := by decide +kernel
theorem dX5_writeMap_166 : decode cX5_writeMap 166 = .ok (.iastore, 1) := by decide +kernel
theorem dX5_writeMap_167 : decode cX5_writeMap 167 = .ok (.aload_n 0, 1) := by decide +kernel
theorem dX5_writeMap_168 : decode cX5_writeMap 168 = .ok (.getfield 29, 3) := by decide +kernel
theorem dX5_writeMap_171 : decode cX5_writeMap 171 = .ok (.iconst 3, 1) := by decide +kernel
theorem dX5_writeMap_172 : decode cX5_writeMap 172 = .ok (.iload_n 2, 1) := by decide +kernel
theorem dX5_writeMap_173 : decode cX5_writeMap 173 = .ok (.imul, 1) := by decide +kernel
theorem dX5_writeMap_174 : decode cX5_writeMap 174 = .ok (.iload 5, 2) := by decide +kernel
theorem dX5_writeMap_176 : decode cX5_writeMap 176 = .ok (.iadd, 1) := by decide +kernel
theorem dX5_writeMap_177 : decode cX5_writeMap 177 = .ok (.aload_n 0, 1) := by decide +kernel
theorem dX5_writeMap_178 : decode cX5_writeMap 178 = .ok (.getfield 29, 3) := by decide +kernel
theorem dX5_writeMap_181 : decode cX5_writeMap 181 = .ok (.iload 6, 2) := by decide +kernel
theorem dX5_writeMap_183 : decode cX5_writeMap 183 = .ok (.iaload, 1) := by decide +kernel
theorem dX5_writeMap_184 : decode cX5_writeMap 184 = .ok (.iastore, 1) := by decide +kernel
theorem dX5_writeMap_185 : decode cX5_writeMap 185 = .ok (.iinc 5 1, 3) := by decide +kernel
theorem dX5_writeMap_188 : decode cX5_writeMap 188 = .ok (.goto (-71), 3) := by decide +kernel
theorem dX5_writeMap_191 : decode cX5_writeMap 191 = .ok (.aload_n 0, 1) := by decide +kernel
theorem dX5_writeMap_192 : decode cX5_writeMap 192 = .ok (.getfield 20, 3) := by decide +kernel
theorem dX5_writeMap_195 : decode cX5_writeMap 195 = .ok (.iload_n 2, 1) := by decide +kernel
theorem dX5_writeMap_196 : decode cX5_writeMap 196 = .ok (.iload 4, 2) := by decide +kernel
theorem dX5_writeMap_198 : decode cX5_writeMap 198 = .ok (.iastore, 1) := by decide +kernel
theorem dX5_writeMap_199 : decode cX5_writeMap 199 = .ok (.iload 4, 2) := by decide +kernel
theorem dX5_writeMap_201 : decode cX5_writeMap 201 = .ok (.ireturn, 1) := by decide +kernel
theorem dX5_rooms_0 : decode cX5_rooms 0 = .ok (.aload_n 0, 1) := by decide +kernel
theorem dX5_rooms_1 : decode cX5_rooms 1 = .ok (.aload_n 0, 1) := by decide +kernel
theorem dX5_rooms_2 : decode cX5_rooms 2 = .ok (.getfield 7, 3) := by decide +kernel
theorem dX5_rooms_5 : decode cX5_rooms 5 = .ok (.invokevirtual 111, 3) := by decide +kernel
theorem dX5_rooms_8 : decode cX5_rooms 8 = .ok (.ireturn, 1) := by decide +kernel
theorem dX5_outerOf_0 : decode cX5_outerOf 0 = .ok (.aload_n 0, 1) := by decide +kernel
theorem dX5_outerOf_1 : decode cX5_outerOf 1 = .ok (.aload_n 0, 1) := by decide +kernel
theorem dX5_outerOf_2 : decode cX5_outerOf 2 = .ok (.iload_n 1, 1) := by decide +kernel
theorem dX5_outerOf_3 : decode cX5_outerOf 3 = .ok (.invokevirtual 93, 3) := by decide +kernel
theorem dX5_outerOf_6 : decode cX5_outerOf 6 = .ok (.ifCond .eq 7, 3) := by decide +kernel
theorem dX5_outerOf_9 : decode cX5_outerOf 9 = .ok (.iconst 0, 1) := by decide +kernel
theorem dX5_outerOf_10 : decode cX5_outerOf 10 = .ok (.goto 4, 3) := by decide +kernel
theorem dX5_outerOf_13 : decode cX5_outerOf 13 = .ok (.iconst 1, 1) := by decide +kernel
theorem dX5_outerOf_14 : decode cX5_outerOf 14 = .ok (.invokevirtual 70, 3) := by decide +kernel
theorem dX5_outerOf_17 : decode cX5_outerOf 17 = .ok (.ifCond .eq 7, 3) := by decide +kernel
theorem dX5_outerOf_20 : decode cX5_outerOf 20 = .ok (.iconst 0, 1) := by decide +kernel
theorem dX5_outerOf_21 : decode cX5_outerOf 21 = .ok (.goto 9, 3) := by decide +kernel
theorem dX5_outerOf_24 : decode cX5_outerOf 24 = .ok (.aload_n 0, 1) := by decide +kernel
theorem dX5_outerOf_25 : decode cX5_outerOf 25 = .ok (.getfield 13, 3) := by decide +kernel
theorem dX5_outerOf_28 : decode cX5_outerOf 28 = .ok (.iload_n 1, 1) := by decide +kernel
theorem dX5_outerOf_29 : decode cX5_outerOf 29 = .ok (.iaload, 1) := by decide +kernel
theorem dX5_outerOf_30 : decode cX5_outerOf 30 = .ok (.ireturn, 1) := by decide +kernel
theorem dX5_noNumber_0 : decode cX5_noNumber 0 = .ok (.aload_n 0, 1) := by decide +kernel
theorem dX5_noNumber_1 : decode cX5_noNumber 1 = .ok (.aload_n 0, 1) := by decide +kernel
theorem dX5_noNumber_2 : decode cX5_noNumber 2 = .ok (.iload_n 1, 1) := by decide +kernel
theorem dX5_noNumber_3 : decode cX5_noNumber 3 = .ok (.invokevirtual 93, 3) := by decide +kernel
theorem dX5_noNumber_6 : decode cX5_noNumber 6 = .ok (.ifCond .ne 7, 3) := by decide +kernel
theorem dX5_noNumber_9 : decode cX5_noNumber 9 = .ok (.iconst 1, 1) := by decide +kernel
theorem dX5_noNumber_10 : decode cX5_noNumber 10 = .ok (.goto 15, 3) := by decide +kernel
theorem dX5_noNumber_13 : decode cX5_noNumber 13 = .ok (.iload_n 2, 1) := by decide +kernel
theorem dX5_noNumber_14 : decode cX5_noNumber 14 = .ok (.invokestatic 73, 3) := by decide +kernel
theorem dX5_noNumber_17 : decode cX5_noNumber 17 = .ok (.ifCond .eq 7, 3) := by decide +kernel
theorem dX5_noNumber_20 : decode cX5_noNumber 20 = .ok (.iconst 0, 1) := by decide +kernel
theorem dX5_noNumber_21 : decode cX5_noNumber 21 = .ok (.goto 4, 3) := by decide +kernel
theorem dX5_noNumber_24 : decode cX5_noNumber 24 = .ok (.iconst 2, 1) := by decide +kernel
theorem dX5_noNumber_25 : decode cX5_noNumber 25 = .ok (.invokevirtual 70, 3) := by decide +kernel
theorem dX5_noNumber_28 : decode cX5_noNumber 28 = .ok (.ireturn, 1) := by decide +kernel
theorem dX5_leadsTo_0 : decode cX5_leadsTo 0 = .ok (.aload_n 0, 1) := by decide +kernel
theorem dX5_leadsTo_1 : decode cX5_leadsTo 1 = .ok (.iload_n 1, 1) := by decide +kernel
theorem dX5_leadsTo_2 : decode cX5_leadsTo 2 = .ok (.iload_n 2, 1) := by decide +kernel
theorem dX5_leadsTo_3 : decode cX5_leadsTo 3 = .ok (.invokevirtual 114, 3) := by decide +kernel
theorem dX5_leadsTo_6 : decode cX5_leadsTo 6 = .ok (.ifCond .eq 7, 3) := by decide +kernel
theorem dX5_leadsTo_9 : decode cX5_leadsTo 9 = .ok (.iconst 0, 1) := by decide +kernel
theorem dX5_leadsTo_10 : decode cX5_leadsTo 10 = .ok (.goto 9, 3) := by decide +kernel
theorem dX5_leadsTo_13 : decode cX5_leadsTo 13 = .ok (.aload_n 0, 1) := by decide +kernel
theorem dX5_leadsTo_14 : decode cX5_leadsTo 14 = .ok (.iload_n 1, 1) := by decide +kernel
theorem dX5_leadsTo_15 : decode cX5_leadsTo 15 = .ok (.iload_n 2, 1) := by decide +kernel
theorem dX5_leadsTo_16 : decode cX5_leadsTo 16 = .ok (.invokevirtual 87, 3) := by decide +kernel
theorem dX5_leadsTo_19 : decode cX5_leadsTo 19 = .ok (.ireturn, 1) := by decide +kernel
theorem dX5_seen_0 : decode cX5_seen 0 = .ok (.sipush 999, 3) := by decide +kernel
theorem dX5_seen_3 : decode cX5_seen 3 = .ok (.istore_n 3, 1) := by decide +kernel
theorem dX5_seen_4 : decode cX5_seen 4 = .ok (.iconst 0, 1) := by decide +kernel
theorem dX5_seen_5 : decode cX5_seen 5 = .ok (.istore 4, 2) := by decide +kernel
theorem dX5_seen_7 : decode cX5_seen 7 = .ok (.iload 4, 2) := by decide +kernel
theorem dX5_seen_9 : decode cX5_seen 9 = .ok (.sipush 999, 3) := by decide +kernel
theorem dX5_seen_12 : decode cX5_seen 12 = .ok (.if_icmp .ge 27, 3) := by decide +kernel
theorem dX5_seen_15 : decode cX5_seen 15 = .ok (.aload_n 0, 1) := by decide +kernel
theorem dX5_seen_16 : decode cX5_seen 16 = .ok (.iload_n 1, 1) := by decide +kernel
theorem dX5_seen_17 : decode cX5_seen 17 = .ok (.iload 4, 2) := by decide +kernel
theorem dX5_seen_19 : decode cX5_seen 19 = .ok (.invokevirtual 87, 3) := by decide +kernel
theorem dX5_seen_22 : decode cX5_seen 22 = .ok (.iload_n 2, 1) := by decide +kernel
theorem dX5_seen_23 : decode cX5_seen 23 = .ok (.if_icmp .ne 8, 3) := by decide +kernel
theorem dX5_seen_26 : decode cX5_seen 26 = .ok (.iload 4, 2) := by decide +kernel
theorem dX5_seen_28 : decode cX5_seen 28 = .ok (.goto 4, 3) := by decide +kernel
theorem dX5_seen_31 : decode cX5_seen 31 = .ok (.iload_n 3, 1) := by decide +kernel
theorem dX5_seen_32 : decode cX5_seen 32 = .ok (.istore_n 3, 1) := by decide +kernel
theorem dX5_seen_33 : decode cX5_seen 33 = .ok (.iinc 4 1, 3) := by decide +kernel
theorem dX5_seen_36 : decode cX5_seen 36 = .ok (.goto (-29), 3) := by decide +kernel
theorem dX5_seen_39 : decode cX5_seen 39 = .ok (.iload_n 3, 1) := by decide +kernel
theorem dX5_seen_40 : decode cX5_seen 40 = .ok (.ireturn, 1) := by decide +kernel
theorem dX5_seenAs_0 : decode cX5_seenAs 0 = .ok (.aload_n 0, 1) := by decide +kernel
theorem dX5_seenAs_1 : decode cX5_seenAs 1 = .ok (.iload_n 1, 1) := by decide +kernel
theorem dX5_seenAs_2 : decode cX5_seenAs 2 = .ok (.iload_n 2, 1) := by decide +kernel
theorem dX5_seenAs_3 : decode cX5_seenAs 3 = .ok (.invokevirtual 114, 3) := by decide +kernel
theorem dX5_seenAs_6 : decode cX5_seenAs 6 = .ok (.ifCond .eq 7, 3) := by decide +kernel
theorem dX5_seenAs_9 : decode cX5_seenAs 9 = .ok (.iconst 0, 1) := by decide +kernel
theorem dX5_seenAs_10 : decode cX5_seenAs 10 = .ok (.goto 9, 3) := by decide +kernel
theorem dX5_seenAs_13 : decode cX5_seenAs 13 = .ok (.aload_n 0, 1) := by decide +kernel
theorem dX5_seenAs_14 : decode cX5_seenAs 14 = .ok (.iload_n 1, 1) := by decide +kernel
theorem dX5_seenAs_15 : decode cX5_seenAs 15 = .ok (.iload_n 2, 1) := by decide +kernel
theorem dX5_seenAs_16 : decode cX5_seenAs 16 = .ok (.invokevirtual 117, 3) := by decide +kernel
theorem dX5_seenAs_19 : decode cX5_seenAs 19 = .ok (.ireturn, 1) := by decide +kernel
theorem dX5_seenByLeading_0 : decode cX5_seenByLeading 0 = .ok (.aload_n 0, 1) := by decide +kernel
theorem dX5_seenByLeading_1 : decode cX5_seenByLeading 1 = .ok (.iload_n 1, 1) := by decide +kernel
theorem dX5_seenByLeading_2 : decode cX5_seenByLeading 2 = .ok (.iload_n 2, 1) := by decide +kernel
theorem dX5_seenByLeading_3 : decode cX5_seenByLeading 3 = .ok (.invokevirtual 120, 3) := by decide +kernel
theorem dX5_seenByLeading_6 : decode cX5_seenByLeading 6 = .ok (.ireturn, 1) := by decide +kernel
theorem dX5_isInside_0 : decode cX5_isInside 0 = .ok (.iload_n 1, 1) := by decide +kernel
theorem dX5_isInside_1 : decode cX5_isInside 1 = .ok (.ifCond .ne 7, 3) := by decide +kernel
theorem dX5_isInside_4 : decode cX5_isInside 4 = .ok (.iconst (-1), 1) := by decide +kernel
theorem dX5_isInside_5 : decode cX5_isInside 5 = .ok (.goto 9, 3) := by decide +kernel
theorem dX5_isInside_8 : decode cX5_isInside 8 = .ok (.aload_n 0, 1) := by decide +kernel
theorem dX5_isInside_9 : decode cX5_isInside 9 = .ok (.getfield 13, 3) := by decide +kernel
theorem dX5_isInside_12 : decode cX5_isInside 12 = .ok (.iload_n 1, 1) := by decide +kernel
theorem dX5_isInside_13 : decode cX5_isInside 13 = .ok (.iaload, 1) := by decide +kernel
theorem dX5_isInside_14 : decode cX5_isInside 14 = .ok (.istore_n 3, 1) := by decide +kernel
theorem dX5_isInside_15 : decode cX5_isInside 15 = .ok (.iload_n 3, 1) := by decide +kernel
theorem dX5_isInside_16 : decode cX5_isInside 16 = .ok (.iconst (-1), 1) := by decide +kernel
theorem dX5_isInside_17 : decode cX5_isInside 17 = .ok (.if_icmp .eq 18, 3) := by decide +kernel
theorem dX5_isInside_20 : decode cX5_isInside 20 = .ok (.iload_n 3, 1) := by decide +kernel
theorem dX5_isInside_21 : decode cX5_isInside 21 = .ok (.iload_n 2, 1) := by decide +kernel
theorem dX5_isInside_22 : decode cX5_isInside 22 = .ok (.if_icmp .eq 13, 3) := by decide +kernel
theorem dX5_isInside_25 : decode cX5_isInside 25 = .ok (.aload_n 0, 1) := by decide +kernel
theorem dX5_isInside_26 : decode cX5_isInside 26 = .ok (.getfield 13, 3) := by decide +kernel
theorem dX5_isInside_29 : decode cX5_isInside 29 = .ok (.iload_n 3, 1) := by decide +kernel
theorem dX5_isInside_30 : decode cX5_isInside 30 = .ok (.iaload, 1) := by decide +kernel
theorem dX5_isInside_31 : decode cX5_isInside 31 = .ok (.istore_n 3, 1) := by decide +kernel
theorem dX5_isInside_32 : decode cX5_isInside 32 = .ok (.goto (-17), 3) := by decide +kernel
theorem dX5_isInside_35 : decode cX5_isInside 35 = .ok (.iload_n 3, 1) := by decide +kernel
theorem dX5_isInside_36 : decode cX5_isInside 36 = .ok (.iload_n 2, 1) := by decide +kernel
theorem dX5_isInside_37 : decode cX5_isInside 37 = .ok (.if_icmp .ne 7, 3) := by decide +kernel
theorem dX5_isInside_40 : decode cX5_isInside 40 = .ok (.iconst 1, 1) := by decide +kernel
theorem dX5_isInside_41 : decode cX5_isInside 41 = .ok (.goto 4, 3) := by decide +kernel
theorem dX5_isInside_44 : decode cX5_isInside 44 = .ok (.iconst 0, 1) := by decide +kernel
theorem dX5_isInside_45 : decode cX5_isInside 45 = .ok (.ireturn, 1) := by decide +kernel
theorem dX5_held_0 : decode cX5_held 0 = .ok (.iconst 1, 1) := by decide +kernel
theorem dX5_held_1 : decode cX5_held 1 = .ok (.istore_n 3, 1) := by decide +kernel
theorem dX5_held_2 : decode cX5_held 2 = .ok (.iload_n 3, 1) := by decide +kernel
theorem dX5_held_3 : decode cX5_held 3 = .ok (.aload_n 0, 1) := by decide +kernel
theorem dX5_held_4 : decode cX5_held 4 = .ok (.getfield 7, 3) := by decide +kernel
theorem dX5_held_7 : decode cX5_held 7 = .ok (.if_icmp .ge 68, 3) := by decide +kernel
theorem dX5_held_10 : decode cX5_held 10 = .ok (.aload_n 0, 1) := by decide +kernel
theorem dX5_held_11 : decode cX5_held 11 = .ok (.getfield 17, 3) := by decide +kernel
theorem dX5_held_14 : decode cX5_held 14 = .ok (.iload_n 3, 1) := by decide +kernel
theorem dX5_held_15 : decode cX5_held 15 = .ok (.iaload, 1) := by decide +kernel
theorem dX5_held_16 : decode cX5_held 16 = .ok (.aload_n 0, 1) := by decide +kernel
theorem dX5_held_17 : decode cX5_held 17 = .ok (.getfield 38, 3) := by decide +kernel
theorem dX5_held_20 : decode cX5_held 20 = .ok (.iload_n 1, 1) := by decide +kernel
theorem dX5_held_21 : decode cX5_held 21 = .ok (.iaload, 1) := by decide +kernel
theorem dX5_held_22 : decode cX5_held 22 = .ok (.if_icmp .ne 22, 3) := by decide +kernel
theorem dX5_held_25 : decode cX5_held 25 = .ok (.aload_n 0, 1) := by decide +kernel
theorem dX5_held_26 : decode cX5_held 26 = .ok (.getfield 13, 3) := by decide +kernel
theorem dX5_held_29 : decode cX5_held 29 = .ok (.iload_n 3, 1) := by decide +kernel
theorem dX5_held_30 : decode cX5_held 30 = .ok (.iaload, 1) := by decide +kernel
theorem dX5_held_31 : decode cX5_held 31 = .ok (.aload_n 0, 1) := by decide +kernel
theorem dX5_held_32 : decode cX5_held 32 = .ok (.getfield 35, 3) := by decide +kernel
theorem dX5_held_35 : decode cX5_held 35 = .ok (.iload_n 1, 1) := by decide +kernel
theorem dX5_held_36 : decode cX5_held 36 = .ok (.iaload, 1) := by decide +kernel
theorem dX5_held_37 : decode cX5_held 37 = .ok (.if_icmp .ne 7, 3) := by decide +kernel
theorem dX5_held_40 : decode cX5_held 40 = .ok (.iconst 1, 1) := by decide +kernel
theorem dX5_held_41 : decode cX5_held 41 = .ok (.goto 4, 3) := by decide +kernel
theorem dX5_held_44 : decode cX5_held 44 = .ok (.iconst 0, 1) := by decide +kernel
theorem dX5_held_45 : decode cX5_held 45 = .ok (.istore 4, 2) := by decide +kernel
theorem dX5_held_47 : decode cX5_held 47 = .ok (.iload 4, 2) := by decide +kernel
theorem dX5_held_49 : decode cX5_held 49 = .ok (.ifCond .eq 20, 3) := by decide +kernel
theorem dX5_held_52 : decode cX5_held 52 = .ok (.iload_n 3, 1) := by decide +kernel
theorem dX5_held_53 : decode cX5_held 53 = .ok (.iload_n 2, 1) := by decide +kernel
theorem dX5_held_54 : decode cX5_held 54 = .ok (.if_icmp .eq 12, 3) := by decide +kernel
theorem dX5_held_57 : decode cX5_held 57 = .ok (.aload_n 0, 1) := by decide +kernel
theorem dX5_held_58 : decode cX5_held 58 = .ok (.iload_n 2, 1) := by decide +kernel
theorem dX5_held_59 : decode cX5_held 59 = .ok (.iload_n 3, 1) := by decide +kernel
theorem dX5_held_60 : decode cX5_held 60 = .ok (.invokevirtual 123, 3) := by decide +kernel
theorem dX5_held_63 : decode cX5_held 63 = .ok (.ifCond .eq 6, 3) := by decide +kernel
theorem dX5_held_66 : decode cX5_held 66 = .ok (.bipush 15, 2) := by decide +kernel
theorem dX5_held_68 : decode cX5_held 68 = .ok (.ireturn, 1) := by decide +kernel
theorem dX5_held_69 : decode cX5_held 69 = .ok (.iinc 3 1, 3) := by decide +kernel
theorem dX5_held_72 : decode cX5_held 72 = .ok (.goto (-70), 3) := by decide +kernel
theorem dX5_held_75 : decode cX5_held 75 = .ok (.iload_n 2, 1) := by decide +kernel
theorem dX5_held_76 : decode cX5_held 76 = .ok (.aload_n 0, 1) := by decide +kernel
theorem dX5_held_77 : decode cX5_held 77 = .ok (.getfield 35, 3) := by decide +kernel
theorem dX5_held_80 : decode cX5_held 80 = .ok (.iload_n 1, 1) := by decide +kernel
theorem dX5_held_81 : decode cX5_held 81 = .ok (.iaload, 1) := by decide +kernel
theorem dX5_held_82 : decode cX5_held 82 = .ok (.if_icmp .eq 17, 3) := by decide +kernel
theorem dX5_held_85 : decode cX5_held 85 = .ok (.aload_n 0, 1) := by decide +kernel
theorem dX5_held_86 : decode cX5_held 86 = .ok (.iload_n 2, 1) := by decide +kernel
theorem dX5_held_87 : decode cX5_held 87 = .ok (.aload_n 0, 1) := by decide +kernel
theorem dX5_held_88 : decode cX5_held 88 = .ok (.getfield 35, 3) := by decide +kernel
theorem dX5_held_91 : decode cX5_held 91 = .ok (.iload_n 1, 1) := by decide +kernel
theorem dX5_held_92 : decode cX5_held 92 = .ok (.iaload, 1) := by decide +kernel
theorem dX5_held_93 : decode cX5_held 93 = .ok (.invokevirtual 123, 3) := by decide +kernel
theorem dX5_held_96 : decode cX5_held 96 = .ok (.ifCond .eq 12, 3) := by decide +kernel
theorem dX5_held_99 : decode cX5_held 99 = .ok (.aload_n 0, 1) := by decide +kernel
theorem dX5_held_100 : decode cX5_held 100 = .ok (.getfield 41, 3) := by decide +kernel
theorem dX5_held_103 : decode cX5_held 103 = .ok (.iload_n 1, 1) := by decide +kernel
theorem dX5_held_104 : decode cX5_held 104 = .ok (.iaload, 1) := by decide +kernel
theorem dX5_held_105 : decode cX5_held 105 = .ok (.goto 4, 3) := by decide +kernel
theorem dX5_held_108 : decode cX5_held 108 = .ok (.iconst 0, 1) := by decide +kernel
theorem dX5_held_109 : decode cX5_held 109 = .ok (.ireturn, 1) := by decide +kernel
theorem dX5_fork_0 : decode cX5_fork 0 = .ok (.aload_n 0, 1) := by decide +kernel
theorem dX5_fork_1 : decode cX5_fork 1 = .ok (.aload_n 0, 1) := by decide +kernel
theorem dX5_fork_2 : decode cX5_fork 2 = .ok (.iload_n 1, 1) := by decide +kernel
theorem dX5_fork_3 : decode cX5_fork 3 = .ok (.invokevirtual 66, 3) := by decide +kernel
theorem dX5_fork_6 : decode cX5_fork 6 = .ok (.ifCond .ne 7, 3) := by decide +kernel
theorem dX5_fork_9 : decode cX5_fork 9 = .ok (.iconst 1, 1) := by decide +kernel
theorem dX5_fork_10 : decode cX5_fork 10 = .ok (.goto 17, 3) := by decide +kernel
theorem dX5_fork_13 : decode cX5_fork 13 = .ok (.aload_n 0, 1) := by decide +kernel
theorem dX5_fork_14 : decode cX5_fork 14 = .ok (.getfield 32, 3) := by decide +kernel
theorem dX5_fork_17 : decode cX5_fork 17 = .ok (.bipush 12, 2) := by decide +kernel
theorem dX5_fork_19 : decode cX5_fork 19 = .ok (.if_icmp .ne 7, 3) := by decide +kernel
theorem dX5_fork_22 : decode cX5_fork 22 = .ok (.iconst 2, 1) := by decide +kernel
theorem dX5_fork_23 : decode cX5_fork 23 = .ok (.goto 4, 3) := by decide +kernel
theorem dX5_fork_26 : decode cX5_fork 26 = .ok (.iconst 0, 1) := by decide +kernel
theorem dX5_fork_27 : decode cX5_fork 27 = .ok (.invokevirtual 70, 3) := by decide +kernel
theorem dX5_fork_30 : decode cX5_fork 30 = .ok (.ifCond .eq 5, 3) := by decide +kernel
theorem dX5_fork_33 : decode cX5_fork 33 = .ok (.iconst 0, 1) := by decide +kernel
theorem dX5_fork_34 : decode cX5_fork 34 = .ok (.ireturn, 1) := by decide +kernel
theorem dX5_fork_35 : decode cX5_fork 35 = .ok (.aload_n 0, 1) := by decide +kernel
theorem dX5_fork_36 : decode cX5_fork 36 = .ok (.getfield 35, 3) := by decide +kernel
theorem dX5_fork_39 : decode cX5_fork 39 = .ok (.aload_n 0, 1) := by decide +kernel
theorem dX5_fork_40 : decode cX5_fork 40 = .ok (.getfield 32, 3) := by decide +kernel
theorem dX5_fork_43 : decode cX5_fork 43 = .ok (.aload_n 0, 1) := by decide +kernel
theorem dX5_fork_44 : decode cX5_fork 44 = .ok (.getfield 35, 3) := by decide +kernel
theorem dX5_fork_47 : decode cX5_fork 47 = .ok (.iload_n 1, 1) := by decide +kernel
theorem dX5_fork_48 : decode cX5_fork 48 = .ok (.iaload, 1) := by decide +kernel
theorem dX5_fork_49 : decode cX5_fork 49 = .ok (.iastore, 1) := by decide +kernel
theorem dX5_fork_50 : decode cX5_fork 50 = .ok (.aload_n 0, 1) := by decide +kernel
theorem dX5_fork_51 : decode cX5_fork 51 = .ok (.getfield 38, 3) := by decide +kernel
theorem dX5_fork_54 : decode cX5_fork 54 = .ok (.aload_n 0, 1) := by decide +kernel
theorem dX5_fork_55 : decode cX5_fork 55 = .ok (.getfield 32, 3) := by decide +kernel
theorem dX5_fork_58 : decode cX5_fork 58 = .ok (.aload_n 0, 1) := by decide +kernel
theorem dX5_fork_59 : decode cX5_fork 59 = .ok (.getfield 38, 3) := by decide +kernel
theorem dX5_fork_62 : decode cX5_fork 62 = .ok (.iload_n 1, 1) := by decide +kernel
theorem dX5_fork_63 : decode cX5_fork 63 = .ok (.iaload, 1) := by decide +kernel
theorem dX5_fork_64 : decode cX5_fork 64 = .ok (.iastore, 1) := by decide +kernel
theorem dX5_fork_65 : decode cX5_fork 65 = .ok (.aload_n 0, 1) := by decide +kernel
theorem dX5_fork_66 : decode cX5_fork 66 = .ok (.getfield 41, 3) := by decide +kernel
theorem dX5_fork_69 : decode cX5_fork 69 = .ok (.aload_n 0, 1) := by decide +kernel
theorem dX5_fork_70 : decode cX5_fork 70 = .ok (.getfield 32, 3) := by decide +kernel
theorem dX5_fork_73 : decode cX5_fork 73 = .ok (.aload_n 0, 1) := by decide +kernel
theorem dX5_fork_74 : decode cX5_fork 74 = .ok (.getfield 41, 3) := by decide +kernel
theorem dX5_fork_77 : decode cX5_fork 77 = .ok (.iload_n 1, 1) := by decide +kernel
theorem dX5_fork_78 : decode cX5_fork 78 = .ok (.iaload, 1) := by decide +kernel
theorem dX5_fork_79 : decode cX5_fork 79 = .ok (.iastore, 1) := by decide +kernel
theorem dX5_fork_80 : decode cX5_fork 80 = .ok (.aload_n 0, 1) := by decide +kernel
theorem dX5_fork_81 : decode cX5_fork 81 = .ok (.dup, 1) := by decide +kernel
theorem dX5_fork_82 : decode cX5_fork 82 = .ok (.getfield 32, 3) := by decide +kernel
theorem dX5_fork_85 : decode cX5_fork 85 = .ok (.iconst 1, 1) := by decide +kernel
theorem dX5_fork_86 : decode cX5_fork 86 = .ok (.iadd, 1) := by decide +kernel
theorem dX5_fork_87 : decode cX5_fork 87 = .ok (.putfield 32, 3) := by decide +kernel
theorem dX5_fork_90 : decode cX5_fork 90 = .ok (.aload_n 0, 1) := by decide +kernel
theorem dX5_fork_91 : decode cX5_fork 91 = .ok (.getfield 32, 3) := by decide +kernel
theorem dX5_fork_94 : decode cX5_fork 94 = .ok (.iconst 1, 1) := by decide +kernel
theorem dX5_fork_95 : decode cX5_fork 95 = .ok (.isub, 1) := by decide +kernel
theorem dX5_fork_96 : decode cX5_fork 96 = .ok (.ireturn, 1) := by decide +kernel
theorem dX5_drop_0 : decode cX5_drop 0 = .ok (.aload_n 0, 1) := by decide +kernel
theorem dX5_drop_1 : decode cX5_drop 1 = .ok (.aload_n 0, 1) := by decide +kernel
theorem dX5_drop_2 : decode cX5_drop 2 = .ok (.iload_n 1, 1) := by decide +kernel
theorem dX5_drop_3 : decode cX5_drop 3 = .ok (.invokevirtual 66, 3) := by decide +kernel
theorem dX5_drop_6 : decode cX5_drop 6 = .ok (.ifCond .ne 7, 3) := by decide +kernel
theorem dX5_drop_9 : decode cX5_drop 9 = .ok (.iconst 1, 1) := by decide +kernel
theorem dX5_drop_10 : decode cX5_drop 10 = .ok (.goto 18, 3) := by decide +kernel
theorem dX5_drop_13 : decode cX5_drop 13 = .ok (.iload_n 2, 1) := by decide +kernel
theorem dX5_drop_14 : decode cX5_drop 14 = .ok (.iconst 0, 1) := by decide +kernel
theorem dX5_drop_15 : decode cX5_drop 15 = .ok (.bipush 15, 2) := by decide +kernel
theorem dX5_drop_17 : decode cX5_drop 17 = .ok (.invokestatic 59, 3) := by decide +kernel
theorem dX5_drop_20 : decode cX5_drop 20 = .ok (.ifCond .eq 7, 3) := by decide +kernel
theorem dX5_drop_23 : decode cX5_drop 23 = .ok (.iconst 0, 1) := by decide +kernel
theorem dX5_drop_24 : decode cX5_drop 24 = .ok (.goto 4, 3) := by decide +kernel
theorem dX5_drop_27 : decode cX5_drop 27 = .ok (.iconst 2, 1) := by decide +kernel
theorem dX5_drop_28 : decode cX5_drop 28 = .ok (.invokevirtual 70, 3) := by decide +kernel
theorem dX5_drop_31 : decode cX5_drop 31 = .ok (.ifCond .eq 5, 3) := by decide +kernel
theorem dX5_drop_34 : decode cX5_drop 34 = .ok (.iconst 0, 1) := by decide +kernel
theorem dX5_drop_35 : decode cX5_drop 35 = .ok (.ireturn, 1) := by decide +kernel
theorem dX5_drop_36 : decode cX5_drop 36 = .ok (.aload_n 0, 1) := by decide +kernel
theorem dX5_drop_37 : decode cX5_drop 37 = .ok (.getfield 41, 3) := by decide +kernel
theorem dX5_drop_40 : decode cX5_drop 40 = .ok (.iload_n 1, 1) := by decide +kernel
theorem dX5_drop_41 : decode cX5_drop 41 = .ok (.dup2, 1) := by decide +kernel
theorem dX5_drop_42 : decode cX5_drop 42 = .ok (.iaload, 1) := by decide +kernel
theorem dX5_drop_43 : decode cX5_drop 43 = .ok (.iload_n 2, 1) := by decide +kernel
theorem dX5_drop_44 : decode cX5_drop 44 = .ok (.iconst (-1), 1) := by decide +kernel
theorem dX5_drop_45 : decode cX5_drop 45 = .ok (.ixor, 1) := by decide +kernel
theorem dX5_drop_46 : decode cX5_drop 46 = .ok (.iand, 1) := by decide +kernel
theorem dX5_drop_47 : decode cX5_drop 47 = .ok (.iastore, 1) := by decide +kernel
theorem dX5_drop_48 : decode cX5_drop 48 = .ok (.aload_n 0, 1) := by decide +kernel
theorem dX5_drop_49 : decode cX5_drop 49 = .ok (.getfield 41, 3) := by decide +kernel
theorem dX5_drop_52 : decode cX5_drop 52 = .ok (.iload_n 1, 1) := by decide +kernel
theorem dX5_drop_53 : decode cX5_drop 53 = .ok (.iaload, 1) := by decide +kernel
theorem dX5_drop_54 : decode cX5_drop 54 = .ok (.ireturn, 1) := by decide +kernel
theorem dX5_enter_0 : decode cX5_enter 0 = .ok (.aload_n 0, 1) := by decide +kernel
theorem dX5_enter_1 : decode cX5_enter 1 = .ok (.aload_n 0, 1) := by decide +kernel
theorem dX5_enter_2 : decode cX5_enter 2 = .ok (.iload_n 1, 1) := by decide +kernel
theorem dX5_enter_3 : decode cX5_enter 3 = .ok (.invokevirtual 66, 3) := by decide +kernel
theorem dX5_enter_6 : decode cX5_enter 6 = .ok (.ifCond .eq 15, 3) := by decide +kernel
theorem dX5_enter_9 : decode cX5_enter 9 = .ok (.aload_n 0, 1) := by decide +kernel
theorem dX5_enter_10 : decode cX5_enter 10 = .ok (.iload_n 2, 1) := by decide +kernel
theorem dX5_enter_11 : decode cX5_enter 11 = .ok (.invokevirtual 93, 3) := by decide +kernel
theorem dX5_enter_14 : decode cX5_enter 14 = .ok (.ifCond .eq 7, 3) := by decide +kernel
theorem dX5_enter_17 : decode cX5_enter 17 = .ok (.iconst 0, 1) := by decide +kernel
theorem dX5_enter_18 : decode cX5_enter 18 = .ok (.goto 4, 3) := by decide +kernel
theorem dX5_enter_21 : decode cX5_enter 21 = .ok (.iconst 1, 1) := by decide +kernel
theorem dX5_enter_22 : decode cX5_enter 22 = .ok (.invokevirtual 70, 3) := by decide +kernel
theorem dX5_enter_25 : decode cX5_enter 25 = .ok (.ifCond .eq 5, 3) := by decide +kernel
theorem dX5_enter_28 : decode cX5_enter 28 = .ok (.iconst 0, 1) := by decide +kernel
theorem dX5_enter_29 : decode cX5_enter 29 = .ok (.ireturn, 1) := by decide +kernel
theorem dX5_enter_30 : decode cX5_enter 30 = .ok (.aload_n 0, 1) := by decide +kernel
theorem dX5_enter_31 : decode cX5_enter 31 = .ok (.iload_n 2, 1) := by decide +kernel
theorem dX5_enter_32 : decode cX5_enter 32 = .ok (.aload_n 0, 1) := by decide +kernel
theorem dX5_enter_33 : decode cX5_enter 33 = .ok (.getfield 35, 3) := by decide +kernel
theorem dX5_enter_36 : decode cX5_enter 36 = .ok (.iload_n 1, 1) := by decide +kernel
theorem dX5_enter_37 : decode cX5_enter 37 = .ok (.iaload, 1) := by decide +kernel
theorem dX5_enter_38 : decode cX5_enter 38 = .ok (.invokevirtual 123, 3) := by decide +kernel
theorem dX5_enter_41 : decode cX5_enter 41 = .ok (.istore_n 3, 1) := by decide +kernel
theorem dX5_enter_42 : decode cX5_enter 42 = .ok (.iload_n 3, 1) := by decide +kernel
theorem dX5_enter_43 : decode cX5_enter 43 = .ok (.ifCond .eq 14, 3) := by decide +kernel
theorem dX5_enter_46 : decode cX5_enter 46 = .ok (.aload_n 0, 1) := by decide +kernel
theorem dX5_enter_47 : decode cX5_enter 47 = .ok (.iload_n 1, 1) := by decide +kernel
theorem dX5_enter_48 : decode cX5_enter 48 = .ok (.iload_n 2, 1) := by decide +kernel
theorem dX5_enter_49 : decode cX5_enter 49 = .ok (.invokevirtual 90, 3) := by decide +kernel
theorem dX5_enter_52 : decode cX5_enter 52 = .ok (.iconst 1, 1) := by decide +kernel
theorem dX5_enter_53 : decode cX5_enter 53 = .ok (.iand, 1) := by decide +kernel
theorem dX5_enter_54 : decode cX5_enter 54 = .ok (.ifCond .ne 18, 3) := by decide +kernel
theorem dX5_enter_57 : decode cX5_enter 57 = .ok (.aload_n 0, 1) := by decide +kernel
theorem dX5_enter_58 : decode cX5_enter 58 = .ok (.iload_n 3, 1) := by decide +kernel
theorem dX5_enter_59 : decode cX5_enter 59 = .ok (.ifCond .eq 7, 3) := by decide +kernel
theorem dX5_enter_62 : decode cX5_enter 62 = .ok (.iconst (-1), 1) := by decide +kernel
theorem dX5_enter_63 : decode cX5_enter 63 = .ok (.goto 5, 3) := by decide +kernel
theorem dX5_enter_66 : decode cX5_enter 66 = .ok (.bipush (-5), 2) := by decide +kernel
theorem dX5_enter_68 : decode cX5_enter 68 = .ok (.invokevirtual 107, 3) := by decide +kernel
theorem dX5_enter_71 : decode cX5_enter 71 = .ok (.ireturn, 1) := by decide +kernel
theorem dX5_enter_72 : decode cX5_enter 72 = .ok (.aload_n 0, 1) := by decide +kernel
theorem dX5_enter_73 : decode cX5_enter 73 = .ok (.getfield 35, 3) := by decide +kernel
theorem dX5_enter_76 : decode cX5_enter 76 = .ok (.iload_n 1, 1) := by decide +kernel
theorem dX5_enter_77 : decode cX5_enter 77 = .ok (.iload_n 2, 1) := by decide +kernel
theorem dX5_enter_78 : decode cX5_enter 78 = .ok (.iastore, 1) := by decide +kernel
theorem dX5_enter_79 : decode cX5_enter 79 = .ok (.aload_n 0, 1) := by decide +kernel
theorem dX5_enter_80 : decode cX5_enter 80 = .ok (.getfield 41, 3) := by decide +kernel
theorem dX5_enter_83 : decode cX5_enter 83 = .ok (.iload_n 1, 1) := by decide +kernel
theorem dX5_enter_84 : decode cX5_enter 84 = .ok (.bipush 15, 2) := by decide +kernel
theorem dX5_enter_86 : decode cX5_enter 86 = .ok (.iastore, 1) := by decide +kernel
theorem dX5_enter_87 : decode cX5_enter 87 = .ok (.bipush 15, 2) := by decide +kernel
theorem dX5_enter_89 : decode cX5_enter 89 = .ok (.ireturn, 1) := by decide +kernel
theorem dX5_setNumber_0 : decode cX5_setNumber 0 = .ok (.aload_n 0, 1) := by decide +kernel
theorem dX5_setNumber_1 : decode cX5_setNumber 1 = .ok (.aload_n 0, 1) := by decide +kernel
theorem dX5_setNumber_2 : decode cX5_setNumber 2 = .ok (.iload_n 1, 1) := by decide +kernel
theorem dX5_setNumber_3 : decode cX5_setNumber 3 = .ok (.invokevirtual 66, 3) := by decide +kernel
theorem dX5_setNumber_6 : decode cX5_setNumber 6 = .ok (.ifCond .ne 7, 3) := by decide +kernel
theorem dX5_setNumber_9 : decode cX5_setNumber 9 = .ok (.iconst 1, 1) := by decide +kernel
theorem dX5_setNumber_10 : decode cX5_setNumber 10 = .ok (.goto 15, 3) := by decide +kernel
theorem dX5_setNumber_13 : decode cX5_setNumber 13 = .ok (.iload_n 2, 1) := by decide +kernel
theorem dX5_setNumber_14 : decode cX5_setNumber 14 = .ok (.invokestatic 73, 3) := by decide +kernel
theorem dX5_setNumber_17 : decode cX5_setNumber 17 = .ok (.ifCond .eq 7, 3) := by decide +kernel
theorem dX5_setNumber_20 : decode cX5_setNumber 20 = .ok (.iconst 0, 1) := by decide +kernel
theorem dX5_setNumber_21 : decode cX5_setNumber 21 = .ok (.goto 4, 3) := by decide +kernel
theorem dX5_setNumber_24 : decode cX5_setNumber 24 = .ok (.iconst 2, 1) := by decide +kernel
theorem dX5_setNumber_25 : decode cX5_setNumber 25 = .ok (.invokevirtual 70, 3) := by decide +kernel
theorem dX5_setNumber_28 : decode cX5_setNumber 28 = .ok (.ifCond .eq 5, 3) := by decide +kernel
theorem dX5_setNumber_31 : decode cX5_setNumber 31 = .ok (.iconst 0, 1) := by decide +kernel
theorem dX5_setNumber_32 : decode cX5_setNumber 32 = .ok (.ireturn, 1) := by decide +kernel
theorem dX5_setNumber_33 : decode cX5_setNumber 33 = .ok (.aload_n 0, 1) := by decide +kernel
theorem dX5_setNumber_34 : decode cX5_setNumber 34 = .ok (.aload_n 0, 1) := by decide +kernel
theorem dX5_setNumber_35 : decode cX5_setNumber 35 = .ok (.getfield 35, 3) := by decide +kernel
theorem dX5_setNumber_38 : decode cX5_setNumber 38 = .ok (.iload_n 1, 1) := by decide +kernel
theorem dX5_setNumber_39 : decode cX5_setNumber 39 = .ok (.iaload, 1) := by decide +kernel
theorem dX5_setNumber_40 : decode cX5_setNumber 40 = .ok (.iload_n 2, 1) := by decide +kernel
theorem dX5_setNumber_41 : decode cX5_setNumber 41 = .ok (.invokevirtual 87, 3) := by decide +kernel
theorem dX5_setNumber_44 : decode cX5_setNumber 44 = .ok (.istore_n 3, 1) := by decide +kernel
theorem dX5_setNumber_45 : decode cX5_setNumber 45 = .ok (.iload_n 3, 1) := by decide +kernel
theorem dX5_setNumber_46 : decode cX5_setNumber 46 = .ok (.aload_n 0, 1) := by decide +kernel
theorem dX5_setNumber_47 : decode cX5_setNumber 47 = .ok (.getfield 38, 3) := by decide +kernel
theorem dX5_setNumber_50 : decode cX5_setNumber 50 = .ok (.iload_n 1, 1) := by decide +kernel
theorem dX5_setNumber_51 : decode cX5_setNumber 51 = .ok (.iaload, 1) := by decide +kernel
theorem dX5_setNumber_52 : decode cX5_setNumber 52 = .ok (.if_icmp .eq 15, 3) := by decide +kernel
theorem dX5_setNumber_55 : decode cX5_setNumber 55 = .ok (.aload_n 0, 1) := by decide +kernel
theorem dX5_setNumber_56 : decode cX5_setNumber 56 = .ok (.getfield 41, 3) := by decide +kernel
theorem dX5_setNumber_59 : decode cX5_setNumber 59 = .ok (.iload_n 1, 1) := by decide +kernel
theorem dX5_setNumber_60 : decode cX5_setNumber 60 = .ok (.iaload, 1) := by decide +kernel
theorem dX5_setNumber_61 : decode cX5_setNumber 61 = .ok (.bipush 8, 2) := by decide +kernel
theorem dX5_setNumber_63 : decode cX5_setNumber 63 = .ok (.iand, 1) := by decide +kernel
theorem dX5_setNumber_64 : decode cX5_setNumber 64 = .ok (.ifCond .eq 7, 3) := by decide +kernel
theorem dX5_setNumber_67 : decode cX5_setNumber 67 = .ok (.iconst 1, 1) := by decide +kernel
theorem dX5_setNumber_68 : decode cX5_setNumber 68 = .ok (.goto 4, 3) := by decide +kernel
theorem dX5_setNumber_71 : decode cX5_setNumber 71 = .ok (.iconst 0, 1) := by decide +kernel
theorem dX5_setNumber_72 : decode cX5_setNumber 72 = .ok (.istore 4, 2) := by decide +kernel
theorem dX5_setNumber_74 : decode cX5_setNumber 74 = .ok (.iload_n 3, 1) := by decide +kernel
theorem dX5_setNumber_75 : decode cX5_setNumber 75 = .ok (.iconst (-1), 1) := by decide +kernel
theorem dX5_setNumber_76 : decode cX5_setNumber 76 = .ok (.if_icmp .eq 8, 3) := by decide +kernel
theorem dX5_setNumber_79 : decode cX5_setNumber 79 = .ok (.iload 4, 2) := by decide +kernel
theorem dX5_setNumber_81 : decode cX5_setNumber 81 = .ok (.ifCond .ne 19, 3) := by decide +kernel
theorem dX5_setNumber_84 : decode cX5_setNumber 84 = .ok (.aload_n 0, 1) := by decide +kernel
theorem dX5_setNumber_85 : decode cX5_setNumber 85 = .ok (.iload_n 3, 1) := by decide +kernel
theorem dX5_setNumber_86 : decode cX5_setNumber 86 = .ok (.iconst (-1), 1) := by decide +kernel
theorem dX5_setNumber_87 : decode cX5_setNumber 87 = .ok (.if_icmp .ne 8, 3) := by decide +kernel
theorem dX5_setNumber_90 : decode cX5_setNumber 90 = .ok (.bipush (-2), 2) := by decide +kernel
theorem dX5_setNumber_92 : decode cX5_setNumber 92 = .ok (.goto 4, 3) := by decide +kernel
theorem dX5_setNumber_95 : decode cX5_setNumber 95 = .ok (.iconst (-1), 1) := by decide +kernel
theorem dX5_setNumber_96 : decode cX5_setNumber 96 = .ok (.invokevirtual 107, 3) := by decide +kernel
theorem dX5_setNumber_99 : decode cX5_setNumber 99 = .ok (.ireturn, 1) := by decide +kernel
theorem dX5_setNumber_100 : decode cX5_setNumber 100 = .ok (.aload_n 0, 1) := by decide +kernel
theorem dX5_setNumber_101 : decode cX5_setNumber 101 = .ok (.aload_n 0, 1) := by decide +kernel
theorem dX5_setNumber_102 : decode cX5_setNumber 102 = .ok (.getfield 35, 3) := by decide +kernel
theorem dX5_setNumber_105 : decode cX5_setNumber 105 = .ok (.iload_n 1, 1) := by decide +kernel
theorem dX5_setNumber_106 : decode cX5_setNumber 106 = .ok (.iaload, 1) := by decide +kernel
theorem dX5_setNumber_107 : decode cX5_setNumber 107 = .ok (.aload_n 0, 1) := by decide +kernel
theorem dX5_setNumber_108 : decode cX5_setNumber 108 = .ok (.getfield 38, 3) := by decide +kernel
theorem dX5_setNumber_111 : decode cX5_setNumber 111 = .ok (.iload_n 1, 1) := by decide +kernel
theorem dX5_setNumber_112 : decode cX5_setNumber 112 = .ok (.iaload, 1) := by decide +kernel
theorem dX5_setNumber_113 : decode cX5_setNumber 113 = .ok (.invokevirtual 117, 3) := by decide +kernel
theorem dX5_setNumber_116 : decode cX5_setNumber 116 = .ok (.ifCond .ne 7, 3) := by decide +kernel
theorem dX5_setNumber_119 : decode cX5_setNumber 119 = .ok (.iconst 1, 1) := by decide +kernel
theorem dX5_setNumber_120 : decode cX5_setNumber 120 = .ok (.goto 4, 3) := by decide +kernel
theorem dX5_setNumber_123 : decode cX5_setNumber 123 = .ok (.iconst 0, 1) := by decide +kernel
theorem dX5_setNumber_124 : decode cX5_setNumber 124 = .ok (.istore 5, 2) := by decide +kernel
theorem dX5_setNumber_126 : decode cX5_setNumber 126 = .ok (.aload_n 0, 1) := by decide +kernel
theorem dX5_setNumber_127 : decode cX5_setNumber 127 = .ok (.getfield 38, 3) := by decide +kernel
theorem dX5_setNumber_130 : decode cX5_setNumber 130 = .ok (.iload_n 1, 1) := by decide +kernel
theorem dX5_setNumber_131 : decode cX5_setNumber 131 = .ok (.iload_n 3, 1) := by decide +kernel
theorem dX5_setNumber_132 : decode cX5_setNumber 132 = .ok (.iastore, 1) := by decide +kernel
theorem dX5_setNumber_133 : decode cX5_setNumber 133 = .ok (.aload_n 0, 1) := by decide +kernel
theorem dX5_setNumber_134 : decode cX5_setNumber 134 = .ok (.getfield 41, 3) := by decide +kernel
theorem dX5_setNumber_137 : decode cX5_setNumber 137 = .ok (.iload_n 1, 1) := by decide +kernel
theorem dX5_setNumber_138 : decode cX5_setNumber 138 = .ok (.iload 5, 2) := by decide +kernel
theorem dX5_setNumber_140 : decode cX5_setNumber 140 = .ok (.ifCond .eq 11, 3) := by decide +kernel
theorem dX5_setNumber_143 : decode cX5_setNumber 143 = .ok (.iload_n 2, 1) := by decide +kernel
theorem dX5_setNumber_144 : decode cX5_setNumber 144 = .ok (.ifCond .eq 7, 3) := by decide +kernel
theorem dX5_setNumber_147 : decode cX5_setNumber 147 = .ok (.iconst 0, 1) := by decide +kernel
theorem dX5_setNumber_148 : decode cX5_setNumber 148 = .ok (.goto 9, 3) := by decide +kernel
theorem dX5_setNumber_151 : decode cX5_setNumber 151 = .ok (.aload_n 0, 1) := by decide +kernel
theorem dX5_setNumber_152 : decode cX5_setNumber 152 = .ok (.getfield 41, 3) := by decide +kernel
theorem dX5_setNumber_155 : decode cX5_setNumber 155 = .ok (.iload_n 1, 1) := by decide +kernel
theorem dX5_setNumber_156 : decode cX5_setNumber 156 = .ok (.iaload, 1) := by decide +kernel
theorem dX5_setNumber_157 : decode cX5_setNumber 157 = .ok (.iastore, 1) := by decide +kernel
theorem dX5_setNumber_158 : decode cX5_setNumber 158 = .ok (.iload_n 3, 1) := by decide +kernel
theorem dX5_setNumber_159 : decode cX5_setNumber 159 = .ok (.ireturn, 1) := by decide +kernel
theorem dX5_processes_0 : decode cX5_processes 0 = .ok (.aload_n 0, 1) := by decide +kernel
theorem dX5_processes_1 : decode cX5_processes 1 = .ok (.aload_n 0, 1) := by decide +kernel
theorem dX5_processes_2 : decode cX5_processes 2 = .ok (.getfield 32, 3) := by decide +kernel
theorem dX5_processes_5 : decode cX5_processes 5 = .ok (.invokevirtual 111, 3) := by decide +kernel
theorem dX5_processes_8 : decode cX5_processes 8 = .ok (.ireturn, 1) := by decide +kernel
theorem dX5_noProcess_0 : decode cX5_noProcess 0 = .ok (.aload_n 0, 1) := by decide +kernel
theorem dX5_noProcess_1 : decode cX5_noProcess 1 = .ok (.aload_n 0, 1) := by decide +kernel
theorem dX5_noProcess_2 : decode cX5_noProcess 2 = .ok (.iload_n 1, 1) := by decide +kernel
theorem dX5_noProcess_3 : decode cX5_noProcess 3 = .ok (.invokevirtual 66, 3) := by decide +kernel
theorem dX5_noProcess_6 : decode cX5_noProcess 6 = .ok (.ifCond .eq 7, 3) := by decide +kernel
theorem dX5_noProcess_9 : decode cX5_noProcess 9 = .ok (.iconst 0, 1) := by decide +kernel
theorem dX5_noProcess_10 : decode cX5_noProcess 10 = .ok (.goto 4, 3) := by decide +kernel
theorem dX5_noProcess_13 : decode cX5_noProcess 13 = .ok (.iconst 1, 1) := by decide +kernel
theorem dX5_noProcess_14 : decode cX5_noProcess 14 = .ok (.invokevirtual 70, 3) := by decide +kernel
theorem dX5_noProcess_17 : decode cX5_noProcess 17 = .ok (.ireturn, 1) := by decide +kernel
theorem dX5_roomOf_0 : decode cX5_roomOf 0 = .ok (.aload_n 0, 1) := by decide +kernel
theorem dX5_roomOf_1 : decode cX5_roomOf 1 = .ok (.iload_n 1, 1) := by decide +kernel
theorem dX5_roomOf_2 : decode cX5_roomOf 2 = .ok (.invokevirtual 126, 3) := by decide +kernel
theorem dX5_roomOf_5 : decode cX5_roomOf 5 = .ok (.ifCond .eq 7, 3) := by decide +kernel
theorem dX5_roomOf_8 : decode cX5_roomOf 8 = .ok (.iconst 0, 1) := by decide +kernel
theorem dX5_roomOf_9 : decode cX5_roomOf 9 = .ok (.goto 9, 3) := by decide +kernel
theorem dX5_roomOf_12 : decode cX5_roomOf 12 = .ok (.aload_n 0, 1) := by decide +kernel
theorem dX5_roomOf_13 : decode cX5_roomOf 13 = .ok (.getfield 35, 3) := by decide +kernel
theorem dX5_roomOf_16 : decode cX5_roomOf 16 = .ok (.iload_n 1, 1) := by decide +kernel
theorem dX5_roomOf_17 : decode cX5_roomOf 17 = .ok (.iaload, 1) := by decide +kernel
theorem dX5_roomOf_18 : decode cX5_roomOf 18 = .ok (.ireturn, 1) := by decide +kernel
theorem dX5_numberOf_0 : decode cX5_numberOf 0 = .ok (.aload_n 0, 1) := by decide +kernel
theorem dX5_numberOf_1 : decode cX5_numberOf 1 = .ok (.iload_n 1, 1) := by decide +kernel
theorem dX5_numberOf_2 : decode cX5_numberOf 2 = .ok (.invokevirtual 126, 3) := by decide +kernel
theorem dX5_numberOf_5 : decode cX5_numberOf 5 = .ok (.ifCond .eq 7, 3) := by decide +kernel
theorem dX5_numberOf_8 : decode cX5_numberOf 8 = .ok (.iconst 0, 1) := by decide +kernel
theorem dX5_numberOf_9 : decode cX5_numberOf 9 = .ok (.goto 9, 3) := by decide +kernel
theorem dX5_numberOf_12 : decode cX5_numberOf 12 = .ok (.aload_n 0, 1) := by decide +kernel
theorem dX5_numberOf_13 : decode cX5_numberOf 13 = .ok (.getfield 38, 3) := by decide +kernel
theorem dX5_numberOf_16 : decode cX5_numberOf 16 = .ok (.iload_n 1, 1) := by decide +kernel
theorem dX5_numberOf_17 : decode cX5_numberOf 17 = .ok (.iaload, 1) := by decide +kernel
theorem dX5_numberOf_18 : decode cX5_numberOf 18 = .ok (.ireturn, 1) := by decide +kernel
theorem dX5_rightsIn_0 : decode cX5_rightsIn 0 = .ok (.aload_n 0, 1) := by decide +kernel
theorem dX5_rightsIn_1 : decode cX5_rightsIn 1 = .ok (.aload_n 0, 1) := by decide +kernel
theorem dX5_rightsIn_2 : decode cX5_rightsIn 2 = .ok (.iload_n 1, 1) := by decide +kernel
theorem dX5_rightsIn_3 : decode cX5_rightsIn 3 = .ok (.invokevirtual 66, 3) := by decide +kernel
theorem dX5_rightsIn_6 : decode cX5_rightsIn 6 = .ok (.ifCond .eq 15, 3) := by decide +kernel
theorem dX5_rightsIn_9 : decode cX5_rightsIn 9 = .ok (.aload_n 0, 1) := by decide +kernel
theorem dX5_rightsIn_10 : decode cX5_rightsIn 10 = .ok (.iload_n 2, 1) := by decide +kernel
theorem dX5_rightsIn_11 : decode cX5_rightsIn 11 = .ok (.invokevirtual 93, 3) := by decide +kernel
theorem dX5_rightsIn_14 : decode cX5_rightsIn 14 = .ok (.ifCond .eq 7, 3) := by decide +kernel
theorem dX5_rightsIn_17 : decode cX5_rightsIn 17 = .ok (.iconst 0, 1) := by decide +kernel
theorem dX5_rightsIn_18 : decode cX5_rightsIn 18 = .ok (.goto 4, 3) := by decide +kernel
theorem dX5_rightsIn_21 : decode cX5_rightsIn 21 = .ok (.iconst 1, 1) := by decide +kernel
theorem dX5_rightsIn_22 : decode cX5_rightsIn 22 = .ok (.invokevirtual 70, 3) := by decide +kernel
theorem dX5_rightsIn_25 : decode cX5_rightsIn 25 = .ok (.ifCond .eq 7, 3) := by decide +kernel
theorem dX5_rightsIn_28 : decode cX5_rightsIn 28 = .ok (.iconst 0, 1) := by decide +kernel
theorem dX5_rightsIn_29 : decode cX5_rightsIn 29 = .ok (.goto 9, 3) := by decide +kernel
theorem dX5_rightsIn_32 : decode cX5_rightsIn 32 = .ok (.aload_n 0, 1) := by decide +kernel
theorem dX5_rightsIn_33 : decode cX5_rightsIn 33 = .ok (.iload_n 1, 1) := by decide +kernel
theorem dX5_rightsIn_34 : decode cX5_rightsIn 34 = .ok (.iload_n 2, 1) := by decide +kernel
theorem dX5_rightsIn_35 : decode cX5_rightsIn 35 = .ok (.invokevirtual 90, 3) := by decide +kernel
theorem dX5_rightsIn_38 : decode cX5_rightsIn 38 = .ok (.ireturn, 1) := by decide +kernel
theorem dX5_makeFile_0 : decode cX5_makeFile 0 = .ok (.aload_n 0, 1) := by decide +kernel
theorem dX5_makeFile_1 : decode cX5_makeFile 1 = .ok (.aload_n 0, 1) := by decide +kernel
theorem dX5_makeFile_2 : decode cX5_makeFile 2 = .ok (.iload_n 1, 1) := by decide +kernel
theorem dX5_makeFile_3 : decode cX5_makeFile 3 = .ok (.invokevirtual 66, 3) := by decide +kernel
theorem dX5_makeFile_6 : decode cX5_makeFile 6 = .ok (.ifCond .ne 7, 3) := by decide +kernel
theorem dX5_makeFile_9 : decode cX5_makeFile 9 = .ok (.iconst 1, 1) := by decide +kernel
theorem dX5_makeFile_10 : decode cX5_makeFile 10 = .ok (.goto 31, 3) := by decide +kernel
theorem dX5_makeFile_13 : decode cX5_makeFile 13 = .ok (.iload_n 2, 1) := by decide +kernel
theorem dX5_makeFile_14 : decode cX5_makeFile 14 = .ok (.iconst 0, 1) := by decide +kernel
theorem dX5_makeFile_15 : decode cX5_makeFile 15 = .ok (.bipush 15, 2) := by decide +kernel
theorem dX5_makeFile_17 : decode cX5_makeFile 17 = .ok (.invokestatic 59, 3) := by decide +kernel
theorem dX5_makeFile_20 : decode cX5_makeFile 20 = .ok (.ifCond .ne 7, 3) := by decide +kernel
theorem dX5_makeFile_23 : decode cX5_makeFile 23 = .ok (.iconst 2, 1) := by decide +kernel
theorem dX5_makeFile_24 : decode cX5_makeFile 24 = .ok (.goto 17, 3) := by decide +kernel
theorem dX5_makeFile_27 : decode cX5_makeFile 27 = .ok (.aload_n 0, 1) := by decide +kernel
theorem dX5_makeFile_28 : decode cX5_makeFile 28 = .ok (.getfield 63, 3) := by decide +kernel
theorem dX5_makeFile_31 : decode cX5_makeFile 31 = .ok (.bipush 20, 2) := by decide +kernel
theorem dX5_makeFile_33 : decode cX5_makeFile 33 = .ok (.if_icmp .ne 7, 3) := by decide +kernel
theorem dX5_makeFile_36 : decode cX5_makeFile 36 = .ok (.iconst 3, 1) := by decide +kernel
theorem dX5_makeFile_37 : decode cX5_makeFile 37 = .ok (.goto 4, 3) := by decide +kernel
theorem dX5_makeFile_40 : decode cX5_makeFile 40 = .ok (.iconst 0, 1) := by decide +kernel
theorem dX5_makeFile_41 : decode cX5_makeFile 41 = .ok (.invokevirtual 70, 3) := by decide +kernel
theorem dX5_makeFile_44 : decode cX5_makeFile 44 = .ok (.ifCond .eq 5, 3) := by decide +kernel
theorem dX5_makeFile_47 : decode cX5_makeFile 47 = .ok (.iconst 0, 1) := by decide +kernel
theorem dX5_makeFile_48 : decode cX5_makeFile 48 = .ok (.ireturn, 1) := by decide +kernel
theorem dX5_makeFile_49 : decode cX5_makeFile 49 = .ok (.aload_n 0, 1) := by decide +kernel
theorem dX5_makeFile_50 : decode cX5_makeFile 50 = .ok (.aload_n 0, 1) := by decide +kernel
theorem dX5_makeFile_51 : decode cX5_makeFile 51 = .ok (.getfield 35, 3) := by decide +kernel
theorem dX5_makeFile_54 : decode cX5_makeFile 54 = .ok (.iload_n 1, 1) := by decide +kernel
theorem dX5_makeFile_55 : decode cX5_makeFile 55 = .ok (.iaload, 1) := by decide +kernel
theorem dX5_makeFile_56 : decode cX5_makeFile 56 = .ok (.aload_n 0, 1) := by decide +kernel
theorem dX5_makeFile_57 : decode cX5_makeFile 57 = .ok (.getfield 38, 3) := by decide +kernel
theorem dX5_makeFile_60 : decode cX5_makeFile 60 = .ok (.iload_n 1, 1) := by decide +kernel
theorem dX5_makeFile_61 : decode cX5_makeFile 61 = .ok (.iaload, 1) := by decide +kernel
theorem dX5_makeFile_62 : decode cX5_makeFile 62 = .ok (.invokevirtual 117, 3) := by decide +kernel
theorem dX5_makeFile_65 : decode cX5_makeFile 65 = .ok (.sipush 999, 3) := by decide +kernel
theorem dX5_makeFile_68 : decode cX5_makeFile 68 = .ok (.if_icmp .ne 10, 3) := by decide +kernel
theorem dX5_makeFile_71 : decode cX5_makeFile 71 = .ok (.aload_n 0, 1) := by decide +kernel
theorem dX5_makeFile_72 : decode cX5_makeFile 72 = .ok (.bipush (-2), 2) := by decide +kernel
theorem dX5_makeFile_74 : decode cX5_makeFile 74 = .ok (.invokevirtual 107, 3) := by decide +kernel
theorem dX5_makeFile_77 : decode cX5_makeFile 77 = .ok (.ireturn, 1) := by decide +kernel
theorem dX5_makeFile_78 : decode cX5_makeFile 78 = .ok (.aload_n 0, 1) := by decide +kernel
theorem dX5_makeFile_79 : decode cX5_makeFile 79 = .ok (.getfield 44, 3) := by decide +kernel
theorem dX5_makeFile_82 : decode cX5_makeFile 82 = .ok (.aload_n 0, 1) := by decide +kernel
theorem dX5_makeFile_83 : decode cX5_makeFile 83 = .ok (.getfield 63, 3) := by decide +kernel
theorem dX5_makeFile_86 : decode cX5_makeFile 86 = .ok (.aload_n 0, 1) := by decide +kernel
theorem dX5_makeFile_87 : decode cX5_makeFile 87 = .ok (.getfield 38, 3) := by decide +kernel
theorem dX5_makeFile_90 : decode cX5_makeFile 90 = .ok (.iload_n 1, 1) := by decide +kernel
theorem dX5_makeFile_91 : decode cX5_makeFile 91 = .ok (.iaload, 1) := by decide +kernel
theorem dX5_makeFile_92 : decode cX5_makeFile 92 = .ok (.iastore, 1) := by decide +kernel
theorem dX5_makeFile_93 : decode cX5_makeFile 93 = .ok (.aload_n 0, 1) := by decide +kernel
theorem dX5_makeFile_94 : decode cX5_makeFile 94 = .ok (.getfield 47, 3) := by decide +kernel
theorem dX5_makeFile_97 : decode cX5_makeFile 97 = .ok (.aload_n 0, 1) := by decide +kernel
theorem dX5_makeFile_98 : decode cX5_makeFile 98 = .ok (.getfield 63, 3) := by decide +kernel
theorem dX5_makeFile_101 : decode cX5_makeFile 101 = .ok (.iload_n 2, 1) := by decide +kernel
theorem dX5_makeFile_102 : decode cX5_makeFile 102 = .ok (.iastore, 1) := by decide +kernel
theorem dX5_makeFile_103 : decode cX5_makeFile 103 = .ok (.aload_n 0, 1) := by decide +kernel
theorem dX5_makeFile_104 : decode cX5_makeFile 104 = .ok (.dup, 1) := by decide +kernel
theorem dX5_makeFile_105 : decode cX5_makeFile 105 = .ok (.getfield 63, 3) := by decide +kernel
theorem dX5_makeFile_108 : decode cX5_makeFile 108 = .ok (.iconst 1, 1) := by decide +kernel
theorem dX5_makeFile_109 : decode cX5_makeFile 109 = .ok (.iadd, 1) := by decide +kernel
theorem dX5_makeFile_110 : decode cX5_makeFile 110 = .ok (.putfield 63, 3) := by decide +kernel
theorem dX5_makeFile_113 : decode cX5_makeFile 113 = .ok (.aload_n 0, 1) := by decide +kernel
theorem dX5_makeFile_114 : decode cX5_makeFile 114 = .ok (.getfield 63, 3) := by decide +kernel
theorem dX5_makeFile_117 : decode cX5_makeFile 117 = .ok (.iconst 1, 1) := by decide +kernel
theorem dX5_makeFile_118 : decode cX5_makeFile 118 = .ok (.isub, 1) := by decide +kernel
theorem dX5_makeFile_119 : decode cX5_makeFile 119 = .ok (.ireturn, 1) := by decide +kernel
theorem dX5_handOver_0 : decode cX5_handOver 0 = .ok (.aload_n 0, 1) := by decide +kernel
theorem dX5_handOver_1 : decode cX5_handOver 1 = .ok (.iload_n 1, 1) := by decide +kernel
theorem dX5_handOver_2 : decode cX5_handOver 2 = .ok (.invokevirtual 66, 3) := by decide +kernel
theorem dX5_handOver_5 : decode cX5_handOver 5 = .ok (.ifCond .eq 15, 3) := by decide +kernel
theorem dX5_handOver_8 : decode cX5_handOver 8 = .ok (.aload_n 0, 1) := by decide +kernel
theorem dX5_handOver_9 : decode cX5_handOver 9 = .ok (.iload_n 2, 1) := by decide +kernel
theorem dX5_handOver_10 : decode cX5_handOver 10 = .ok (.invokevirtual 129, 3) := by decide +kernel
theorem dX5_handOver_13 : decode cX5_handOver 13 = .ok (.ifCond .eq 7, 3) := by decide +kernel
theorem dX5_handOver_16 : decode cX5_handOver 16 = .ok (.iconst 1, 1) := by decide +kernel
theorem dX5_handOver_17 : decode cX5_handOver 17 = .ok (.goto 4, 3) := by decide +kernel
theorem dX5_handOver_20 : decode cX5_handOver 20 = .ok (.iconst 0, 1) := by decide +kernel
theorem dX5_handOver_21 : decode cX5_handOver 21 = .ok (.istore 4, 2) := by decide +kernel
theorem dX5_handOver_23 : decode cX5_handOver 23 = .ok (.aload_n 0, 1) := by decide +kernel
theorem dX5_handOver_24 : decode cX5_handOver 24 = .ok (.iload 4, 2) := by decide +kernel
theorem dX5_handOver_26 : decode cX5_handOver 26 = .ok (.ifCond .ne 7, 3) := by decide +kernel
theorem dX5_handOver_29 : decode cX5_handOver 29 = .ok (.iconst 1, 1) := by decide +kernel
theorem dX5_handOver_30 : decode cX5_handOver 30 = .ok (.goto 15, 3) := by decide +kernel
theorem dX5_handOver_33 : decode cX5_handOver 33 = .ok (.iload_n 3, 1) := by decide +kernel
theorem dX5_handOver_34 : decode cX5_handOver 34 = .ok (.invokestatic 73, 3) := by decide +kernel
theorem dX5_handOver_37 : decode cX5_handOver 37 = .ok (.ifCond .eq 7, 3) := by decide +kernel
theorem dX5_handOver_40 : decode cX5_handOver 40 = .ok (.iconst 0, 1) := by decide +kernel
theorem dX5_handOver_41 : decode cX5_handOver 41 = .ok (.goto 4, 3) := by decide +kernel
theorem dX5_handOver_44 : decode cX5_handOver 44 = .ok (.iconst 2, 1) := by decide +kernel
theorem dX5_handOver_45 : decode cX5_handOver 45 = .ok (.invokevirtual 70, 3) := by decide +kernel
theorem dX5_handOver_48 : decode cX5_handOver 48 = .ok (.ifCond .eq 5, 3) := by decide +kernel
theorem dX5_handOver_51 : decode cX5_handOver 51 = .ok (.iconst 0, 1) := by decide +kernel
theorem dX5_handOver_52 : decode cX5_handOver 52 = .ok (.ireturn, 1) := by decide +kernel
theorem dX5_handOver_53 : decode cX5_handOver 53 = .ok (.aload_n 0, 1) := by decide +kernel
theorem dX5_handOver_54 : decode cX5_handOver 54 = .ok (.aload_n 0, 1) := by decide +kernel
theorem dX5_handOver_55 : decode cX5_handOver 55 = .ok (.getfield 35, 3) := by decide +kernel
theorem dX5_handOver_58 : decode cX5_handOver 58 = .ok (.iload_n 1, 1) := by decide +kernel
theorem dX5_handOver_59 : decode cX5_handOver 59 = .ok (.iaload, 1) := by decide +kernel
theorem dX5_handOver_60 : decode cX5_handOver 60 = .ok (.iload_n 3, 1) := by decide +kernel
theorem dX5_handOver_61 : decode cX5_handOver 61 = .ok (.invokevirtual 87, 3) := by decide +kernel
theorem dX5_handOver_64 : decode cX5_handOver 64 = .ok (.istore 5, 2) := by decide +kernel
theorem dX5_handOver_66 : decode cX5_handOver 66 = .ok (.iload 5, 2) := by decide +kernel
theorem dX5_handOver_68 : decode cX5_handOver 68 = .ok (.iconst (-1), 1) := by decide +kernel
theorem dX5_handOver_69 : decode cX5_handOver 69 = .ok (.if_icmp .eq 25, 3) := by decide +kernel
theorem dX5_handOver_72 : decode cX5_handOver 72 = .ok (.aload_n 0, 1) := by decide +kernel
theorem dX5_handOver_73 : decode cX5_handOver 73 = .ok (.aload_n 0, 1) := by decide +kernel
theorem dX5_handOver_74 : decode cX5_handOver 74 = .ok (.getfield 35, 3) := by decide +kernel
theorem dX5_handOver_77 : decode cX5_handOver 77 = .ok (.iload_n 1, 1) := by decide +kernel
theorem dX5_handOver_78 : decode cX5_handOver 78 = .ok (.iaload, 1) := by decide +kernel
theorem dX5_handOver_79 : decode cX5_handOver 79 = .ok (.aload_n 0, 1) := by decide +kernel
theorem dX5_handOver_80 : decode cX5_handOver 80 = .ok (.getfield 44, 3) := by decide +kernel
theorem dX5_handOver_83 : decode cX5_handOver 83 = .ok (.iload_n 2, 1) := by decide +kernel
theorem dX5_handOver_84 : decode cX5_handOver 84 = .ok (.iaload, 1) := by decide +kernel
theorem dX5_handOver_85 : decode cX5_handOver 85 = .ok (.invokevirtual 117, 3) := by decide +kernel
theorem dX5_handOver_88 : decode cX5_handOver 88 = .ok (.sipush 999, 3) := by decide +kernel
theorem dX5_handOver_91 : decode cX5_handOver 91 = .ok (.if_icmp .ne 7, 3) := by decide +kernel
theorem dX5_handOver_94 : decode cX5_handOver 94 = .ok (.iconst 1, 1) := by decide +kernel
theorem dX5_handOver_95 : decode cX5_handOver 95 = .ok (.goto 4, 3) := by decide +kernel
theorem dX5_handOver_98 : decode cX5_handOver 98 = .ok (.iconst 0, 1) := by decide +kernel
theorem dX5_handOver_99 : decode cX5_handOver 99 = .ok (.istore 6, 2) := by decide +kernel
theorem dX5_handOver_101 : decode cX5_handOver 101 = .ok (.iload 6, 2) := by decide +kernel
theorem dX5_handOver_103 : decode cX5_handOver 103 = .ok (.ifCond .ne 14, 3) := by decide +kernel
theorem dX5_handOver_106 : decode cX5_handOver 106 = .ok (.aload_n 0, 1) := by decide +kernel
theorem dX5_handOver_107 : decode cX5_handOver 107 = .ok (.getfield 41, 3) := by decide +kernel
theorem dX5_handOver_110 : decode cX5_handOver 110 = .ok (.iload_n 1, 1) := by decide +kernel
theorem dX5_handOver_111 : decode cX5_handOver 111 = .ok (.iaload, 1) := by decide +kernel
theorem dX5_handOver_112 : decode cX5_handOver 112 = .ok (.iconst 2, 1) := by decide +kernel
theorem dX5_handOver_113 : decode cX5_handOver 113 = .ok (.iand, 1) := by decide +kernel
theorem dX5_handOver_114 : decode cX5_handOver 114 = .ok (.ifCond .ne 19, 3) := by decide +kernel
theorem dX5_handOver_117 : decode cX5_handOver 117 = .ok (.aload_n 0, 1) := by decide +kernel
theorem dX5_handOver_118 : decode cX5_handOver 118 = .ok (.iload 6, 2) := by decide +kernel
theorem dX5_handOver_120 : decode cX5_handOver 120 = .ok (.ifCond .eq 8, 3) := by decide +kernel
theorem dX5_handOver_123 : decode cX5_handOver 123 = .ok (.bipush (-2), 2) := by decide +kernel
theorem dX5_handOver_125 : decode cX5_handOver 125 = .ok (.goto 4, 3) := by decide +kernel
theorem dX5_handOver_128 : decode cX5_handOver 128 = .ok (.iconst (-1), 1) := by decide +kernel
theorem dX5_handOver_129 : decode cX5_handOver 129 = .ok (.invokevirtual 107, 3) := by decide +kernel
theorem dX5_handOver_132 : decode cX5_handOver 132 = .ok (.ireturn, 1) := by decide +kernel
theorem dX5_handOver_133 : decode cX5_handOver 133 = .ok (.aload_n 0, 1) := by decide +kernel
theorem dX5_handOver_134 : decode cX5_handOver 134 = .ok (.getfield 44, 3) := by decide +kernel
theorem dX5_handOver_137 : decode cX5_handOver 137 = .ok (.iload_n 2, 1) := by decide +kernel
theorem dX5_handOver_138 : decode cX5_handOver 138 = .ok (.iload 5, 2) := by decide +kernel
theorem dX5_handOver_140 : decode cX5_handOver 140 = .ok (.iastore, 1) := by decide +kernel
theorem dX5_handOver_141 : decode cX5_handOver 141 = .ok (.iload 5, 2) := by decide +kernel
theorem dX5_handOver_143 : decode cX5_handOver 143 = .ok (.ireturn, 1) := by decide +kernel
theorem dX5_open_0 : decode cX5_open 0 = .ok (.aload_n 0, 1) := by decide +kernel
theorem dX5_open_1 : decode cX5_open 1 = .ok (.aload_n 0, 1) := by decide +kernel
theorem dX5_open_2 : decode cX5_open 2 = .ok (.iload_n 1, 1) := by decide +kernel
theorem dX5_open_3 : decode cX5_open 3 = .ok (.invokevirtual 66, 3) := by decide +kernel
theorem dX5_open_6 : decode cX5_open 6 = .ok (.ifCond .eq 15, 3) := by decide +kernel
theorem dX5_open_9 : decode cX5_open 9 = .ok (.aload_n 0, 1) := by decide +kernel
theorem dX5_open_10 : decode cX5_open 10 = .ok (.iload_n 2, 1) := by decide +kernel
theorem dX5_open_11 : decode cX5_open 11 = .ok (.invokevirtual 129, 3) := by decide +kernel
theorem dX5_open_14 : decode cX5_open 14 = .ok (.ifCond .eq 7, 3) := by decide +kernel
theorem dX5_open_17 : decode cX5_open 17 = .ok (.iconst 0, 1) := by decide +kernel
theorem dX5_open_18 : decode cX5_open 18 = .ok (.goto 4, 3) := by decide +kernel
theorem dX5_open_21 : decode cX5_open 21 = .ok (.iconst 1, 1) := by decide +kernel
theorem dX5_open_22 : decode cX5_open 22 = .ok (.invokevirtual 70, 3) := by decide +kernel
theorem dX5_open_25 : decode cX5_open 25 = .ok (.ifCond .eq 5, 3) := by decide +kernel
theorem dX5_open_28 : decode cX5_open 28 = .ok (.iconst 0, 1) := by decide +kernel
theorem dX5_open_29 : decode cX5_open 29 = .ok (.ireturn, 1) := by decide +kernel
theorem dX5_open_30 : decode cX5_open 30 = .ok (.iload_n 3, 1) := by decide +kernel
theorem dX5_open_31 : decode cX5_open 31 = .ok (.ifCond .eq 7, 3) := by decide +kernel
theorem dX5_open_34 : decode cX5_open 34 = .ok (.iconst 2, 1) := by decide +kernel
theorem dX5_open_35 : decode cX5_open 35 = .ok (.goto 4, 3) := by decide +kernel
theorem dX5_open_38 : decode cX5_open 38 = .ok (.iconst 1, 1) := by decide +kernel
theorem dX5_open_39 : decode cX5_open 39 = .ok (.aload_n 0, 1) := by decide +kernel
theorem dX5_open_40 : decode cX5_open 40 = .ok (.getfield 38, 3) := by decide +kernel
theorem dX5_open_43 : decode cX5_open 43 = .ok (.iload_n 1, 1) := by decide +kernel
theorem dX5_open_44 : decode cX5_open 44 = .ok (.iaload, 1) := by decide +kernel
theorem dX5_open_45 : decode cX5_open 45 = .ok (.aload_n 0, 1) := by decide +kernel
theorem dX5_open_46 : decode cX5_open 46 = .ok (.getfield 44, 3) := by decide +kernel
theorem dX5_open_49 : decode cX5_open 49 = .ok (.iload_n 2, 1) := by decide +kernel
theorem dX5_open_50 : decode cX5_open 50 = .ok (.iaload, 1) := by decide +kernel
theorem dX5_open_51 : decode cX5_open 51 = .ok (.if_icmp .ne 7, 3) := by decide +kernel
theorem dX5_open_54 : decode cX5_open 54 = .ok (.iconst 1, 1) := by decide +kernel
theorem dX5_open_55 : decode cX5_open 55 = .ok (.goto 4, 3) := by decide +kernel
theorem dX5_open_58 : decode cX5_open 58 = .ok (.iconst 4, 1) := by decide +kernel
theorem dX5_open_59 : decode cX5_open 59 = .ok (.imul, 1) := by decide +kernel
theorem dX5_open_60 : decode cX5_open 60 = .ok (.istore 4, 2) := by decide +kernel
theorem dX5_open_62 : decode cX5_open 62 = .ok (.aload_n 0, 1) := by decide +kernel
theorem dX5_open_63 : decode cX5_open 63 = .ok (.getfield 47, 3) := by decide +kernel
theorem dX5_open_66 : decode cX5_open 66 = .ok (.iload_n 2, 1) := by decide +kernel
theorem dX5_open_67 : decode cX5_open 67 = .ok (.iaload, 1) := by decide +kernel
theorem dX5_open_68 : decode cX5_open 68 = .ok (.iload 4, 2) := by decide +kernel
theorem dX5_open_70 : decode cX5_open 70 = .ok (.iand, 1) := by decide +kernel
theorem dX5_open_71 : decode cX5_open 71 = .ok (.ifCond .eq 5, 3) := by decide +kernel
theorem dX5_open_74 : decode cX5_open 74 = .ok (.iconst 1, 1) := by decide +kernel
theorem dX5_open_75 : decode cX5_open 75 = .ok (.ireturn, 1) := by decide +kernel
theorem dX5_open_76 : decode cX5_open 76 = .ok (.aload_n 0, 1) := by decide +kernel
theorem dX5_open_77 : decode cX5_open 77 = .ok (.getfield 41, 3) := by decide +kernel
theorem dX5_open_80 : decode cX5_open 80 = .ok (.iload_n 1, 1) := by decide +kernel
theorem dX5_open_81 : decode cX5_open 81 = .ok (.iaload, 1) := by decide +kernel
theorem dX5_open_82 : decode cX5_open 82 = .ok (.iconst 4, 1) := by decide +kernel
theorem dX5_open_83 : decode cX5_open 83 = .ok (.iand, 1) := by decide +kernel
theorem dX5_open_84 : decode cX5_open 84 = .ok (.ifCond .ne 10, 3) := by decide +kernel
theorem dX5_open_87 : decode cX5_open 87 = .ok (.aload_n 0, 1) := by decide +kernel
theorem dX5_open_88 : decode cX5_open 88 = .ok (.bipush (-6), 2) := by decide +kernel
theorem dX5_open_90 : decode cX5_open 90 = .ok (.invokevirtual 107, 3) := by decide +kernel
theorem dX5_open_93 : decode cX5_open 93 = .ok (.ireturn, 1) := by decide +kernel
theorem dX5_open_94 : decode cX5_open 94 = .ok (.aload_n 0, 1) := by decide +kernel
theorem dX5_open_95 : decode cX5_open 95 = .ok (.aload_n 0, 1) := by decide +kernel
theorem dX5_open_96 : decode cX5_open 96 = .ok (.getfield 35, 3) := by decide +kernel
theorem dX5_open_99 : decode cX5_open 99 = .ok (.iload_n 1, 1) := by decide +kernel
theorem dX5_open_100 : decode cX5_open 100 = .ok (.iaload, 1) := by decide +kernel
theorem dX5_open_101 : decode cX5_open 101 = .ok (.aload_n 0, 1) := by decide +kernel
theorem dX5_open_102 : decode cX5_open 102 = .ok (.getfield 44, 3) := by decide +kernel
theorem dX5_open_105 : decode cX5_open 105 = .ok (.iload_n 2, 1) := by decide +kernel
theorem dX5_open_106 : decode cX5_open 106 = .ok (.iaload, 1) := by decide +kernel
theorem dX5_open_107 : decode cX5_open 107 = .ok (.invokevirtual 117, 3) := by decide +kernel
theorem dX5_open_110 : decode cX5_open 110 = .ok (.sipush 999, 3) := by decide +kernel
theorem dX5_open_113 : decode cX5_open 113 = .ok (.if_icmp .ne 12, 3) := by decide +kernel
theorem dX5_open_116 : decode cX5_open 116 = .ok (.aload_n 0, 1) := by decide +kernel
theorem dX5_open_117 : decode cX5_open 117 = .ok (.bipush (-2), 2) := by decide +kernel
theorem dX5_open_119 : decode cX5_open 119 = .ok (.invokevirtual 107, 3) := by decide +kernel
theorem dX5_open_122 : decode cX5_open 122 = .ok (.goto 4, 3) := by decide +kernel
theorem dX5_open_125 : decode cX5_open 125 = .ok (.iconst 2, 1) := by decide +kernel
theorem dX5_open_126 : decode cX5_open 126 = .ok (.ireturn, 1) := by decide +kernel
theorem dX5_ownerSeenBy_0 : decode cX5_ownerSeenBy 0 = .ok (.aload_n 0, 1) := by decide +kernel
theorem dX5_ownerSeenBy_1 : decode cX5_ownerSeenBy 1 = .ok (.aload_n 0, 1) := by decide +kernel
theorem dX5_ownerSeenBy_2 : decode cX5_ownerSeenBy 2 = .ok (.iload_n 1, 1) := by decide +kernel
theorem dX5_ownerSeenBy_3 : decode cX5_ownerSeenBy 3 = .ok (.invokevirtual 66, 3) := by decide +kernel
theorem dX5_ownerSeenBy_6 : decode cX5_ownerSeenBy 6 = .ok (.ifCond .eq 15, 3) := by decide +kernel
theorem dX5_ownerSeenBy_9 : decode cX5_ownerSeenBy 9 = .ok (.aload_n 0, 1) := by decide +kernel
theorem dX5_ownerSeenBy_10 : decode cX5_ownerSeenBy 10 = .ok (.iload_n 2, 1) := by decide +kernel
theorem dX5_ownerSeenBy_11 : decode cX5_ownerSeenBy 11 = .ok (.invokevirtual 129, 3) := by decide +kernel
theorem dX5_ownerSeenBy_14 : decode cX5_ownerSeenBy 14 = .ok (.ifCond .eq 7, 3) := by decide +kernel
theorem dX5_ownerSeenBy_17 : decode cX5_ownerSeenBy 17 = .ok (.iconst 0, 1) := by decide +kernel
theorem dX5_ownerSeenBy_18 : decode cX5_ownerSeenBy 18 = .ok (.goto 4, 3) := by decide +kernel
theorem dX5_ownerSeenBy_21 : decode cX5_ownerSeenBy 21 = .ok (.iconst 1, 1) := by decide +kernel
theorem dX5_ownerSeenBy_22 : decode cX5_ownerSeenBy 22 = .ok (.invokevirtual 70, 3) := by decide +kernel
theorem dX5_ownerSeenBy_25 : decode cX5_ownerSeenBy 25 = .ok (.ifCond .eq 7, 3) := by decide +kernel
theorem dX5_ownerSeenBy_28 : decode cX5_ownerSeenBy 28 = .ok (.iconst 0, 1) := by decide +kernel
theorem dX5_ownerSeenBy_29 : decode cX5_ownerSeenBy 29 = .ok (.goto 19, 3) := by decide +kernel
theorem dX5_ownerSeenBy_32 : decode cX5_ownerSeenBy 32 = .ok (.aload_n 0, 1) := by decide +kernel
theorem dX5_ownerSeenBy_33 : decode cX5_ownerSeenBy 33 = .ok (.aload_n 0, 1) := by decide +kernel
theorem dX5_ownerSeenBy_34 : decode cX5_ownerSeenBy 34 = .ok (.getfield 35, 3) := by decide +kernel
theorem dX5_ownerSeenBy_37 : decode cX5_ownerSeenBy 37 = .ok (.iload_n 1, 1) := by decide +kernel
theorem dX5_ownerSeenBy_38 : decode cX5_ownerSeenBy 38 = .ok (.iaload, 1) := by decide +kernel
theorem dX5_ownerSeenBy_39 : decode cX5_ownerSeenBy 39 = .ok (.aload_n 0, 1) := by decide +kernel
theorem dX5_ownerSeenBy_40 : decode cX5_ownerSeenBy 40 = .ok (.getfield 44, 3) := by decide +kernel
theorem dX5_ownerSeenBy_43 : decode cX5_ownerSeenBy 43 = .ok (.iload_n 2, 1) := by decide +kernel
theorem dX5_ownerSeenBy_44 : decode cX5_ownerSeenBy 44 = .ok (.iaload, 1) := by decide +kernel
theorem dX5_ownerSeenBy_45 : decode cX5_ownerSeenBy 45 = .ok (.invokevirtual 117, 3) := by decide +kernel
theorem dX5_ownerSeenBy_48 : decode cX5_ownerSeenBy 48 = .ok (.ireturn, 1) := by decide +kernel
theorem dX5_files_0 : decode cX5_files 0 = .ok (.aload_n 0, 1) := by decide +kernel
theorem dX5_files_1 : decode cX5_files 1 = .ok (.aload_n 0, 1) := by decide +kernel
theorem dX5_files_2 : decode cX5_files 2 = .ok (.getfield 63, 3) := by decide +kernel
theorem dX5_files_5 : decode cX5_files 5 = .ok (.invokevirtual 111, 3) := by decide +kernel
theorem dX5_files_8 : decode cX5_files 8 = .ok (.ireturn, 1) := by decide +kernel
theorem dX5_refusals_0 : decode cX5_refusals 0 = .ok (.aload_n 0, 1) := by decide +kernel
theorem dX5_refusals_1 : decode cX5_refusals 1 = .ok (.aload_n 0, 1) := by decide +kernel
theorem dX5_refusals_2 : decode cX5_refusals 2 = .ok (.getfield 53, 3) := by decide +kernel
theorem dX5_refusals_5 : decode cX5_refusals 5 = .ok (.invokevirtual 111, 3) := by decide +kernel
theorem dX5_refusals_8 : decode cX5_refusals 8 = .ok (.ireturn, 1) := by decide +kernel
theorem dX5_lastRefusal_0 : decode cX5_lastRefusal 0 = .ok (.aload_n 0, 1) := by decide +kernel
theorem dX5_lastRefusal_1 : decode cX5_lastRefusal 1 = .ok (.aload_n 0, 1) := by decide +kernel
theorem dX5_lastRefusal_2 : decode cX5_lastRefusal 2 = .ok (.getfield 56, 3) := by decide +kernel
theorem dX5_lastRefusal_5 : decode cX5_lastRefusal 5 = .ok (.invokevirtual 111, 3) := by decide +kernel
theorem dX5_lastRefusal_8 : decode cX5_lastRefusal 8 = .ok (.ireturn, 1) := by decide +kernel
theorem dL_makeRoom_0 : decode cL_makeRoom 0 = .ok (.aload_n 2, 1) := by decide +kernel
theorem dL_makeRoom_1 : decode cL_makeRoom 1 = .ok (.iconst 0, 1) := by decide +kernel
theorem dL_makeRoom_2 : decode cL_makeRoom 2 = .ok (.aload_n 0, 1) := by decide +kernel
theorem dL_makeRoom_3 : decode cL_makeRoom 3 = .ok (.iload_n 1, 1) := by decide +kernel
theorem dL_makeRoom_4 : decode cL_makeRoom 4 = .ok (.invokevirtual 7, 3) := by decide +kernel
theorem dL_makeRoom_7 : decode cL_makeRoom 7 = .ok (.i2l, 1) := by decide +kernel
theorem dL_makeRoom_8 : decode cL_makeRoom 8 = .ok (.lastore, 1) := by decide +kernel
theorem dL_makeRoom_9 : decode cL_makeRoom 9 = .ok (.goto 9, 3) := by decide +kernel
theorem dL_makeRoom_12 : decode cL_makeRoom 12 = .ok (.astore_n 3, 1) := by decide +kernel
theorem dL_makeRoom_13 : decode cL_makeRoom 13 = .ok (.iconst 1, 1) := by decide +kernel
theorem dL_makeRoom_14 : decode cL_makeRoom 14 = .ok (.ireturn, 1) := by decide +kernel
theorem dL_makeRoom_15 : decode cL_makeRoom 15 = .ok (.astore_n 3, 1) := by decide +kernel
theorem dL_makeRoom_16 : decode cL_makeRoom 16 = .ok (.iconst 2, 1) := by decide +kernel
theorem dL_makeRoom_17 : decode cL_makeRoom 17 = .ok (.ireturn, 1) := by decide +kernel
theorem dL_makeRoom_18 : decode cL_makeRoom 18 = .ok (.iconst 0, 1) := by decide +kernel
theorem dL_makeRoom_19 : decode cL_makeRoom 19 = .ok (.ireturn, 1) := by decide +kernel
theorem dL_line_0 : decode cL_line 0 = .ok (.aload 4, 2) := by decide +kernel
theorem dL_line_2 : decode cL_line 2 = .ok (.iconst 0, 1) := by decide +kernel
theorem dL_line_3 : decode cL_line 3 = .ok (.aload_n 0, 1) := by decide +kernel
theorem dL_line_4 : decode cL_line 4 = .ok (.iload_n 1, 1) := by decide +kernel
theorem dL_line_5 : decode cL_line 5 = .ok (.iload_n 2, 1) := by decide +kernel
theorem dL_line_6 : decode cL_line 6 = .ok (.iload_n 3, 1) := by decide +kernel
theorem dL_line_7 : decode cL_line 7 = .ok (.invokevirtual 17, 3) := by decide +kernel
theorem dL_line_10 : decode cL_line 10 = .ok (.i2l, 1) := by decide +kernel
theorem dL_line_11 : decode cL_line 11 = .ok (.lastore, 1) := by decide +kernel
theorem dL_line_12 : decode cL_line 12 = .ok (.goto 11, 3) := by decide +kernel
theorem dL_line_15 : decode cL_line 15 = .ok (.astore 5, 2) := by decide +kernel
theorem dL_line_17 : decode cL_line 17 = .ok (.iconst 1, 1) := by decide +kernel
theorem dL_line_18 : decode cL_line 18 = .ok (.ireturn, 1) := by decide +kernel
theorem dL_line_19 : decode cL_line 19 = .ok (.astore 5, 2) := by decide +kernel
theorem dL_line_21 : decode cL_line 21 = .ok (.iconst 2, 1) := by decide +kernel
theorem dL_line_22 : decode cL_line 22 = .ok (.ireturn, 1) := by decide +kernel
theorem dL_line_23 : decode cL_line 23 = .ok (.iconst 0, 1) := by decide +kernel
theorem dL_line_24 : decode cL_line 24 = .ok (.ireturn, 1) := by decide +kernel
theorem dL_writeMap_0 : decode cL_writeMap 0 = .ok (.aload_n 3, 1) := by decide +kernel
theorem dL_writeMap_1 : decode cL_writeMap 1 = .ok (.iconst 0, 1) := by decide +kernel
theorem dL_writeMap_2 : decode cL_writeMap 2 = .ok (.aload_n 0, 1) := by decide +kernel
theorem dL_writeMap_3 : decode cL_writeMap 3 = .ok (.iload_n 1, 1) := by decide +kernel
theorem dL_writeMap_4 : decode cL_writeMap 4 = .ok (.iload_n 2, 1) := by decide +kernel
theorem dL_writeMap_5 : decode cL_writeMap 5 = .ok (.invokevirtual 23, 3) := by decide +kernel
theorem dL_writeMap_8 : decode cL_writeMap 8 = .ok (.i2l, 1) := by decide +kernel
theorem dL_writeMap_9 : decode cL_writeMap 9 = .ok (.lastore, 1) := by decide +kernel
theorem dL_writeMap_10 : decode cL_writeMap 10 = .ok (.goto 7, 3) := by decide +kernel
theorem dL_writeMap_13 : decode cL_writeMap 13 = .ok (.astore 4, 2) := by decide +kernel
theorem dL_writeMap_15 : decode cL_writeMap 15 = .ok (.iconst 1, 1) := by decide +kernel
theorem dL_writeMap_16 : decode cL_writeMap 16 = .ok (.ireturn, 1) := by decide +kernel
theorem dL_writeMap_17 : decode cL_writeMap 17 = .ok (.iconst 0, 1) := by decide +kernel
theorem dL_writeMap_18 : decode cL_writeMap 18 = .ok (.ireturn, 1) := by decide +kernel
theorem dL_outerOf_0 : decode cL_outerOf 0 = .ok (.aload_n 2, 1) := by decide +kernel
theorem dL_outerOf_1 : decode cL_outerOf 1 = .ok (.iconst 0, 1) := by decide +kernel
theorem dL_outerOf_2 : decode cL_outerOf 2 = .ok (.aload_n 0, 1) := by decide +kernel
theorem dL_outerOf_3 : decode cL_outerOf 3 = .ok (.iload_n 1, 1) := by decide +kernel
theorem dL_outerOf_4 : decode cL_outerOf 4 = .ok (.invokevirtual 27, 3) := by decide +kernel
theorem dL_outerOf_7 : decode cL_outerOf 7 = .ok (.i2l, 1) := by decide +kernel
theorem dL_outerOf_8 : decode cL_outerOf 8 = .ok (.lastore, 1) := by decide +kernel
theorem dL_outerOf_9 : decode cL_outerOf 9 = .ok (.goto 6, 3) := by decide +kernel
theorem dL_outerOf_12 : decode cL_outerOf 12 = .ok (.astore_n 3, 1) := by decide +kernel
theorem dL_outerOf_13 : decode cL_outerOf 13 = .ok (.iconst 1, 1) := by decide +kernel
theorem dL_outerOf_14 : decode cL_outerOf 14 = .ok (.ireturn, 1) := by decide +kernel
theorem dL_outerOf_15 : decode cL_outerOf 15 = .ok (.iconst 0, 1) := by decide +kernel
theorem dL_outerOf_16 : decode cL_outerOf 16 = .ok (.ireturn, 1) := by decide +kernel
theorem dL_leadsTo_0 : decode cL_leadsTo 0 = .ok (.aload_n 3, 1) := by decide +kernel
theorem dL_leadsTo_1 : decode cL_leadsTo 1 = .ok (.iconst 0, 1) := by decide +kernel
theorem dL_leadsTo_2 : decode cL_leadsTo 2 = .ok (.aload_n 0, 1) := by decide +kernel
theorem dL_leadsTo_3 : decode cL_leadsTo 3 = .ok (.iload_n 1, 1) := by decide +kernel
theorem dL_leadsTo_4 : decode cL_leadsTo 4 = .ok (.iload_n 2, 1) := by decide +kernel
theorem dL_leadsTo_5 : decode cL_leadsTo 5 = .ok (.invokevirtual 30, 3) := by decide +kernel
theorem dL_leadsTo_8 : decode cL_leadsTo 8 = .ok (.i2l, 1) := by decide +kernel
theorem dL_leadsTo_9 : decode cL_leadsTo 9 = .ok (.lastore, 1) := by decide +kernel
theorem dL_leadsTo_10 : decode cL_leadsTo 10 = .ok (.goto 11, 3) := by decide +kernel
theorem dL_leadsTo_13 : decode cL_leadsTo 13 = .ok (.astore 4, 2) := by decide +kernel
theorem dL_leadsTo_15 : decode cL_leadsTo 15 = .ok (.iconst 1, 1) := by decide +kernel
theorem dL_leadsTo_16 : decode cL_leadsTo 16 = .ok (.ireturn, 1) := by decide +kernel
theorem dL_leadsTo_17 : decode cL_leadsTo 17 = .ok (.astore 4, 2) := by decide +kernel
theorem dL_leadsTo_19 : decode cL_leadsTo 19 = .ok (.iconst 2, 1) := by decide +kernel
theorem dL_leadsTo_20 : decode cL_leadsTo 20 = .ok (.ireturn, 1) := by decide +kernel
theorem dL_leadsTo_21 : decode cL_leadsTo 21 = .ok (.iconst 0, 1) := by decide +kernel
theorem dL_leadsTo_22 : decode cL_leadsTo 22 = .ok (.ireturn, 1) := by decide +kernel
theorem dL_seenAs_0 : decode cL_seenAs 0 = .ok (.aload_n 3, 1) := by decide +kernel
theorem dL_seenAs_1 : decode cL_seenAs 1 = .ok (.iconst 0, 1) := by decide +kernel
theorem dL_seenAs_2 : decode cL_seenAs 2 = .ok (.aload_n 0, 1) := by decide +kernel
theorem dL_seenAs_3 : decode cL_seenAs 3 = .ok (.iload_n 1, 1) := by decide +kernel
theorem dL_seenAs_4 : decode cL_seenAs 4 = .ok (.iload_n 2, 1) := by decide +kernel
theorem dL_seenAs_5 : decode cL_seenAs 5 = .ok (.invokevirtual 33, 3) := by decide +kernel
theorem dL_seenAs_8 : decode cL_seenAs 8 = .ok (.i2l, 1) := by decide +kernel
theorem dL_seenAs_9 : decode cL_seenAs 9 = .ok (.lastore, 1) := by decide +kernel
theorem dL_seenAs_10 : decode cL_seenAs 10 = .ok (.goto 11, 3) := by decide +kernel
theorem dL_seenAs_13 : decode cL_seenAs 13 = .ok (.astore 4, 2) := by decide +kernel
theorem dL_seenAs_15 : decode cL_seenAs 15 = .ok (.iconst 1, 1) := by decide +kernel
theorem dL_seenAs_16 : decode cL_seenAs 16 = .ok (.ireturn, 1) := by decide +kernel
theorem dL_seenAs_17 : decode cL_seenAs 17 = .ok (.astore 4, 2) := by decide +kernel
theorem dL_seenAs_19 : decode cL_seenAs 19 = .ok (.iconst 2, 1) := by decide +kernel
theorem dL_seenAs_20 : decode cL_seenAs 20 = .ok (.ireturn, 1) := by decide +kernel
theorem dL_seenAs_21 : decode cL_seenAs 21 = .ok (.iconst 0, 1) := by decide +kernel
theorem dL_seenAs_22 : decode cL_seenAs 22 = .ok (.ireturn, 1) := by decide +kernel
theorem dL_seenByLeading_0 : decode cL_seenByLeading 0 = .ok (.aload_n 3, 1) := by decide +kernel
theorem dL_seenByLeading_1 : decode cL_seenByLeading 1 = .ok (.iconst 0, 1) := by decide +kernel
theorem dL_seenByLeading_2 : decode cL_seenByLeading 2 = .ok (.aload_n 0, 1) := by decide +kernel
theorem dL_seenByLeading_3 : decode cL_seenByLeading 3 = .ok (.iload_n 1, 1) := by decide +kernel
theorem dL_seenByLeading_4 : decode cL_seenByLeading 4 = .ok (.iload_n 2, 1) := by decide +kernel
theorem dL_seenByLeading_5 : decode cL_seenByLeading 5 = .ok (.invokevirtual 36, 3) := by decide +kernel
theorem dL_seenByLeading_8 : decode cL_seenByLeading 8 = .ok (.i2l, 1) := by decide +kernel
theorem dL_seenByLeading_9 : decode cL_seenByLeading 9 = .ok (.lastore, 1) := by decide +kernel
theorem dL_seenByLeading_10 : decode cL_seenByLeading 10 = .ok (.goto 11, 3) := by decide +kernel
theorem dL_seenByLeading_13 : decode cL_seenByLeading 13 = .ok (.astore 4, 2) := by decide +kernel
theorem dL_seenByLeading_15 : decode cL_seenByLeading 15 = .ok (.iconst 1, 1) := by decide +kernel
theorem dL_seenByLeading_16 : decode cL_seenByLeading 16 = .ok (.ireturn, 1) := by decide +kernel
theorem dL_seenByLeading_17 : decode cL_seenByLeading 17 = .ok (.astore 4, 2) := by decide +kernel
theorem dL_seenByLeading_19 : decode cL_seenByLeading 19 = .ok (.iconst 2, 1) := by decide +kernel
theorem dL_seenByLeading_20 : decode cL_seenByLeading 20 = .ok (.ireturn, 1) := by decide +kernel
theorem dL_seenByLeading_21 : decode cL_seenByLeading 21 = .ok (.iconst 0, 1) := by decide +kernel
theorem dL_seenByLeading_22 : decode cL_seenByLeading 22 = .ok (.ireturn, 1) := by decide +kernel
theorem dL_fork_0 : decode cL_fork 0 = .ok (.aload_n 2, 1) := by decide +kernel
theorem dL_fork_1 : decode cL_fork 1 = .ok (.iconst 0, 1) := by decide +kernel
theorem dL_fork_2 : decode cL_fork 2 = .ok (.aload_n 0, 1) := by decide +kernel
theorem dL_fork_3 : decode cL_fork 3 = .ok (.iload_n 1, 1) := by decide +kernel
theorem dL_fork_4 : decode cL_fork 4 = .ok (.invokevirtual 39, 3) := by decide +kernel
theorem dL_fork_7 : decode cL_fork 7 = .ok (.i2l, 1) := by decide +kernel
theorem dL_fork_8 : decode cL_fork 8 = .ok (.lastore, 1) := by decide +kernel
theorem dL_fork_9 : decode cL_fork 9 = .ok (.goto 9, 3) := by decide +kernel
theorem dL_fork_12 : decode cL_fork 12 = .ok (.astore_n 3, 1) := by decide +kernel
theorem dL_fork_13 : decode cL_fork 13 = .ok (.iconst 1, 1) := by decide +kernel
theorem dL_fork_14 : decode cL_fork 14 = .ok (.ireturn, 1) := by decide +kernel
theorem dL_fork_15 : decode cL_fork 15 = .ok (.astore_n 3, 1) := by decide +kernel
theorem dL_fork_16 : decode cL_fork 16 = .ok (.iconst 2, 1) := by decide +kernel
theorem dL_fork_17 : decode cL_fork 17 = .ok (.ireturn, 1) := by decide +kernel
theorem dL_fork_18 : decode cL_fork 18 = .ok (.iconst 0, 1) := by decide +kernel
theorem dL_fork_19 : decode cL_fork 19 = .ok (.ireturn, 1) := by decide +kernel
theorem dL_drop_0 : decode cL_drop 0 = .ok (.aload_n 3, 1) := by decide +kernel
theorem dL_drop_1 : decode cL_drop 1 = .ok (.iconst 0, 1) := by decide +kernel
theorem dL_drop_2 : decode cL_drop 2 = .ok (.aload_n 0, 1) := by decide +kernel
theorem dL_drop_3 : decode cL_drop 3 = .ok (.iload_n 1, 1) := by decide +kernel
theorem dL_drop_4 : decode cL_drop 4 = .ok (.iload_n 2, 1) := by decide +kernel
theorem dL_drop_5 : decode cL_drop 5 = .ok (.invokevirtual 42, 3) := by decide +kernel
theorem dL_drop_8 : decode cL_drop 8 = .ok (.i2l, 1) := by decide +kernel
theorem dL_drop_9 : decode cL_drop 9 = .ok (.lastore, 1) := by decide +kernel
theorem dL_drop_10 : decode cL_drop 10 = .ok (.goto 11, 3) := by decide +kernel
theorem dL_drop_13 : decode cL_drop 13 = .ok (.astore 4, 2) := by decide +kernel
theorem dL_drop_15 : decode cL_drop 15 = .ok (.iconst 1, 1) := by decide +kernel
theorem dL_drop_16 : decode cL_drop 16 = .ok (.ireturn, 1) := by decide +kernel
theorem dL_drop_17 : decode cL_drop 17 = .ok (.astore 4, 2) := by decide +kernel
theorem dL_drop_19 : decode cL_drop 19 = .ok (.iconst 2, 1) := by decide +kernel
theorem dL_drop_20 : decode cL_drop 20 = .ok (.ireturn, 1) := by decide +kernel
theorem dL_drop_21 : decode cL_drop 21 = .ok (.iconst 0, 1) := by decide +kernel
theorem dL_drop_22 : decode cL_drop 22 = .ok (.ireturn, 1) := by decide +kernel
theorem dL_enter_0 : decode cL_enter 0 = .ok (.aload_n 3, 1) := by decide +kernel
theorem dL_enter_1 : decode cL_enter 1 = .ok (.iconst 0, 1) := by decide +kernel
theorem dL_enter_2 : decode cL_enter 2 = .ok (.aload_n 0, 1) := by decide +kernel
theorem dL_enter_3 : decode cL_enter 3 = .ok (.iload_n 1, 1) := by decide +kernel
theorem dL_enter_4 : decode cL_enter 4 = .ok (.iload_n 2, 1) := by decide +kernel
theorem dL_enter_5 : decode cL_enter 5 = .ok (.invokevirtual 45, 3) := by decide +kernel
theorem dL_enter_8 : decode cL_enter 8 = .ok (.i2l, 1) := by decide +kernel
theorem dL_enter_9 : decode cL_enter 9 = .ok (.lastore, 1) := by decide +kernel
theorem dL_enter_10 : decode cL_enter 10 = .ok (.goto 7, 3) := by decide +kernel
theorem dL_enter_13 : decode cL_enter 13 = .ok (.astore 4, 2) := by decide +kernel
theorem dL_enter_15 : decode cL_enter 15 = .ok (.iconst 1, 1) := by decide +kernel
theorem dL_enter_16 : decode cL_enter 16 = .ok (.ireturn, 1) := by decide +kernel
theorem dL_enter_17 : decode cL_enter 17 = .ok (.iconst 0, 1) := by decide +kernel
theorem dL_enter_18 : decode cL_enter 18 = .ok (.ireturn, 1) := by decide +kernel
theorem dL_setNumber_0 : decode cL_setNumber 0 = .ok (.aload_n 3, 1) := by decide +kernel
theorem dL_setNumber_1 : decode cL_setNumber 1 = .ok (.iconst 0, 1) := by decide +kernel
theorem dL_setNumber_2 : decode cL_setNumber 2 = .ok (.aload_n 0, 1) := by decide +kernel
theorem dL_setNumber_3 : decode cL_setNumber 3 = .ok (.iload_n 1, 1) := by decide +kernel
theorem dL_setNumber_4 : decode cL_setNumber 4 = .ok (.iload_n 2, 1) := by decide +kernel
theorem dL_setNumber_5 : decode cL_setNumber 5 = .ok (.invokevirtual 48, 3) := by decide +kernel
theorem dL_setNumber_8 : decode cL_setNumber 8 = .ok (.i2l, 1) := by decide +kernel
theorem dL_setNumber_9 : decode cL_setNumber 9 = .ok (.lastore, 1) := by decide +kernel
theorem dL_setNumber_10 : decode cL_setNumber 10 = .ok (.goto 11, 3) := by decide +kernel
theorem dL_setNumber_13 : decode cL_setNumber 13 = .ok (.astore 4, 2) := by decide +kernel
theorem dL_setNumber_15 : decode cL_setNumber 15 = .ok (.iconst 1, 1) := by decide +kernel
theorem dL_setNumber_16 : decode cL_setNumber 16 = .ok (.ireturn, 1) := by decide +kernel
theorem dL_setNumber_17 : decode cL_setNumber 17 = .ok (.astore 4, 2) := by decide +kernel
theorem dL_setNumber_19 : decode cL_setNumber 19 = .ok (.iconst 2, 1) := by decide +kernel
theorem dL_setNumber_20 : decode cL_setNumber 20 = .ok (.ireturn, 1) := by decide +kernel
theorem dL_setNumber_21 : decode cL_setNumber 21 = .ok (.iconst 0, 1) := by decide +kernel
theorem dL_setNumber_22 : decode cL_setNumber 22 = .ok (.ireturn, 1) := by decide +kernel
theorem dL_roomOf_0 : decode cL_roomOf 0 = .ok (.aload_n 2, 1) := by decide +kernel
theorem dL_roomOf_1 : decode cL_roomOf 1 = .ok (.iconst 0, 1) := by decide +kernel
theorem dL_roomOf_2 : decode cL_roomOf 2 = .ok (.aload_n 0, 1) := by decide +kernel
theorem dL_roomOf_3 : decode cL_roomOf 3 = .ok (.iload_n 1, 1) := by decide +kernel
theorem dL_roomOf_4 : decode cL_roomOf 4 = .ok (.invokevirtual 51, 3) := by decide +kernel
theorem dL_roomOf_7 : decode cL_roomOf 7 = .ok (.i2l, 1) := by decide +kernel
theorem dL_roomOf_8 : decode cL_roomOf 8 = .ok (.lastore, 1) := by decide +kernel
theorem dL_roomOf_9 : decode cL_roomOf 9 = .ok (.goto 6, 3) := by decide +kernel
theorem dL_roomOf_12 : decode cL_roomOf 12 = .ok (.astore_n 3, 1) := by decide +kernel
theorem dL_roomOf_13 : decode cL_roomOf 13 = .ok (.iconst 1, 1) := by decide +kernel
theorem dL_roomOf_14 : decode cL_roomOf 14 = .ok (.ireturn, 1) := by decide +kernel
theorem dL_roomOf_15 : decode cL_roomOf 15 = .ok (.iconst 0, 1) := by decide +kernel
theorem dL_roomOf_16 : decode cL_roomOf 16 = .ok (.ireturn, 1) := by decide +kernel
theorem dL_numberOf_0 : decode cL_numberOf 0 = .ok (.aload_n 2, 1) := by decide +kernel
theorem dL_numberOf_1 : decode cL_numberOf 1 = .ok (.iconst 0, 1) := by decide +kernel
theorem dL_numberOf_2 : decode cL_numberOf 2 = .ok (.aload_n 0, 1) := by decide +kernel
theorem dL_numberOf_3 : decode cL_numberOf 3 = .ok (.iload_n 1, 1) := by decide +kernel
theorem dL_numberOf_4 : decode cL_numberOf 4 = .ok (.invokevirtual 54, 3) := by decide +kernel
theorem dL_numberOf_7 : decode cL_numberOf 7 = .ok (.i2l, 1) := by decide +kernel
theorem dL_numberOf_8 : decode cL_numberOf 8 = .ok (.lastore, 1) := by decide +kernel
theorem dL_numberOf_9 : decode cL_numberOf 9 = .ok (.goto 6, 3) := by decide +kernel
theorem dL_numberOf_12 : decode cL_numberOf 12 = .ok (.astore_n 3, 1) := by decide +kernel
theorem dL_numberOf_13 : decode cL_numberOf 13 = .ok (.iconst 1, 1) := by decide +kernel
theorem dL_numberOf_14 : decode cL_numberOf 14 = .ok (.ireturn, 1) := by decide +kernel
theorem dL_numberOf_15 : decode cL_numberOf 15 = .ok (.iconst 0, 1) := by decide +kernel
theorem dL_numberOf_16 : decode cL_numberOf 16 = .ok (.ireturn, 1) := by decide +kernel
theorem dL_rightsIn_0 : decode cL_rightsIn 0 = .ok (.aload_n 3, 1) := by decide +kernel
theorem dL_rightsIn_1 : decode cL_rightsIn 1 = .ok (.iconst 0, 1) := by decide +kernel
theorem dL_rightsIn_2 : decode cL_rightsIn 2 = .ok (.aload_n 0, 1) := by decide +kernel
theorem dL_rightsIn_3 : decode cL_rightsIn 3 = .ok (.iload_n 1, 1) := by decide +kernel
theorem dL_rightsIn_4 : decode cL_rightsIn 4 = .ok (.iload_n 2, 1) := by decide +kernel
theorem dL_rightsIn_5 : decode cL_rightsIn 5 = .ok (.invokevirtual 57, 3) := by decide +kernel
theorem dL_rightsIn_8 : decode cL_rightsIn 8 = .ok (.i2l, 1) := by decide +kernel
theorem dL_rightsIn_9 : decode cL_rightsIn 9 = .ok (.lastore, 1) := by decide +kernel
theorem dL_rightsIn_10 : decode cL_rightsIn 10 = .ok (.goto 7, 3) := by decide +kernel
theorem dL_rightsIn_13 : decode cL_rightsIn 13 = .ok (.astore 4, 2) := by decide +kernel
theorem dL_rightsIn_15 : decode cL_rightsIn 15 = .ok (.iconst 1, 1) := by decide +kernel
theorem dL_rightsIn_16 : decode cL_rightsIn 16 = .ok (.ireturn, 1) := by decide +kernel
theorem dL_rightsIn_17 : decode cL_rightsIn 17 = .ok (.iconst 0, 1) := by decide +kernel
theorem dL_rightsIn_18 : decode cL_rightsIn 18 = .ok (.ireturn, 1) := by decide +kernel
theorem dL_makeFile_0 : decode cL_makeFile 0 = .ok (.aload_n 3, 1) := by decide +kernel
theorem dL_makeFile_1 : decode cL_makeFile 1 = .ok (.iconst 0, 1) := by decide +kernel
theorem dL_makeFile_2 : decode cL_makeFile 2 = .ok (.aload_n 0, 1) := by decide +kernel
theorem dL_makeFile_3 : decode cL_makeFile 3 = .ok (.iload_n 1, 1) := by decide +kernel
theorem dL_makeFile_4 : decode cL_makeFile 4 = .ok (.iload_n 2, 1) := by decide +kernel
theorem dL_makeFile_5 : decode cL_makeFile 5 = .ok (.invokevirtual 60, 3) := by decide +kernel
theorem dL_makeFile_8 : decode cL_makeFile 8 = .ok (.i2l, 1) := by decide +kernel
theorem dL_makeFile_9 : decode cL_makeFile 9 = .ok (.lastore, 1) := by decide +kernel
theorem dL_makeFile_10 : decode cL_makeFile 10 = .ok (.goto 15, 3) := by decide +kernel
theorem dL_makeFile_13 : decode cL_makeFile 13 = .ok (.astore 4, 2) := by decide +kernel
theorem dL_makeFile_15 : decode cL_makeFile 15 = .ok (.iconst 1, 1) := by decide +kernel
theorem dL_makeFile_16 : decode cL_makeFile 16 = .ok (.ireturn, 1) := by decide +kernel
theorem dL_makeFile_17 : decode cL_makeFile 17 = .ok (.astore 4, 2) := by decide +kernel
theorem dL_makeFile_19 : decode cL_makeFile 19 = .ok (.iconst 2, 1) := by decide +kernel
theorem dL_makeFile_20 : decode cL_makeFile 20 = .ok (.ireturn, 1) := by decide +kernel
theorem dL_makeFile_21 : decode cL_makeFile 21 = .ok (.astore 4, 2) := by decide +kernel
theorem dL_makeFile_23 : decode cL_makeFile 23 = .ok (.iconst 3, 1) := by decide +kernel
theorem dL_makeFile_24 : decode cL_makeFile 24 = .ok (.ireturn, 1) := by decide +kernel
theorem dL_makeFile_25 : decode cL_makeFile 25 = .ok (.iconst 0, 1) := by decide +kernel
theorem dL_makeFile_26 : decode cL_makeFile 26 = .ok (.ireturn, 1) := by decide +kernel
theorem dL_handOver_0 : decode cL_handOver 0 = .ok (.aload 4, 2) := by decide +kernel
theorem dL_handOver_2 : decode cL_handOver 2 = .ok (.iconst 0, 1) := by decide +kernel
theorem dL_handOver_3 : decode cL_handOver 3 = .ok (.aload_n 0, 1) := by decide +kernel
theorem dL_handOver_4 : decode cL_handOver 4 = .ok (.iload_n 1, 1) := by decide +kernel
theorem dL_handOver_5 : decode cL_handOver 5 = .ok (.iload_n 2, 1) := by decide +kernel
theorem dL_handOver_6 : decode cL_handOver 6 = .ok (.iload_n 3, 1) := by decide +kernel
theorem dL_handOver_7 : decode cL_handOver 7 = .ok (.invokevirtual 63, 3) := by decide +kernel
theorem dL_handOver_10 : decode cL_handOver 10 = .ok (.i2l, 1) := by decide +kernel
theorem dL_handOver_11 : decode cL_handOver 11 = .ok (.lastore, 1) := by decide +kernel
theorem dL_handOver_12 : decode cL_handOver 12 = .ok (.goto 11, 3) := by decide +kernel
theorem dL_handOver_15 : decode cL_handOver 15 = .ok (.astore 5, 2) := by decide +kernel
theorem dL_handOver_17 : decode cL_handOver 17 = .ok (.iconst 1, 1) := by decide +kernel
theorem dL_handOver_18 : decode cL_handOver 18 = .ok (.ireturn, 1) := by decide +kernel
theorem dL_handOver_19 : decode cL_handOver 19 = .ok (.astore 5, 2) := by decide +kernel
theorem dL_handOver_21 : decode cL_handOver 21 = .ok (.iconst 2, 1) := by decide +kernel
theorem dL_handOver_22 : decode cL_handOver 22 = .ok (.ireturn, 1) := by decide +kernel
theorem dL_handOver_23 : decode cL_handOver 23 = .ok (.iconst 0, 1) := by decide +kernel
theorem dL_handOver_24 : decode cL_handOver 24 = .ok (.ireturn, 1) := by decide +kernel
theorem dL_open_0 : decode cL_open 0 = .ok (.aload 4, 2) := by decide +kernel
theorem dL_open_2 : decode cL_open 2 = .ok (.iconst 0, 1) := by decide +kernel
theorem dL_open_3 : decode cL_open 3 = .ok (.aload_n 0, 1) := by decide +kernel
theorem dL_open_4 : decode cL_open 4 = .ok (.iload_n 1, 1) := by decide +kernel
theorem dL_open_5 : decode cL_open 5 = .ok (.iload_n 2, 1) := by decide +kernel
theorem dL_open_6 : decode cL_open 6 = .ok (.iload_n 3, 1) := by decide +kernel
theorem dL_open_7 : decode cL_open 7 = .ok (.invokevirtual 66, 3) := by decide +kernel
theorem dL_open_10 : decode cL_open 10 = .ok (.i2l, 1) := by decide +kernel
theorem dL_open_11 : decode cL_open 11 = .ok (.lastore, 1) := by decide +kernel
theorem dL_open_12 : decode cL_open 12 = .ok (.goto 7, 3) := by decide +kernel
theorem dL_open_15 : decode cL_open 15 = .ok (.astore 5, 2) := by decide +kernel
theorem dL_open_17 : decode cL_open 17 = .ok (.iconst 1, 1) := by decide +kernel
theorem dL_open_18 : decode cL_open 18 = .ok (.ireturn, 1) := by decide +kernel
theorem dL_open_19 : decode cL_open 19 = .ok (.iconst 0, 1) := by decide +kernel
theorem dL_open_20 : decode cL_open 20 = .ok (.ireturn, 1) := by decide +kernel
theorem dL_ownerSeenBy_0 : decode cL_ownerSeenBy 0 = .ok (.aload_n 3, 1) := by decide +kernel
theorem dL_ownerSeenBy_1 : decode cL_ownerSeenBy 1 = .ok (.iconst 0, 1) := by decide +kernel
theorem dL_ownerSeenBy_2 : decode cL_ownerSeenBy 2 = .ok (.aload_n 0, 1) := by decide +kernel
theorem dL_ownerSeenBy_3 : decode cL_ownerSeenBy 3 = .ok (.iload_n 1, 1) := by decide +kernel
theorem dL_ownerSeenBy_4 : decode cL_ownerSeenBy 4 = .ok (.iload_n 2, 1) := by decide +kernel
theorem dL_ownerSeenBy_5 : decode cL_ownerSeenBy 5 = .ok (.invokevirtual 70, 3) := by decide +kernel
theorem dL_ownerSeenBy_8 : decode cL_ownerSeenBy 8 = .ok (.i2l, 1) := by decide +kernel
theorem dL_ownerSeenBy_9 : decode cL_ownerSeenBy 9 = .ok (.lastore, 1) := by decide +kernel
theorem dL_ownerSeenBy_10 : decode cL_ownerSeenBy 10 = .ok (.goto 7, 3) := by decide +kernel
theorem dL_ownerSeenBy_13 : decode cL_ownerSeenBy 13 = .ok (.astore 4, 2) := by decide +kernel
theorem dL_ownerSeenBy_15 : decode cL_ownerSeenBy 15 = .ok (.iconst 1, 1) := by decide +kernel
theorem dL_ownerSeenBy_16 : decode cL_ownerSeenBy 16 = .ok (.ireturn, 1) := by decide +kernel
theorem dL_ownerSeenBy_17 : decode cL_ownerSeenBy 17 = .ok (.iconst 0, 1) := by decide +kernel
theorem dL_ownerSeenBy_18 : decode cL_ownerSeenBy 18 = .ok (.ireturn, 1) := by decide +kernel
