theorem dX8_init_0 : decode cX8_init 0 = .ok (.aload_n 0, 1) := by decide +kernel
theorem dX8_init_1 : decode cX8_init 1 = .ok (.invokespecial 1, 3) := by decide +kernel
theorem dX8_init_4 : decode cX8_init 4 = .ok (.aload_n 0, 1) := by decide +kernel
theorem dX8_init_5 : decode cX8_init 5 = .ok (.new 7, 3) := by decide +kernel
theorem dX8_init_8 : decode cX8_init 8 = .ok (.dup, 1) := by decide +kernel
theorem dX8_init_9 : decode cX8_init 9 = .ok (.invokespecial 9, 3) := by decide +kernel
theorem dX8_init_12 : decode cX8_init 12 = .ok (.putfield 10, 3) := by decide +kernel
theorem dX8_init_15 : decode cX8_init 15 = .ok (.aload_n 0, 1) := by decide +kernel
theorem dX8_init_16 : decode cX8_init 16 = .ok (.new 16, 3) := by decide +kernel
theorem dX8_init_19 : decode cX8_init 19 = .ok (.dup, 1) := by decide +kernel
theorem dX8_init_20 : decode cX8_init 20 = .ok (.invokespecial 18, 3) := by decide +kernel
theorem dX8_init_23 : decode cX8_init 23 = .ok (.putfield 19, 3) := by decide +kernel
theorem dX8_init_26 : decode cX8_init 26 = .ok (.aload_n 0, 1) := by decide +kernel
theorem dX8_init_27 : decode cX8_init 27 = .ok (.new 23, 3) := by decide +kernel
theorem dX8_init_30 : decode cX8_init 30 = .ok (.dup, 1) := by decide +kernel
theorem dX8_init_31 : decode cX8_init 31 = .ok (.invokespecial 25, 3) := by decide +kernel
theorem dX8_init_34 : decode cX8_init 34 = .ok (.putfield 26, 3) := by decide +kernel
theorem dX8_init_37 : decode cX8_init 37 = .ok (.aload_n 0, 1) := by decide +kernel
theorem dX8_init_38 : decode cX8_init 38 = .ok (.new 23, 3) := by decide +kernel
theorem dX8_init_41 : decode cX8_init 41 = .ok (.dup, 1) := by decide +kernel
theorem dX8_init_42 : decode cX8_init 42 = .ok (.invokespecial 25, 3) := by decide +kernel
theorem dX8_init_45 : decode cX8_init 45 = .ok (.putfield 30, 3) := by decide +kernel
theorem dX8_init_48 : decode cX8_init 48 = .ok (.aload_n 0, 1) := by decide +kernel
theorem dX8_init_49 : decode cX8_init 49 = .ok (.new 33, 3) := by decide +kernel
theorem dX8_init_52 : decode cX8_init 52 = .ok (.dup, 1) := by decide +kernel
theorem dX8_init_53 : decode cX8_init 53 = .ok (.bipush 8, 2) := by decide +kernel
theorem dX8_init_55 : decode cX8_init 55 = .ok (.invokespecial 35, 3) := by decide +kernel
theorem dX8_init_58 : decode cX8_init 58 = .ok (.putfield 38, 3) := by decide +kernel
theorem dX8_init_61 : decode cX8_init 61 = .ok (.aload_n 0, 1) := by decide +kernel
theorem dX8_init_62 : decode cX8_init 62 = .ok (.new 33, 3) := by decide +kernel
theorem dX8_init_65 : decode cX8_init 65 = .ok (.dup, 1) := by decide +kernel
theorem dX8_init_66 : decode cX8_init 66 = .ok (.iconst 2, 1) := by decide +kernel
theorem dX8_init_67 : decode cX8_init 67 = .ok (.invokespecial 35, 3) := by decide +kernel
theorem dX8_init_70 : decode cX8_init 70 = .ok (.putfield 42, 3) := by decide +kernel
theorem dX8_init_73 : decode cX8_init 73 = .ok (.aload_n 0, 1) := by decide +kernel
theorem dX8_init_74 : decode cX8_init 74 = .ok (.new 45, 3) := by decide +kernel
theorem dX8_init_77 : decode cX8_init 77 = .ok (.dup, 1) := by decide +kernel
theorem dX8_init_78 : decode cX8_init 78 = .ok (.invokespecial 47, 3) := by decide +kernel
theorem dX8_init_81 : decode cX8_init 81 = .ok (.putfield 48, 3) := by decide +kernel
theorem dX8_init_84 : decode cX8_init 84 = .ok (.aload_n 0, 1) := by decide +kernel
theorem dX8_init_85 : decode cX8_init 85 = .ok (.new 52, 3) := by decide +kernel
theorem dX8_init_88 : decode cX8_init 88 = .ok (.dup, 1) := by decide +kernel
theorem dX8_init_89 : decode cX8_init 89 = .ok (.invokespecial 54, 3) := by decide +kernel
theorem dX8_init_92 : decode cX8_init 92 = .ok (.putfield 55, 3) := by decide +kernel
theorem dX8_init_95 : decode cX8_init 95 = .ok (.return_, 1) := by decide +kernel
set_option maxRecDepth 20000 in
theorem ggX8_write_X8_isWithin : GoodIn wsX8_write wsX8_isWithin := goodIn_r _ [5] (by decide +kernel) (by decide +kernel)
set_option maxRecDepth 20000 in
theorem gX8_write_X8_isWithin : GoodIn wsX8_write (va_wsS RX8 59 yX8_isWithin wsX8_isWithin) := goodIn_app (goodIn_of _ (by decide +kernel)) ggX8_write_X8_isWithin
set_option maxRecDepth 20000 in
theorem ggX8_write_X6_isFull : GoodIn wsX8_write wsX6_isFull := goodIn_r _ [10, 11, 12, 27, 28, 29, 30, 31, 32] (by decide +kernel) (by decide +kernel)
set_option maxRecDepth 20000 in
theorem gX8_write_X6_isFull : GoodIn wsX8_write (wsV RX8 63 RX6 yX6_isFull wsX6_isFull) := goodIn_app (goodIn_of _ (by decide +kernel)) ggX8_write_X6_isFull
set_option maxRecDepth 20000 in
theorem ggX8_write_X6_add : GoodIn wsX8_write wsX6_add := goodIn_r _ [16, 11, 12, 27, 28, 29, 30, 31, 32] (by decide +kernel) (by decide +kernel)
set_option maxRecDepth 20000 in
theorem gX8_write_X6_add : GoodIn wsX8_write (wsV RX8 67 RX6 yX6_add wsX6_add) := goodIn_app (goodIn_of _ (by decide +kernel)) ggX8_write_X6_add
theorem dX8_write_0 : decode cX8_write 0 = .ok (.iload_n 1, 1) := by decide +kernel
theorem dX8_write_1 : decode cX8_write 1 = .ok (.iconst 0, 1) := by decide +kernel
theorem dX8_write_2 : decode cX8_write 2 = .ok (.sipush 255, 3) := by decide +kernel
theorem dX8_write_5 : decode cX8_write 5 = .ok (.invokestatic 59, 3) := by decide +kernel
theorem dX8_write_8 : decode cX8_write 8 = .ok (.ifCond .ne 6, 3) := by decide +kernel
theorem dX8_write_11 : decode cX8_write 11 = .ok (.bipush (-2), 2) := by decide +kernel
theorem dX8_write_13 : decode cX8_write 13 = .ok (.ireturn, 1) := by decide +kernel
theorem dX8_write_14 : decode cX8_write 14 = .ok (.aload_n 0, 1) := by decide +kernel
theorem dX8_write_15 : decode cX8_write 15 = .ok (.getfield 10, 3) := by decide +kernel
theorem dX8_write_18 : decode cX8_write 18 = .ok (.invokevirtual 63, 3) := by decide +kernel
theorem dX8_write_21 : decode cX8_write 21 = .ok (.ifCond .eq 8, 3) := by decide +kernel
theorem dX8_write_24 : decode cX8_write 24 = .ok (.bipush (-4), 2) := by decide +kernel
theorem dX8_write_26 : decode cX8_write 26 = .ok (.goto 11, 3) := by decide +kernel
theorem dX8_write_29 : decode cX8_write 29 = .ok (.aload_n 0, 1) := by decide +kernel
theorem dX8_write_30 : decode cX8_write 30 = .ok (.getfield 10, 3) := by decide +kernel
theorem dX8_write_33 : decode cX8_write 33 = .ok (.iload_n 1, 1) := by decide +kernel
theorem dX8_write_34 : decode cX8_write 34 = .ok (.invokevirtual 67, 3) := by decide +kernel
theorem dX8_write_37 : decode cX8_write 37 = .ok (.ireturn, 1) := by decide +kernel
set_option maxRecDepth 20000 in
theorem ggX8_wipe_X6_clear : GoodIn wsX8_wipe wsX6_clear := goodIn_r _ [6, 7, 18, 19, 20, 21, 22, 23] (by decide +kernel) (by decide +kernel)
set_option maxRecDepth 20000 in
theorem gX8_wipe_X6_clear : GoodIn wsX8_wipe (wsV RX8 71 RX6 yX6_clear wsX6_clear) := goodIn_app (goodIn_of _ (by decide +kernel)) ggX8_wipe_X6_clear
theorem dX8_wipe_0 : decode cX8_wipe 0 = .ok (.aload_n 0, 1) := by decide +kernel
theorem dX8_wipe_1 : decode cX8_wipe 1 = .ok (.getfield 10, 3) := by decide +kernel
theorem dX8_wipe_4 : decode cX8_wipe 4 = .ok (.invokevirtual 71, 3) := by decide +kernel
theorem dX8_wipe_7 : decode cX8_wipe 7 = .ok (.ireturn, 1) := by decide +kernel
set_option maxRecDepth 20000 in
theorem ggX8_fault_X6_firstFault : GoodIn wsX8_fault wsX6_firstFault := goodIn_r _ [6, 7, 8, 9, 10, 11, 12, 13, 14, 5, 15, 16, 17, 18, 19, 20, 21, 22, 23, 24, 25, 26, 27, 28, 29, 30, 31, 32, 33, 34, 35, 36, 47, 48, 49, 50, 51, 52] (by decide +kernel) (by decide +kernel)
set_option maxRecDepth 20000 in
theorem gX8_fault_X6_firstFault : GoodIn wsX8_fault (wsV RX8 75 RX6 yX6_firstFault wsX6_firstFault) := goodIn_app (goodIn_of _ (by decide +kernel)) ggX8_fault_X6_firstFault
theorem dX8_fault_0 : decode cX8_fault 0 = .ok (.aload_n 0, 1) := by decide +kernel
theorem dX8_fault_1 : decode cX8_fault 1 = .ok (.getfield 10, 3) := by decide +kernel
theorem dX8_fault_4 : decode cX8_fault 4 = .ok (.invokevirtual 75, 3) := by decide +kernel
theorem dX8_fault_7 : decode cX8_fault 7 = .ok (.ireturn, 1) := by decide +kernel
set_option maxRecDepth 20000 in
theorem ggX8_search_X6_firstFault : GoodIn wsX8_search wsX6_firstFault := goodIn_r _ [10, 11, 12, 13, 14, 15, 16, 17, 18, 9, 19, 20, 21, 22, 23, 24, 25, 26, 27, 28, 29, 30, 31, 32, 33, 34, 35, 36, 37, 38, 39, 40, 104, 105, 106, 107, 108, 109] (by decide +kernel) (by decide +kernel)
set_option maxRecDepth 20000 in
theorem gX8_search_X6_firstFault : GoodIn wsX8_search (wsV RX8 75 RX6 yX6_firstFault wsX6_firstFault) := goodIn_app (goodIn_of _ (by decide +kernel)) ggX8_search_X6_firstFault
set_option maxRecDepth 20000 in
theorem ggX8_search_X7_take : GoodIn wsX8_search wsX7_take := goodIn_r _ [45, 46, 47, 48, 49, 50, 51, 52, 53, 54, 21, 22, 9, 23, 24, 25, 26, 27, 15, 28, 55, 56, 57, 44, 58, 59, 60, 61, 62, 63, 64, 65, 66, 67, 68, 110, 111, 112, 113, 114, 115, 116, 117, 118, 104, 105, 106, 107, 108, 109] (by decide +kernel) (by decide +kernel)
set_option maxRecDepth 20000 in
theorem gX8_search_X7_take : GoodIn wsX8_search (wsV RX8 78 RX7 yX7_take wsX7_take) := goodIn_app (goodIn_of _ (by decide +kernel)) ggX8_search_X7_take
set_option maxRecDepth 20000 in
theorem ggX8_search_X4_begin : GoodIn wsX8_search wsX4_begin := goodIn_r _ [73, 74, 75, 76, 77, 78, 79, 80, 44, 81, 59, 119, 120, 121, 122, 123, 124, 110, 111, 112, 113, 114, 115, 116, 117, 118] (by decide +kernel) (by decide +kernel)
set_option maxRecDepth 20000 in
theorem gX8_search_X4_begin : GoodIn wsX8_search (wsV RX8 82 RX4 yX4_begin wsX4_begin) := goodIn_app (goodIn_of _ (by decide +kernel)) ggX8_search_X4_begin
set_option maxRecDepth 20000 in
theorem ggX8_search_X7_allParts : GoodIn wsX8_search wsX7_allParts := goodIn_r _ [85, 86, 87, 88, 44, 89, 90, 91, 92, 93, 79, 80, 81, 59, 110, 111, 112, 113, 114, 115, 116, 117, 118] (by decide +kernel) (by decide +kernel)
set_option maxRecDepth 20000 in
theorem gX8_search_X7_allParts : GoodIn wsX8_search (wsV RX8 93 RX7 yX7_allParts wsX7_allParts) := goodIn_app (goodIn_of _ (by decide +kernel)) ggX8_search_X7_allParts
theorem dX8_search_0 : decode cX8_search 0 = .ok (.aload_n 0, 1) := by decide +kernel
theorem dX8_search_1 : decode cX8_search 1 = .ok (.getfield 10, 3) := by decide +kernel
theorem dX8_search_4 : decode cX8_search 4 = .ok (.invokevirtual 75, 3) := by decide +kernel
theorem dX8_search_7 : decode cX8_search 7 = .ok (.bipush (-9), 2) := by decide +kernel
theorem dX8_search_9 : decode cX8_search 9 = .ok (.if_icmp .eq 6, 3) := by decide +kernel
theorem dX8_search_12 : decode cX8_search 12 = .ok (.bipush (-3), 2) := by decide +kernel
theorem dX8_search_14 : decode cX8_search 14 = .ok (.ireturn, 1) := by decide +kernel
theorem dX8_search_15 : decode cX8_search 15 = .ok (.aload_n 0, 1) := by decide +kernel
theorem dX8_search_16 : decode cX8_search 16 = .ok (.getfield 19, 3) := by decide +kernel
theorem dX8_search_19 : decode cX8_search 19 = .ok (.aload_n 0, 1) := by decide +kernel
theorem dX8_search_20 : decode cX8_search 20 = .ok (.getfield 10, 3) := by decide +kernel
theorem dX8_search_23 : decode cX8_search 23 = .ok (.invokevirtual 78, 3) := by decide +kernel
theorem dX8_search_26 : decode cX8_search 26 = .ok (.aload_n 0, 1) := by decide +kernel
theorem dX8_search_27 : decode cX8_search 27 = .ok (.getfield 26, 3) := by decide +kernel
theorem dX8_search_30 : decode cX8_search 30 = .ok (.aload_n 0, 1) := by decide +kernel
theorem dX8_search_31 : decode cX8_search 31 = .ok (.getfield 19, 3) := by decide +kernel
theorem dX8_search_34 : decode cX8_search 34 = .ok (.invokevirtual 82, 3) := by decide +kernel
theorem dX8_search_37 : decode cX8_search 37 = .ok (.aload_n 0, 1) := by decide +kernel
theorem dX8_search_38 : decode cX8_search 38 = .ok (.iconst 0, 1) := by decide +kernel
theorem dX8_search_39 : decode cX8_search 39 = .ok (.putfield 86, 3) := by decide +kernel
theorem dX8_search_42 : decode cX8_search 42 = .ok (.aload_n 0, 1) := by decide +kernel
theorem dX8_search_43 : decode cX8_search 43 = .ok (.iconst 0, 1) := by decide +kernel
theorem dX8_search_44 : decode cX8_search 44 = .ok (.putfield 90, 3) := by decide +kernel
theorem dX8_search_47 : decode cX8_search 47 = .ok (.aload_n 0, 1) := by decide +kernel
theorem dX8_search_48 : decode cX8_search 48 = .ok (.getfield 19, 3) := by decide +kernel
theorem dX8_search_51 : decode cX8_search 51 = .ok (.invokevirtual 93, 3) := by decide +kernel
theorem dX8_search_54 : decode cX8_search 54 = .ok (.ireturn, 1) := by decide +kernel
set_option maxRecDepth 20000 in
theorem ggX8_look_X8_isWithin : GoodIn wsX8_look wsX8_isWithin := goodIn_r _ [6] (by decide +kernel) (by decide +kernel)
set_option maxRecDepth 20000 in
theorem gX8_look_X8_isWithin : GoodIn wsX8_look (va_wsS RX8 59 yX8_isWithin wsX8_isWithin) := goodIn_app (goodIn_of _ (by decide +kernel)) ggX8_look_X8_isWithin
set_option maxRecDepth 20000 in
theorem ggX8_look_X8_remember : GoodIn wsX8_look wsX8_remember := goodIn_r _ [10, 11, 12, 1, 13, 14, 15, 16, 17, 18, 19, 20, 21, 22, 23, 24, 25, 26, 27, 28, 29, 30, 31, 32, 33, 34, 35, 36, 37, 38, 39, 40, 41, 42, 43, 44, 45, 83, 84, 85, 86, 87, 88, 89, 90, 91, 92, 108, 93, 94, 95, 96, 97, 98] (by decide +kernel) (by decide +kernel)
set_option maxRecDepth 20000 in
theorem gX8_look_X8_remember : GoodIn wsX8_look (wsV RX8 102 RX8 yX8_remember wsX8_remember) := goodIn_app (goodIn_of _ (by decide +kernel)) ggX8_look_X8_remember
set_option maxRecDepth 20000 in
theorem ggX8_look_X4_act : GoodIn wsX8_look wsX4_act := goodIn_r _ [49, 50, 51, 52, 26, 53, 31, 54, 55, 56, 57, 58, 5, 59, 60, 61, 62, 63, 64, 65, 66, 67, 68, 69, 70, 71, 72, 73, 74, 75, 76, 77, 28, 78, 79, 80, 81, 82, 32, 34, 35, 36, 37, 93, 94, 95, 96, 97, 98, 99, 100, 101, 102, 103, 104, 105, 106, 107] (by decide +kernel) (by decide +kernel)
set_option maxRecDepth 20000 in
theorem gX8_look_X4_act : GoodIn wsX8_look (wsV RX8 105 RX4 yX4_act wsX4_act) := goodIn_app (goodIn_of _ (by decide +kernel)) ggX8_look_X4_act
theorem dX8_look_0 : decode cX8_look 0 = .ok (.iload_n 1, 1) := by decide +kernel
theorem dX8_look_1 : decode cX8_look 1 = .ok (.iconst 0, 1) := by decide +kernel
theorem dX8_look_2 : decode cX8_look 2 = .ok (.iconst 2, 1) := by decide +kernel
theorem dX8_look_3 : decode cX8_look 3 = .ok (.invokestatic 59, 3) := by decide +kernel
theorem dX8_look_6 : decode cX8_look 6 = .ok (.ifCond .ne 6, 3) := by decide +kernel
theorem dX8_look_9 : decode cX8_look 9 = .ok (.bipush (-2), 2) := by decide +kernel
theorem dX8_look_11 : decode cX8_look 11 = .ok (.ireturn, 1) := by decide +kernel
theorem dX8_look_12 : decode cX8_look 12 = .ok (.aload_n 0, 1) := by decide +kernel
theorem dX8_look_13 : decode cX8_look 13 = .ok (.getfield 26, 3) := by decide +kernel
theorem dX8_look_16 : decode cX8_look 16 = .ok (.getfield 96, 3) := by decide +kernel
theorem dX8_look_19 : decode cX8_look 19 = .ok (.aload_n 0, 1) := by decide +kernel
theorem dX8_look_20 : decode cX8_look 20 = .ok (.getfield 19, 3) := by decide +kernel
theorem dX8_look_23 : decode cX8_look 23 = .ok (.getfield 99, 3) := by decide +kernel
theorem dX8_look_26 : decode cX8_look 26 = .ok (.if_icmp .lt 6, 3) := by decide +kernel
theorem dX8_look_29 : decode cX8_look 29 = .ok (.bipush (-3), 2) := by decide +kernel
theorem dX8_look_31 : decode cX8_look 31 = .ok (.ireturn, 1) := by decide +kernel
theorem dX8_look_32 : decode cX8_look 32 = .ok (.aload_n 0, 1) := by decide +kernel
theorem dX8_look_33 : decode cX8_look 33 = .ok (.invokevirtual 102, 3) := by decide +kernel
theorem dX8_look_36 : decode cX8_look 36 = .ok (.aload_n 0, 1) := by decide +kernel
theorem dX8_look_37 : decode cX8_look 37 = .ok (.getfield 26, 3) := by decide +kernel
theorem dX8_look_40 : decode cX8_look 40 = .ok (.aload_n 0, 1) := by decide +kernel
theorem dX8_look_41 : decode cX8_look 41 = .ok (.getfield 19, 3) := by decide +kernel
theorem dX8_look_44 : decode cX8_look 44 = .ok (.iload_n 1, 1) := by decide +kernel
theorem dX8_look_45 : decode cX8_look 45 = .ok (.invokevirtual 105, 3) := by decide +kernel
theorem dX8_look_48 : decode cX8_look 48 = .ok (.aload_n 0, 1) := by decide +kernel
theorem dX8_look_49 : decode cX8_look 49 = .ok (.getfield 26, 3) := by decide +kernel
theorem dX8_look_52 : decode cX8_look 52 = .ok (.getfield 109, 3) := by decide +kernel
theorem dX8_look_55 : decode cX8_look 55 = .ok (.ireturn, 1) := by decide +kernel
set_option maxRecDepth 20000 in
theorem ggX8_lookAboard_X8_remember : GoodIn wsX8_lookAboard wsX8_remember := goodIn_r _ [7, 8, 9, 1, 10, 11, 12, 13, 14, 15, 16, 17, 18, 19, 20, 21, 22, 23, 24, 25, 26, 27, 28, 29, 30, 31, 32, 33, 34, 35, 36, 37, 38, 39, 40, 41, 42, 80, 81, 82, 83, 84, 85, 86, 87, 88, 89, 105, 90, 91, 92, 93, 94, 95] (by decide +kernel) (by decide +kernel)
set_option maxRecDepth 20000 in
theorem gX8_lookAboard_X8_remember : GoodIn wsX8_lookAboard (wsV RX8 102 RX8 yX8_remember wsX8_remember) := goodIn_app (goodIn_of _ (by decide +kernel)) ggX8_lookAboard_X8_remember
set_option maxRecDepth 20000 in
theorem ggX8_lookAboard_X4_act : GoodIn wsX8_lookAboard wsX4_act := goodIn_r _ [46, 47, 48, 49, 23, 50, 28, 51, 52, 53, 54, 55, 6, 56, 57, 58, 59, 60, 61, 62, 63, 64, 65, 66, 67, 68, 69, 70, 71, 72, 73, 74, 25, 75, 76, 77, 78, 79, 29, 31, 32, 33, 34, 90, 91, 92, 93, 94, 95, 96, 97, 98, 99, 100, 101, 102, 103, 104] (by decide +kernel) (by decide +kernel)
set_option maxRecDepth 20000 in
theorem gX8_lookAboard_X4_act : GoodIn wsX8_lookAboard (wsV RX8 105 RX4 yX4_act wsX4_act) := goodIn_app (goodIn_of _ (by decide +kernel)) ggX8_lookAboard_X4_act
theorem dX8_lookAboard_0 : decode cX8_lookAboard 0 = .ok (.aload_n 0, 1) := by decide +kernel
theorem dX8_lookAboard_1 : decode cX8_lookAboard 1 = .ok (.getfield 26, 3) := by decide +kernel
theorem dX8_lookAboard_4 : decode cX8_lookAboard 4 = .ok (.getfield 96, 3) := by decide +kernel
theorem dX8_lookAboard_7 : decode cX8_lookAboard 7 = .ok (.aload_n 0, 1) := by decide +kernel
theorem dX8_lookAboard_8 : decode cX8_lookAboard 8 = .ok (.getfield 19, 3) := by decide +kernel
theorem dX8_lookAboard_11 : decode cX8_lookAboard 11 = .ok (.getfield 99, 3) := by decide +kernel
theorem dX8_lookAboard_14 : decode cX8_lookAboard 14 = .ok (.if_icmp .lt 6, 3) := by decide +kernel
theorem dX8_lookAboard_17 : decode cX8_lookAboard 17 = .ok (.bipush (-3), 2) := by decide +kernel
theorem dX8_lookAboard_19 : decode cX8_lookAboard 19 = .ok (.ireturn, 1) := by decide +kernel
theorem dX8_lookAboard_20 : decode cX8_lookAboard 20 = .ok (.aload_n 0, 1) := by decide +kernel
theorem dX8_lookAboard_21 : decode cX8_lookAboard 21 = .ok (.invokevirtual 102, 3) := by decide +kernel
theorem dX8_lookAboard_24 : decode cX8_lookAboard 24 = .ok (.aload_n 0, 1) := by decide +kernel
theorem dX8_lookAboard_25 : decode cX8_lookAboard 25 = .ok (.getfield 26, 3) := by decide +kernel
theorem dX8_lookAboard_28 : decode cX8_lookAboard 28 = .ok (.aload_n 0, 1) := by decide +kernel
theorem dX8_lookAboard_29 : decode cX8_lookAboard 29 = .ok (.getfield 19, 3) := by decide +kernel
theorem dX8_lookAboard_32 : decode cX8_lookAboard 32 = .ok (.iconst 3, 1) := by decide +kernel
theorem dX8_lookAboard_33 : decode cX8_lookAboard 33 = .ok (.invokevirtual 105, 3) := by decide +kernel
theorem dX8_lookAboard_36 : decode cX8_lookAboard 36 = .ok (.aload_n 0, 1) := by decide +kernel
theorem dX8_lookAboard_37 : decode cX8_lookAboard 37 = .ok (.getfield 26, 3) := by decide +kernel
theorem dX8_lookAboard_40 : decode cX8_lookAboard 40 = .ok (.getfield 96, 3) := by decide +kernel
theorem dX8_lookAboard_43 : decode cX8_lookAboard 43 = .ok (.ireturn, 1) := by decide +kernel
set_option maxRecDepth 20000 in
theorem ggX8_hear_X8_isSaying : GoodIn wsX8_hear wsX8_isSaying := goodIn_r _ [5, 6, 7, 4, 8] (by decide +kernel) (by decide +kernel)
set_option maxRecDepth 20000 in
theorem gX8_hear_X8_isSaying : GoodIn wsX8_hear (va_wsS RX8 112 yX8_isSaying wsX8_isSaying) := goodIn_app (goodIn_of _ (by decide +kernel)) ggX8_hear_X8_isSaying
set_option maxRecDepth 20000 in
theorem ggX8_hear_X8_remember : GoodIn wsX8_hear wsX8_remember := goodIn_r _ [12, 13, 14, 1, 15, 16, 17, 18, 19, 20, 21, 22, 23, 24, 25, 26, 27, 28, 29, 30, 31, 32, 33, 34, 35, 36, 37, 38, 39, 40, 41, 42, 43, 44, 45, 46, 47, 53, 54, 55, 56, 57, 58, 59, 60, 61, 62, 69, 63, 64, 65, 66, 67, 68] (by decide +kernel) (by decide +kernel)
set_option maxRecDepth 20000 in
theorem gX8_hear_X8_remember : GoodIn wsX8_hear (wsV RX8 102 RX8 yX8_remember wsX8_remember) := goodIn_app (goodIn_of _ (by decide +kernel)) ggX8_hear_X8_remember
set_option maxRecDepth 20000 in
theorem ggX8_hear_X4_believe : GoodIn wsX8_hear wsX4_believe := goodIn_r _ [51, 30, 52, 35, 31, 32, 7, 4, 8, 63, 64, 65, 66, 67, 68] (by decide +kernel) (by decide +kernel)
set_option maxRecDepth 20000 in
theorem gX8_hear_X4_believe : GoodIn wsX8_hear (wsV RX8 118 RX4 yX4_believe wsX4_believe) := goodIn_app (goodIn_of _ (by decide +kernel)) ggX8_hear_X4_believe
theorem dX8_hear_0 : decode cX8_hear 0 = .ok (.iload_n 1, 1) := by decide +kernel
theorem dX8_hear_1 : decode cX8_hear 1 = .ok (.iload_n 2, 1) := by decide +kernel
theorem dX8_hear_2 : decode cX8_hear 2 = .ok (.iload_n 3, 1) := by decide +kernel
theorem dX8_hear_3 : decode cX8_hear 3 = .ok (.invokestatic 112, 3) := by decide +kernel
theorem dX8_hear_6 : decode cX8_hear 6 = .ok (.ifCond .ne 6, 3) := by decide +kernel
theorem dX8_hear_9 : decode cX8_hear 9 = .ok (.bipush (-2), 2) := by decide +kernel
theorem dX8_hear_11 : decode cX8_hear 11 = .ok (.ireturn, 1) := by decide +kernel
theorem dX8_hear_12 : decode cX8_hear 12 = .ok (.aload_n 0, 1) := by decide +kernel
theorem dX8_hear_13 : decode cX8_hear 13 = .ok (.getfield 26, 3) := by decide +kernel
theorem dX8_hear_16 : decode cX8_hear 16 = .ok (.getfield 96, 3) := by decide +kernel
theorem dX8_hear_19 : decode cX8_hear 19 = .ok (.ifCond .le 6, 3) := by decide +kernel
theorem dX8_hear_22 : decode cX8_hear 22 = .ok (.bipush (-3), 2) := by decide +kernel
theorem dX8_hear_24 : decode cX8_hear 24 = .ok (.ireturn, 1) := by decide +kernel
theorem dX8_hear_25 : decode cX8_hear 25 = .ok (.aload_n 0, 1) := by decide +kernel
theorem dX8_hear_26 : decode cX8_hear 26 = .ok (.getfield 26, 3) := by decide +kernel
theorem dX8_hear_29 : decode cX8_hear 29 = .ok (.getfield 115, 3) := by decide +kernel
theorem dX8_hear_32 : decode cX8_hear 32 = .ok (.iconst 2, 1) := by decide +kernel
theorem dX8_hear_33 : decode cX8_hear 33 = .ok (.if_icmp .lt 6, 3) := by decide +kernel
theorem dX8_hear_36 : decode cX8_hear 36 = .ok (.bipush (-4), 2) := by decide +kernel
theorem dX8_hear_38 : decode cX8_hear 38 = .ok (.ireturn, 1) := by decide +kernel
theorem dX8_hear_39 : decode cX8_hear 39 = .ok (.aload_n 0, 1) := by decide +kernel
theorem dX8_hear_40 : decode cX8_hear 40 = .ok (.invokevirtual 102, 3) := by decide +kernel
theorem dX8_hear_43 : decode cX8_hear 43 = .ok (.aload_n 0, 1) := by decide +kernel
theorem dX8_hear_44 : decode cX8_hear 44 = .ok (.getfield 26, 3) := by decide +kernel
theorem dX8_hear_47 : decode cX8_hear 47 = .ok (.iload_n 1, 1) := by decide +kernel
theorem dX8_hear_48 : decode cX8_hear 48 = .ok (.iload_n 2, 1) := by decide +kernel
theorem dX8_hear_49 : decode cX8_hear 49 = .ok (.iload_n 3, 1) := by decide +kernel
theorem dX8_hear_50 : decode cX8_hear 50 = .ok (.invokevirtual 118, 3) := by decide +kernel
theorem dX8_hear_53 : decode cX8_hear 53 = .ok (.aload_n 0, 1) := by decide +kernel
theorem dX8_hear_54 : decode cX8_hear 54 = .ok (.getfield 26, 3) := by decide +kernel
theorem dX8_hear_57 : decode cX8_hear 57 = .ok (.getfield 115, 3) := by decide +kernel
theorem dX8_hear_60 : decode cX8_hear 60 = .ok (.ireturn, 1) := by decide +kernel
set_option maxRecDepth 20000 in
theorem ggX8_undo_X5_give : GoodIn wsX8_undo wsX5_give := goodIn_r _ [8, 9, 10, 11, 7, 12, 13, 14, 15, 16, 17, 18, 19, 20, 21, 22, 23, 24, 25, 26, 27, 28, 29, 30, 31, 32, 33, 34, 35, 36, 47, 48, 49, 50, 51, 52, 53] (by decide +kernel) (by decide +kernel)
set_option maxRecDepth 20000 in
theorem gX8_undo_X5_give : GoodIn wsX8_undo (wsV RX8 122 RX5 yX5_give wsX5_give) := goodIn_app (goodIn_of _ (by decide +kernel)) ggX8_undo_X5_give
theorem dX8_undo_0 : decode cX8_undo 0 = .ok (.aload_n 0, 1) := by decide +kernel
theorem dX8_undo_1 : decode cX8_undo 1 = .ok (.getfield 86, 3) := by decide +kernel
theorem dX8_undo_4 : decode cX8_undo 4 = .ok (.ifCond .gt 6, 3) := by decide +kernel
theorem dX8_undo_7 : decode cX8_undo 7 = .ok (.bipush (-3), 2) := by decide +kernel
theorem dX8_undo_9 : decode cX8_undo 9 = .ok (.ireturn, 1) := by decide +kernel
theorem dX8_undo_10 : decode cX8_undo 10 = .ok (.aload_n 0, 1) := by decide +kernel
theorem dX8_undo_11 : decode cX8_undo 11 = .ok (.dup, 1) := by decide +kernel
theorem dX8_undo_12 : decode cX8_undo 12 = .ok (.getfield 86, 3) := by decide +kernel
theorem dX8_undo_15 : decode cX8_undo 15 = .ok (.iconst 1, 1) := by decide +kernel
theorem dX8_undo_16 : decode cX8_undo 16 = .ok (.isub, 1) := by decide +kernel
theorem dX8_undo_17 : decode cX8_undo 17 = .ok (.putfield 86, 3) := by decide +kernel
theorem dX8_undo_20 : decode cX8_undo 20 = .ok (.aload_n 0, 1) := by decide +kernel
theorem dX8_undo_21 : decode cX8_undo 21 = .ok (.getfield 38, 3) := by decide +kernel
theorem dX8_undo_24 : decode cX8_undo 24 = .ok (.aload_n 0, 1) := by decide +kernel
theorem dX8_undo_25 : decode cX8_undo 25 = .ok (.getfield 86, 3) := by decide +kernel
theorem dX8_undo_28 : decode cX8_undo 28 = .ok (.aload_n 0, 1) := by decide +kernel
theorem dX8_undo_29 : decode cX8_undo 29 = .ok (.getfield 26, 3) := by decide +kernel
theorem dX8_undo_32 : decode cX8_undo 32 = .ok (.invokevirtual 122, 3) := by decide +kernel
theorem dX8_undo_35 : decode cX8_undo 35 = .ok (.aload_n 0, 1) := by decide +kernel
theorem dX8_undo_36 : decode cX8_undo 36 = .ok (.getfield 86, 3) := by decide +kernel
theorem dX8_undo_39 : decode cX8_undo 39 = .ok (.ireturn, 1) := by decide +kernel
set_option maxRecDepth 20000 in
theorem ggX8_weight_X8_isWithin : GoodIn wsX8_weight wsX8_isWithin := goodIn_r _ [6] (by decide +kernel) (by decide +kernel)
set_option maxRecDepth 20000 in
theorem gX8_weight_X8_isWithin : GoodIn wsX8_weight (va_wsS RX8 59 yX8_isWithin wsX8_isWithin) := goodIn_app (goodIn_of _ (by decide +kernel)) ggX8_weight_X8_isWithin
set_option maxRecDepth 20000 in
theorem ggX8_weight_X4_of : GoodIn wsX8_weight wsX4_of := goodIn_r _ [11, 12, 23, 24, 25, 26, 27, 28] (by decide +kernel) (by decide +kernel)
set_option maxRecDepth 20000 in
theorem gX8_weight_X4_of : GoodIn wsX8_weight (wsV RX8 126 RX4 yX4_of wsX4_of) := goodIn_app (goodIn_of _ (by decide +kernel)) ggX8_weight_X4_of
theorem dX8_weight_0 : decode cX8_weight 0 = .ok (.iload_n 1, 1) := by decide +kernel
theorem dX8_weight_1 : decode cX8_weight 1 = .ok (.iconst 0, 1) := by decide +kernel
theorem dX8_weight_2 : decode cX8_weight 2 = .ok (.bipush 10, 2) := by decide +kernel
theorem dX8_weight_4 : decode cX8_weight 4 = .ok (.invokestatic 59, 3) := by decide +kernel
theorem dX8_weight_7 : decode cX8_weight 7 = .ok (.ifCond .eq 14, 3) := by decide +kernel
theorem dX8_weight_10 : decode cX8_weight 10 = .ok (.aload_n 0, 1) := by decide +kernel
theorem dX8_weight_11 : decode cX8_weight 11 = .ok (.getfield 26, 3) := by decide +kernel
theorem dX8_weight_14 : decode cX8_weight 14 = .ok (.iload_n 1, 1) := by decide +kernel
theorem dX8_weight_15 : decode cX8_weight 15 = .ok (.invokevirtual 126, 3) := by decide +kernel
theorem dX8_weight_18 : decode cX8_weight 18 = .ok (.goto 6, 3) := by decide +kernel
theorem dX8_weight_21 : decode cX8_weight 21 = .ok (.ldc2_w 130, 3) := by decide +kernel
theorem dX8_weight_24 : decode cX8_weight 24 = .ok (.lreturn, 1) := by decide +kernel
set_option maxRecDepth 20000 in
theorem ggX8_likely_X8_isWithin : GoodIn wsX8_likely wsX8_isWithin := goodIn_r _ [7] (by decide +kernel) (by decide +kernel)
set_option maxRecDepth 20000 in
theorem gX8_likely_X8_isWithin : GoodIn wsX8_likely (va_wsS RX8 59 yX8_isWithin wsX8_isWithin) := goodIn_app (goodIn_of _ (by decide +kernel)) ggX8_likely_X8_isWithin
set_option maxRecDepth 20000 in
theorem ggX8_likely_X4_together : GoodIn wsX8_likely wsX4_together := goodIn_r _ [12, 13, 39, 40, 41, 42, 43, 44] (by decide +kernel) (by decide +kernel)
set_option maxRecDepth 20000 in
theorem gX8_likely_X4_together : GoodIn wsX8_likely (wsV RX8 132 RX4 yX4_together wsX4_together) := goodIn_app (goodIn_of _ (by decide +kernel)) ggX8_likely_X4_together
set_option maxRecDepth 20000 in
theorem ggX8_likely_X4_of : GoodIn wsX8_likely wsX4_of := goodIn_r _ [17, 13, 39, 40, 41, 42, 43, 44] (by decide +kernel) (by decide +kernel)
set_option maxRecDepth 20000 in
theorem gX8_likely_X4_of : GoodIn wsX8_likely (wsV RX8 126 RX4 yX4_of wsX4_of) := goodIn_app (goodIn_of _ (by decide +kernel)) ggX8_likely_X4_of
set_option maxRecDepth 20000 in
theorem ggX8_likely_X3_part : GoodIn wsX8_likely wsX3_part := goodIn_r _ [21, 22, 23, 24, 25, 26, 27, 20, 28] (by decide +kernel) (by decide +kernel)
set_option maxRecDepth 20000 in
theorem gX8_likely_X3_part : GoodIn wsX8_likely (va_wsS RX8 138 yX3_part wsX3_part) := goodIn_app (goodIn_of _ (by decide +kernel)) ggX8_likely_X3_part
theorem dX8_likely_0 : decode cX8_likely 0 = .ok (.iload_n 1, 1) := by decide +kernel
theorem dX8_likely_1 : decode cX8_likely 1 = .ok (.iconst 0, 1) := by decide +kernel
theorem dX8_likely_2 : decode cX8_likely 2 = .ok (.bipush 10, 2) := by decide +kernel
theorem dX8_likely_4 : decode cX8_likely 4 = .ok (.invokestatic 59, 3) := by decide +kernel
theorem dX8_likely_7 : decode cX8_likely 7 = .ok (.ifCond .ne 7, 3) := by decide +kernel
theorem dX8_likely_10 : decode cX8_likely 10 = .ok (.ldc2_w 130, 3) := by decide +kernel
theorem dX8_likely_13 : decode cX8_likely 13 = .ok (.lreturn, 1) := by decide +kernel
theorem dX8_likely_14 : decode cX8_likely 14 = .ok (.aload_n 0, 1) := by decide +kernel
theorem dX8_likely_15 : decode cX8_likely 15 = .ok (.getfield 26, 3) := by decide +kernel
theorem dX8_likely_18 : decode cX8_likely 18 = .ok (.invokevirtual 132, 3) := by decide +kernel
theorem dX8_likely_21 : decode cX8_likely 21 = .ok (.lstore_n 3, 1) := by decide +kernel
theorem dX8_likely_22 : decode cX8_likely 22 = .ok (.lload_n 3, 1) := by decide +kernel
theorem dX8_likely_23 : decode cX8_likely 23 = .ok (.lconst 0, 1) := by decide +kernel
theorem dX8_likely_24 : decode cX8_likely 24 = .ok (.lcmp, 1) := by decide +kernel
theorem dX8_likely_25 : decode cX8_likely 25 = .ok (.ifCond .gt 9, 3) := by decide +kernel
theorem dX8_likely_28 : decode cX8_likely 28 = .ok (.ldc2_w 136, 3) := by decide +kernel
theorem dX8_likely_31 : decode cX8_likely 31 = .ok (.goto 16, 3) := by decide +kernel
theorem dX8_likely_34 : decode cX8_likely 34 = .ok (.aload_n 0, 1) := by decide +kernel
theorem dX8_likely_35 : decode cX8_likely 35 = .ok (.getfield 26, 3) := by decide +kernel
theorem dX8_likely_38 : decode cX8_likely 38 = .ok (.iload_n 1, 1) := by decide +kernel
theorem dX8_likely_39 : decode cX8_likely 39 = .ok (.invokevirtual 126, 3) := by decide +kernel
theorem dX8_likely_42 : decode cX8_likely 42 = .ok (.lload_n 3, 1) := by decide +kernel
theorem dX8_likely_43 : decode cX8_likely 43 = .ok (.iload_n 2, 1) := by decide +kernel
theorem dX8_likely_44 : decode cX8_likely 44 = .ok (.invokestatic 138, 3) := by decide +kernel
theorem dX8_likely_47 : decode cX8_likely 47 = .ok (.lreturn, 1) := by decide +kernel
set_option maxRecDepth 20000 in
theorem ggX8_likeliest_X4_of : GoodIn wsX8_likeliest wsX4_of := goodIn_r _ [6, 7, 18, 19, 20, 21, 22, 23] (by decide +kernel) (by decide +kernel)
set_option maxRecDepth 20000 in
theorem gX8_likeliest_X4_of : GoodIn wsX8_likeliest (wsV RX8 126 RX4 yX4_of wsX4_of) := goodIn_app (goodIn_of _ (by decide +kernel)) ggX8_likeliest_X4_of
theorem dX8_likeliest_0 : decode cX8_likeliest 0 = .ok (.bipush (-9), 2) := by decide +kernel
theorem dX8_likeliest_2 : decode cX8_likeliest 2 = .ok (.istore_n 1, 1) := by decide +kernel
theorem dX8_likeliest_3 : decode cX8_likeliest 3 = .ok (.lconst 0, 1) := by decide +kernel
theorem dX8_likeliest_4 : decode cX8_likeliest 4 = .ok (.lstore_n 2, 1) := by decide +kernel
theorem dX8_likeliest_5 : decode cX8_likeliest 5 = .ok (.iconst 0, 1) := by decide +kernel
theorem dX8_likeliest_6 : decode cX8_likeliest 6 = .ok (.istore 4, 2) := by decide +kernel
theorem dX8_likeliest_8 : decode cX8_likeliest 8 = .ok (.iload 4, 2) := by decide +kernel
theorem dX8_likeliest_10 : decode cX8_likeliest 10 = .ok (.bipush 11, 2) := by decide +kernel
theorem dX8_likeliest_12 : decode cX8_likeliest 12 = .ok (.if_icmp .ge 36, 3) := by decide +kernel
theorem dX8_likeliest_15 : decode cX8_likeliest 15 = .ok (.aload_n 0, 1) := by decide +kernel
theorem dX8_likeliest_16 : decode cX8_likeliest 16 = .ok (.getfield 26, 3) := by decide +kernel
theorem dX8_likeliest_19 : decode cX8_likeliest 19 = .ok (.iload 4, 2) := by decide +kernel
theorem dX8_likeliest_21 : decode cX8_likeliest 21 = .ok (.invokevirtual 126, 3) := by decide +kernel
theorem dX8_likeliest_24 : decode cX8_likeliest 24 = .ok (.lload_n 2, 1) := by decide +kernel
theorem dX8_likeliest_25 : decode cX8_likeliest 25 = .ok (.lcmp, 1) := by decide +kernel
theorem dX8_likeliest_26 : decode cX8_likeliest 26 = .ok (.ifCond .le 16, 3) := by decide +kernel
theorem dX8_likeliest_29 : decode cX8_likeliest 29 = .ok (.aload_n 0, 1) := by decide +kernel
theorem dX8_likeliest_30 : decode cX8_likeliest 30 = .ok (.getfield 26, 3) := by decide +kernel
theorem dX8_likeliest_33 : decode cX8_likeliest 33 = .ok (.iload 4, 2) := by decide +kernel
theorem dX8_likeliest_35 : decode cX8_likeliest 35 = .ok (.invokevirtual 126, 3) := by decide +kernel
theorem dX8_likeliest_38 : decode cX8_likeliest 38 = .ok (.lstore_n 2, 1) := by decide +kernel
theorem dX8_likeliest_39 : decode cX8_likeliest 39 = .ok (.iload 4, 2) := by decide +kernel
theorem dX8_likeliest_41 : decode cX8_likeliest 41 = .ok (.istore_n 1, 1) := by decide +kernel
theorem dX8_likeliest_42 : decode cX8_likeliest 42 = .ok (.iinc 4 1, 3) := by decide +kernel
theorem dX8_likeliest_45 : decode cX8_likeliest 45 = .ok (.goto (-37), 3) := by decide +kernel
theorem dX8_likeliest_48 : decode cX8_likeliest 48 = .ok (.iload_n 1, 1) := by decide +kernel
theorem dX8_likeliest_49 : decode cX8_likeliest 49 = .ok (.ireturn, 1) := by decide +kernel
set_option maxRecDepth 20000 in
theorem ggX8_by_X8_isWithin : GoodIn wsX8_by wsX8_isWithin := goodIn_r _ [8] (by decide +kernel) (by decide +kernel)
set_option maxRecDepth 20000 in
theorem gX8_by_X8_isWithin : GoodIn wsX8_by (va_wsS RX8 59 yX8_isWithin wsX8_isWithin) := goodIn_app (goodIn_of _ (by decide +kernel)) ggX8_by_X8_isWithin
set_option maxRecDepth 20000 in
theorem ggX8_by_X8_isRow : GoodIn wsX8_by wsX8_isRow := goodIn_r _ [11, 12, 13, 14, 7, 15, 16, 17, 18] (by decide +kernel) (by decide +kernel)
set_option maxRecDepth 20000 in
theorem gX8_by_X8_isRow : GoodIn wsX8_by (va_wsS RX8 144 yX8_isRow wsX8_isRow) := goodIn_app (goodIn_of _ (by decide +kernel)) ggX8_by_X8_isRow
set_option maxRecDepth 20000 in
theorem ggX8_by_X8_isLeft : GoodIn wsX8_by wsX8_isLeft := goodIn_r _ [22, 3, 23, 24, 25, 26, 27, 28, 29, 107, 108, 109, 110, 111, 112, 113, 114, 115, 116, 117, 118, 119, 120, 121, 122, 123, 124, 125, 126, 127, 128, 129, 130, 131] (by decide +kernel) (by decide +kernel)
set_option maxRecDepth 20000 in
theorem gX8_by_X8_isLeft : GoodIn wsX8_by (wsV RX8 148 RX8 yX8_isLeft wsX8_isLeft) := goodIn_app (goodIn_of _ (by decide +kernel)) ggX8_by_X8_isLeft
set_option maxRecDepth 20000 in
theorem ggX8_by_X8_foundBy : GoodIn wsX8_by wsX8_foundBy := goodIn_r _ [33, 34, 3, 4, 23, 12, 35, 36, 37, 27, 38, 29, 39, 40, 41, 42, 43, 44, 45, 46, 47, 48, 49, 50, 51, 52, 53, 54, 55, 16, 17, 7, 18, 13, 14, 15, 56, 57, 58, 59, 60, 61, 62, 63, 64, 65, 66, 67, 68, 69, 70, 71, 72, 73, 74, 75, 76, 77, 78, 79, 80, 81, 82, 83, 84, 85, 86, 87, 88, 89, 90, 91, 92, 93, 94, 95, 96, 107, 108, 109, 110, 111, 112, 113, 114, 115, 116, 117, 118, 119, 120, 121, 122, 123, 124, 125, 126, 127, 128, 129, 130, 131] (by decide +kernel) (by decide +kernel)
set_option maxRecDepth 20000 in
theorem gX8_by_X8_foundBy : GoodIn wsX8_by (wsV RX8 152 RX8 yX8_foundBy wsX8_foundBy) := goodIn_app (goodIn_of _ (by decide +kernel)) ggX8_by_X8_foundBy
set_option maxRecDepth 20000 in
theorem ggX8_by_X4_together : GoodIn wsX8_by wsX4_together := goodIn_r _ [28, 29, 117, 118, 119, 120, 121, 122] (by decide +kernel) (by decide +kernel)
set_option maxRecDepth 20000 in
theorem gX8_by_X4_together : GoodIn wsX8_by (wsV RX8 132 RX4 yX4_together wsX4_together) := goodIn_app (goodIn_of _ (by decide +kernel)) ggX8_by_X4_together
set_option maxRecDepth 20000 in
theorem ggX8_by_X8_power : GoodIn wsX8_by wsX8_power := goodIn_r _ [15] (by decide +kernel) (by decide +kernel)
set_option maxRecDepth 20000 in
theorem gX8_by_X8_power : GoodIn wsX8_by (va_wsS RX8 158 yX8_power wsX8_power) := goodIn_app (goodIn_of _ (by decide +kernel)) ggX8_by_X8_power
set_option maxRecDepth 20000 in
theorem ggX8_by_X3_part : GoodIn wsX8_by wsX3_part := goodIn_r _ [100, 101, 102, 68, 103, 104, 105, 99, 106] (by decide +kernel) (by decide +kernel)
set_option maxRecDepth 20000 in
theorem gX8_by_X3_part : GoodIn wsX8_by (va_wsS RX8 138 yX3_part wsX3_part) := goodIn_app (goodIn_of _ (by decide +kernel)) ggX8_by_X3_part
theorem dX8_by_0 : decode cX8_by 0 = .ok (.iload_n 1, 1) := by decide +kernel
theorem dX8_by_1 : decode cX8_by 1 = .ok (.iconst 1, 1) := by decide +kernel
theorem dX8_by_2 : decode cX8_by 2 = .ok (.iconst 4, 1) := by decide +kernel
theorem dX8_by_3 : decode cX8_by 3 = .ok (.invokestatic 59, 3) := by decide +kernel
theorem dX8_by_6 : decode cX8_by 6 = .ok (.ifCond .eq 11, 3) := by decide +kernel
theorem dX8_by_9 : decode cX8_by 9 = .ok (.iload_n 1, 1) := by decide +kernel
theorem dX8_by_10 : decode cX8_by 10 = .ok (.iload_n 2, 1) := by decide +kernel
theorem dX8_by_11 : decode cX8_by 11 = .ok (.invokestatic 144, 3) := by decide +kernel
theorem dX8_by_14 : decode cX8_by 14 = .ok (.ifCond .ne 7, 3) := by decide +kernel
theorem dX8_by_17 : decode cX8_by 17 = .ok (.ldc2_w 130, 3) := by decide +kernel
theorem dX8_by_20 : decode cX8_by 20 = .ok (.lreturn, 1) := by decide +kernel
theorem dX8_by_21 : decode cX8_by 21 = .ok (.aload_n 0, 1) := by decide +kernel
theorem dX8_by_22 : decode cX8_by 22 = .ok (.iload_n 1, 1) := by decide +kernel
theorem dX8_by_23 : decode cX8_by 23 = .ok (.invokevirtual 148, 3) := by decide +kernel
theorem dX8_by_26 : decode cX8_by 26 = .ok (.ifCond .ne 7, 3) := by decide +kernel
theorem dX8_by_29 : decode cX8_by 29 = .ok (.ldc2_w 136, 3) := by decide +kernel
theorem dX8_by_32 : decode cX8_by 32 = .ok (.lreturn, 1) := by decide +kernel
theorem dX8_by_33 : decode cX8_by 33 = .ok (.aload_n 0, 1) := by decide +kernel
theorem dX8_by_34 : decode cX8_by 34 = .ok (.iload_n 1, 1) := by decide +kernel
theorem dX8_by_35 : decode cX8_by 35 = .ok (.iload_n 2, 1) := by decide +kernel
theorem dX8_by_36 : decode cX8_by 36 = .ok (.invokevirtual 152, 3) := by decide +kernel
theorem dX8_by_39 : decode cX8_by 39 = .ok (.aload_n 0, 1) := by decide +kernel
theorem dX8_by_40 : decode cX8_by 40 = .ok (.getfield 26, 3) := by decide +kernel
theorem dX8_by_43 : decode cX8_by 43 = .ok (.invokevirtual 132, 3) := by decide +kernel
theorem dX8_by_46 : decode cX8_by 46 = .ok (.ldc2_w 156, 3) := by decide +kernel
theorem dX8_by_49 : decode cX8_by 49 = .ok (.iload_n 1, 1) := by decide +kernel
theorem dX8_by_50 : decode cX8_by 50 = .ok (.invokestatic 158, 3) := by decide +kernel
theorem dX8_by_53 : decode cX8_by 53 = .ok (.lmul, 1) := by decide +kernel
theorem dX8_by_54 : decode cX8_by 54 = .ok (.iload_n 3, 1) := by decide +kernel
theorem dX8_by_55 : decode cX8_by 55 = .ok (.invokestatic 138, 3) := by decide +kernel
theorem dX8_by_58 : decode cX8_by 58 = .ok (.lreturn, 1) := by decide +kernel
set_option maxRecDepth 20000 in
theorem ggX8_best_X8_isWithin : GoodIn wsX8_best wsX8_isWithin := goodIn_r _ [10] (by decide +kernel) (by decide +kernel)
set_option maxRecDepth 20000 in
theorem gX8_best_X8_isWithin : GoodIn wsX8_best (va_wsS RX8 59 yX8_isWithin wsX8_isWithin) := goodIn_app (goodIn_of _ (by decide +kernel)) ggX8_best_X8_isWithin
set_option maxRecDepth 20000 in
theorem ggX8_best_X8_isLeft : GoodIn wsX8_best wsX8_isLeft := goodIn_r _ [14, 5, 4, 15, 16, 17, 18, 19, 20, 139, 140, 141, 142, 143, 144, 145, 146, 147, 148, 151, 152, 153, 154, 155, 156, 157, 158, 159, 160, 161, 162, 163, 164, 165] (by decide +kernel) (by decide +kernel)
set_option maxRecDepth 20000 in
theorem gX8_best_X8_isLeft : GoodIn wsX8_best (wsV RX8 148 RX8 yX8_isLeft wsX8_isLeft) := goodIn_app (goodIn_of _ (by decide +kernel)) ggX8_best_X8_isLeft
set_option maxRecDepth 20000 in
theorem ggX8_best_X0_tryAll : GoodIn wsX8_best wsX0_tryAll := goodIn_r _ [25, 26, 27, 28, 29, 30, 31, 32, 33, 34, 35, 36, 37, 38, 39, 40, 41, 42, 43, 44, 45, 46, 47, 48, 49, 50, 18, 51, 20, 52, 53, 54, 55, 56, 57, 58, 59, 60, 61, 62, 63, 64, 65, 66, 67, 68, 69, 70, 71, 24, 72, 73, 74, 75, 76, 77, 78, 79, 80, 81, 82, 83, 84, 9, 85, 86, 87, 88, 89, 90, 91, 92, 93, 94, 95, 96, 97, 98, 99, 100, 101, 102, 103, 104, 105, 106, 107, 108, 109, 110, 111, 112, 113, 114, 115, 116, 117, 118, 119, 120, 121, 166, 167, 168, 169, 170, 149, 150, 171, 151, 152, 153, 154, 155, 156, 157, 158, 159, 160, 161, 162, 163, 164, 165] (by decide +kernel) (by decide +kernel)
set_option maxRecDepth 20000 in
theorem gX8_best_X0_tryAll : GoodIn wsX8_best (wsV RX8 162 RX0 yX0_tryAll wsX0_tryAll) := goodIn_app (goodIn_of _ (by decide +kernel)) ggX8_best_X0_tryAll
set_option maxRecDepth 20000 in
theorem ggX8_best_X0_likelier : GoodIn wsX8_best wsX0_likelier := goodIn_r _ [125, 28, 27, 166, 167, 168, 169, 170, 149, 150] (by decide +kernel) (by decide +kernel)
set_option maxRecDepth 20000 in
theorem gX8_best_X0_likelier : GoodIn wsX8_best (wsV RX8 166 RX0 yX0_likelier wsX0_likelier) := goodIn_app (goodIn_of _ (by decide +kernel)) ggX8_best_X0_likelier
set_option maxRecDepth 20000 in
theorem ggX8_best_X4_together : GoodIn wsX8_best wsX4_together := goodIn_r _ [19, 20, 151, 152, 153, 154, 155, 156] (by decide +kernel) (by decide +kernel)
set_option maxRecDepth 20000 in
theorem gX8_best_X4_together : GoodIn wsX8_best (wsV RX8 132 RX4 yX4_together wsX4_together) := goodIn_app (goodIn_of _ (by decide +kernel)) ggX8_best_X4_together
set_option maxRecDepth 20000 in
theorem ggX8_best_X8_power : GoodIn wsX8_best wsX8_power := goodIn_r _ [128] (by decide +kernel) (by decide +kernel)
set_option maxRecDepth 20000 in
theorem gX8_best_X8_power : GoodIn wsX8_best (va_wsS RX8 158 yX8_power wsX8_power) := goodIn_app (goodIn_of _ (by decide +kernel)) ggX8_best_X8_power
set_option maxRecDepth 20000 in
theorem ggX8_best_X3_part : GoodIn wsX8_best wsX3_part := goodIn_r _ [132, 133, 134, 88, 135, 136, 137, 131, 138] (by decide +kernel) (by decide +kernel)
set_option maxRecDepth 20000 in
theorem gX8_best_X3_part : GoodIn wsX8_best (va_wsS RX8 138 yX3_part wsX3_part) := goodIn_app (goodIn_of _ (by decide +kernel)) ggX8_best_X3_part
theorem dX8_best_0 : decode cX8_best 0 = .ok (.iload_n 1, 1) := by decide +kernel
theorem dX8_best_1 : decode cX8_best 1 = .ok (.iconst 1, 1) := by decide +kernel
theorem dX8_best_2 : decode cX8_best 2 = .ok (.iconst 4, 1) := by decide +kernel
theorem dX8_best_3 : decode cX8_best 3 = .ok (.invokestatic 59, 3) := by decide +kernel
theorem dX8_best_6 : decode cX8_best 6 = .ok (.ifCond .ne 7, 3) := by decide +kernel
theorem dX8_best_9 : decode cX8_best 9 = .ok (.ldc2_w 130, 3) := by decide +kernel
theorem dX8_best_12 : decode cX8_best 12 = .ok (.lreturn, 1) := by decide +kernel
theorem dX8_best_13 : decode cX8_best 13 = .ok (.aload_n 0, 1) := by decide +kernel
theorem dX8_best_14 : decode cX8_best 14 = .ok (.iload_n 1, 1) := by decide +kernel
theorem dX8_best_15 : decode cX8_best 15 = .ok (.invokevirtual 148, 3) := by decide +kernel
theorem dX8_best_18 : decode cX8_best 18 = .ok (.ifCond .ne 7, 3) := by decide +kernel
theorem dX8_best_21 : decode cX8_best 21 = .ok (.ldc2_w 136, 3) := by decide +kernel
theorem dX8_best_24 : decode cX8_best 24 = .ok (.lreturn, 1) := by decide +kernel
theorem dX8_best_25 : decode cX8_best 25 = .ok (.aload_n 0, 1) := by decide +kernel
theorem dX8_best_26 : decode cX8_best 26 = .ok (.getfield 48, 3) := by decide +kernel
theorem dX8_best_29 : decode cX8_best 29 = .ok (.aload_n 0, 1) := by decide +kernel
theorem dX8_best_30 : decode cX8_best 30 = .ok (.getfield 19, 3) := by decide +kernel
theorem dX8_best_33 : decode cX8_best 33 = .ok (.aload_n 0, 1) := by decide +kernel
theorem dX8_best_34 : decode cX8_best 34 = .ok (.getfield 26, 3) := by decide +kernel
theorem dX8_best_37 : decode cX8_best 37 = .ok (.iload_n 1, 1) := by decide +kernel
theorem dX8_best_38 : decode cX8_best 38 = .ok (.invokevirtual 162, 3) := by decide +kernel
theorem dX8_best_41 : decode cX8_best 41 = .ok (.aload_n 0, 1) := by decide +kernel
theorem dX8_best_42 : decode cX8_best 42 = .ok (.getfield 48, 3) := by decide +kernel
theorem dX8_best_45 : decode cX8_best 45 = .ok (.invokevirtual 166, 3) := by decide +kernel
theorem dX8_best_48 : decode cX8_best 48 = .ok (.getfield 170, 3) := by decide +kernel
theorem dX8_best_51 : decode cX8_best 51 = .ok (.aload_n 0, 1) := by decide +kernel
theorem dX8_best_52 : decode cX8_best 52 = .ok (.getfield 26, 3) := by decide +kernel
theorem dX8_best_55 : decode cX8_best 55 = .ok (.invokevirtual 132, 3) := by decide +kernel
theorem dX8_best_58 : decode cX8_best 58 = .ok (.ldc2_w 156, 3) := by decide +kernel
theorem dX8_best_61 : decode cX8_best 61 = .ok (.iload_n 1, 1) := by decide +kernel
theorem dX8_best_62 : decode cX8_best 62 = .ok (.invokestatic 158, 3) := by decide +kernel
theorem dX8_best_65 : decode cX8_best 65 = .ok (.lmul, 1) := by decide +kernel
theorem dX8_best_66 : decode cX8_best 66 = .ok (.iload_n 2, 1) := by decide +kernel
theorem dX8_best_67 : decode cX8_best 67 = .ok (.invokestatic 138, 3) := by decide +kernel
theorem dX8_best_70 : decode cX8_best 70 = .ok (.lreturn, 1) := by decide +kernel
set_option maxRecDepth 20000 in
theorem ggX8_bestRow_X8_isWithin : GoodIn wsX8_bestRow wsX8_isWithin := goodIn_r _ [7] (by decide +kernel) (by decide +kernel)
set_option maxRecDepth 20000 in
theorem gX8_bestRow_X8_isWithin : GoodIn wsX8_bestRow (va_wsS RX8 59 yX8_isWithin wsX8_isWithin) := goodIn_app (goodIn_of _ (by decide +kernel)) ggX8_bestRow_X8_isWithin
set_option maxRecDepth 20000 in
theorem ggX8_bestRow_X8_isLeft : GoodIn wsX8_bestRow wsX8_isLeft := goodIn_r _ [11, 3, 2, 12, 13, 14, 15, 16, 17, 123, 124, 125, 126, 127, 128, 129, 130, 131, 132, 135, 136, 137, 138, 139, 140, 141, 142, 143, 144, 145, 146, 147, 148, 149] (by decide +kernel) (by decide +kernel)
set_option maxRecDepth 20000 in
theorem gX8_bestRow_X8_isLeft : GoodIn wsX8_bestRow (wsV RX8 148 RX8 yX8_isLeft wsX8_isLeft) := goodIn_app (goodIn_of _ (by decide +kernel)) ggX8_bestRow_X8_isLeft
set_option maxRecDepth 20000 in
theorem ggX8_bestRow_X0_tryAll : GoodIn wsX8_bestRow wsX0_tryAll := goodIn_r _ [22, 23, 24, 25, 26, 27, 28, 29, 30, 31, 32, 33, 34, 35, 36, 37, 38, 39, 40, 41, 42, 43, 44, 45, 46, 47, 15, 48, 17, 49, 50, 51, 52, 53, 54, 55, 56, 57, 58, 59, 60, 61, 62, 63, 64, 65, 66, 67, 68, 21, 69, 70, 71, 72, 73, 74, 75, 76, 77, 78, 79, 80, 81, 6, 82, 83, 84, 85, 86, 87, 88, 89, 90, 91, 92, 93, 94, 95, 96, 97, 98, 99, 100, 101, 102, 103, 104, 105, 106, 107, 108, 109, 110, 111, 112, 113, 114, 115, 116, 117, 118, 150, 151, 152, 153, 154, 133, 134, 155, 135, 136, 137, 138, 139, 140, 141, 142, 143, 144, 145, 146, 147, 148, 149] (by decide +kernel) (by decide +kernel)
set_option maxRecDepth 20000 in
theorem gX8_bestRow_X0_tryAll : GoodIn wsX8_bestRow (wsV RX8 162 RX0 yX0_tryAll wsX0_tryAll) := goodIn_app (goodIn_of _ (by decide +kernel)) ggX8_bestRow_X0_tryAll
set_option maxRecDepth 20000 in
theorem ggX8_bestRow_X0_likelier : GoodIn wsX8_bestRow wsX0_likelier := goodIn_r _ [122, 25, 24, 150, 151, 152, 153, 154, 133, 134] (by decide +kernel) (by decide +kernel)
set_option maxRecDepth 20000 in
theorem gX8_bestRow_X0_likelier : GoodIn wsX8_bestRow (wsV RX8 166 RX0 yX0_likelier wsX0_likelier) := goodIn_app (goodIn_of _ (by decide +kernel)) ggX8_bestRow_X0_likelier
theorem dX8_bestRow_0 : decode cX8_bestRow 0 = .ok (.iload_n 1, 1) := by decide +kernel
theorem dX8_bestRow_1 : decode cX8_bestRow 1 = .ok (.iconst 1, 1) := by decide +kernel
theorem dX8_bestRow_2 : decode cX8_bestRow 2 = .ok (.iconst 4, 1) := by decide +kernel
theorem dX8_bestRow_3 : decode cX8_bestRow 3 = .ok (.invokestatic 59, 3) := by decide +kernel
theorem dX8_bestRow_6 : decode cX8_bestRow 6 = .ok (.ifCond .ne 6, 3) := by decide +kernel
theorem dX8_bestRow_9 : decode cX8_bestRow 9 = .ok (.bipush (-2), 2) := by decide +kernel
theorem dX8_bestRow_11 : decode cX8_bestRow 11 = .ok (.ireturn, 1) := by decide +kernel
theorem dX8_bestRow_12 : decode cX8_bestRow 12 = .ok (.aload_n 0, 1) := by decide +kernel
theorem dX8_bestRow_13 : decode cX8_bestRow 13 = .ok (.iload_n 1, 1) := by decide +kernel
theorem dX8_bestRow_14 : decode cX8_bestRow 14 = .ok (.invokevirtual 148, 3) := by decide +kernel
theorem dX8_bestRow_17 : decode cX8_bestRow 17 = .ok (.ifCond .ne 6, 3) := by decide +kernel
theorem dX8_bestRow_20 : decode cX8_bestRow 20 = .ok (.bipush (-3), 2) := by decide +kernel
theorem dX8_bestRow_22 : decode cX8_bestRow 22 = .ok (.ireturn, 1) := by decide +kernel
theorem dX8_bestRow_23 : decode cX8_bestRow 23 = .ok (.aload_n 0, 1) := by decide +kernel
theorem dX8_bestRow_24 : decode cX8_bestRow 24 = .ok (.getfield 48, 3) := by decide +kernel
theorem dX8_bestRow_27 : decode cX8_bestRow 27 = .ok (.aload_n 0, 1) := by decide +kernel
theorem dX8_bestRow_28 : decode cX8_bestRow 28 = .ok (.getfield 19, 3) := by decide +kernel
theorem dX8_bestRow_31 : decode cX8_bestRow 31 = .ok (.aload_n 0, 1) := by decide +kernel
theorem dX8_bestRow_32 : decode cX8_bestRow 32 = .ok (.getfield 26, 3) := by decide +kernel
theorem dX8_bestRow_35 : decode cX8_bestRow 35 = .ok (.iload_n 1, 1) := by decide +kernel
theorem dX8_bestRow_36 : decode cX8_bestRow 36 = .ok (.invokevirtual 162, 3) := by decide +kernel
theorem dX8_bestRow_39 : decode cX8_bestRow 39 = .ok (.aload_n 0, 1) := by decide +kernel
theorem dX8_bestRow_40 : decode cX8_bestRow 40 = .ok (.getfield 48, 3) := by decide +kernel
theorem dX8_bestRow_43 : decode cX8_bestRow 43 = .ok (.invokevirtual 166, 3) := by decide +kernel
theorem dX8_bestRow_46 : decode cX8_bestRow 46 = .ok (.getfield 176, 3) := by decide +kernel
theorem dX8_bestRow_49 : decode cX8_bestRow 49 = .ok (.ireturn, 1) := by decide +kernel
set_option maxRecDepth 20000 in
theorem ggX8_soon_X8_isWithin : GoodIn wsX8_soon wsX8_isWithin := goodIn_r _ [9] (by decide +kernel) (by decide +kernel)
set_option maxRecDepth 20000 in
theorem gX8_soon_X8_isWithin : GoodIn wsX8_soon (va_wsS RX8 59 yX8_isWithin wsX8_isWithin) := goodIn_app (goodIn_of _ (by decide +kernel)) ggX8_soon_X8_isWithin
set_option maxRecDepth 20000 in
theorem ggX8_soon_X4_together : GoodIn wsX8_soon wsX4_together := goodIn_r _ [14, 15, 140, 141, 142, 143, 144, 145] (by decide +kernel) (by decide +kernel)
set_option maxRecDepth 20000 in
theorem gX8_soon_X4_together : GoodIn wsX8_soon (wsV RX8 132 RX4 yX4_together wsX4_together) := goodIn_app (goodIn_of _ (by decide +kernel)) ggX8_soon_X4_together
set_option maxRecDepth 20000 in
theorem ggX8_soon_X8_isLeft : GoodIn wsX8_soon wsX8_isLeft := goodIn_r _ [19, 1, 3, 10, 11, 12, 13, 14, 15, 128, 129, 130, 131, 132, 133, 134, 135, 136, 137, 140, 141, 142, 143, 144, 145, 146, 147, 148, 149, 150, 151, 152, 153, 154] (by decide +kernel) (by decide +kernel)
set_option maxRecDepth 20000 in
theorem gX8_soon_X8_isLeft : GoodIn wsX8_soon (wsV RX8 148 RX8 yX8_isLeft wsX8_isLeft) := goodIn_app (goodIn_of _ (by decide +kernel)) ggX8_soon_X8_isLeft
set_option maxRecDepth 20000 in
theorem ggX8_soon_X0_tryAll : GoodIn wsX8_soon wsX0_tryAll := goodIn_r _ [24, 25, 26, 27, 28, 29, 30, 31, 32, 33, 34, 35, 36, 37, 38, 39, 40, 41, 42, 43, 44, 45, 46, 47, 48, 49, 13, 50, 15, 51, 52, 53, 54, 55, 56, 57, 58, 59, 60, 61, 62, 63, 64, 65, 66, 67, 68, 69, 70, 23, 71, 72, 73, 74, 75, 76, 77, 78, 79, 80, 81, 82, 83, 8, 84, 85, 86, 87, 88, 89, 90, 91, 92, 93, 94, 95, 96, 97, 98, 99, 100, 101, 102, 103, 104, 105, 106, 107, 108, 109, 110, 111, 112, 113, 114, 115, 116, 117, 118, 119, 120, 155, 156, 157, 158, 159, 138, 139, 160, 140, 141, 142, 143, 144, 145, 146, 147, 148, 149, 150, 151, 152, 153, 154] (by decide +kernel) (by decide +kernel)
set_option maxRecDepth 20000 in
theorem gX8_soon_X0_tryAll : GoodIn wsX8_soon (wsV RX8 162 RX0 yX0_tryAll wsX0_tryAll) := goodIn_app (goodIn_of _ (by decide +kernel)) ggX8_soon_X0_tryAll
set_option maxRecDepth 20000 in
theorem ggX8_soon_X0_likelier : GoodIn wsX8_soon wsX0_likelier := goodIn_r _ [124, 27, 26, 155, 156, 157, 158, 159, 138, 139] (by decide +kernel) (by decide +kernel)
set_option maxRecDepth 20000 in
theorem gX8_soon_X0_likelier : GoodIn wsX8_soon (wsV RX8 166 RX0 yX0_likelier wsX0_likelier) := goodIn_app (goodIn_of _ (by decide +kernel)) ggX8_soon_X0_likelier
set_option maxRecDepth 20000 in
theorem ggX8_soon_X8_power : GoodIn wsX8_soon wsX8_power := goodIn_r _ [127] (by decide +kernel) (by decide +kernel)
set_option maxRecDepth 20000 in
theorem gX8_soon_X8_power : GoodIn wsX8_soon (va_wsS RX8 158 yX8_power wsX8_power) := goodIn_app (goodIn_of _ (by decide +kernel)) ggX8_soon_X8_power
theorem dX8_soon_0 : decode cX8_soon 0 = .ok (.iload_n 1, 1) := by decide +kernel
theorem dX8_soon_1 : decode cX8_soon 1 = .ok (.iconst 1, 1) := by decide +kernel
theorem dX8_soon_2 : decode cX8_soon 2 = .ok (.bipush 10, 2) := by decide +kernel
theorem dX8_soon_4 : decode cX8_soon 4 = .ok (.invokestatic 59, 3) := by decide +kernel
theorem dX8_soon_7 : decode cX8_soon 7 = .ok (.ifCond .ne 6, 3) := by decide +kernel
theorem dX8_soon_10 : decode cX8_soon 10 = .ok (.bipush (-2), 2) := by decide +kernel
theorem dX8_soon_12 : decode cX8_soon 12 = .ok (.ireturn, 1) := by decide +kernel
theorem dX8_soon_13 : decode cX8_soon 13 = .ok (.aload_n 0, 1) := by decide +kernel
theorem dX8_soon_14 : decode cX8_soon 14 = .ok (.getfield 26, 3) := by decide +kernel
theorem dX8_soon_17 : decode cX8_soon 17 = .ok (.invokevirtual 132, 3) := by decide +kernel
theorem dX8_soon_20 : decode cX8_soon 20 = .ok (.lconst 0, 1) := by decide +kernel
theorem dX8_soon_21 : decode cX8_soon 21 = .ok (.lcmp, 1) := by decide +kernel
theorem dX8_soon_22 : decode cX8_soon 22 = .ok (.ifCond .gt 6, 3) := by decide +kernel
theorem dX8_soon_25 : decode cX8_soon 25 = .ok (.bipush (-3), 2) := by decide +kernel
theorem dX8_soon_27 : decode cX8_soon 27 = .ok (.ireturn, 1) := by decide +kernel
theorem dX8_soon_28 : decode cX8_soon 28 = .ok (.iconst 1, 1) := by decide +kernel
theorem dX8_soon_29 : decode cX8_soon 29 = .ok (.istore_n 2, 1) := by decide +kernel
theorem dX8_soon_30 : decode cX8_soon 30 = .ok (.iload_n 2, 1) := by decide +kernel
theorem dX8_soon_31 : decode cX8_soon 31 = .ok (.iconst 4, 1) := by decide +kernel
theorem dX8_soon_32 : decode cX8_soon 32 = .ok (.if_icmp .gt 71, 3) := by decide +kernel
theorem dX8_soon_35 : decode cX8_soon 35 = .ok (.aload_n 0, 1) := by decide +kernel
theorem dX8_soon_36 : decode cX8_soon 36 = .ok (.iload_n 2, 1) := by decide +kernel
theorem dX8_soon_37 : decode cX8_soon 37 = .ok (.invokevirtual 148, 3) := by decide +kernel
theorem dX8_soon_40 : decode cX8_soon 40 = .ok (.ifCond .eq 63, 3) := by decide +kernel
theorem dX8_soon_43 : decode cX8_soon 43 = .ok (.aload_n 0, 1) := by decide +kernel
theorem dX8_soon_44 : decode cX8_soon 44 = .ok (.getfield 48, 3) := by decide +kernel
theorem dX8_soon_47 : decode cX8_soon 47 = .ok (.aload_n 0, 1) := by decide +kernel
theorem dX8_soon_48 : decode cX8_soon 48 = .ok (.getfield 19, 3) := by decide +kernel
theorem dX8_soon_51 : decode cX8_soon 51 = .ok (.aload_n 0, 1) := by decide +kernel
theorem dX8_soon_52 : decode cX8_soon 52 = .ok (.getfield 26, 3) := by decide +kernel
theorem dX8_soon_55 : decode cX8_soon 55 = .ok (.iload_n 2, 1) := by decide +kernel
theorem dX8_soon_56 : decode cX8_soon 56 = .ok (.invokevirtual 162, 3) := by decide +kernel
theorem dX8_soon_59 : decode cX8_soon 59 = .ok (.aload_n 0, 1) := by decide +kernel
theorem dX8_soon_60 : decode cX8_soon 60 = .ok (.getfield 48, 3) := by decide +kernel
theorem dX8_soon_63 : decode cX8_soon 63 = .ok (.invokevirtual 166, 3) := by decide +kernel
theorem dX8_soon_66 : decode cX8_soon 66 = .ok (.getfield 170, 3) := by decide +kernel
theorem dX8_soon_69 : decode cX8_soon 69 = .ok (.ldc2_w 179, 3) := by decide +kernel
theorem dX8_soon_72 : decode cX8_soon 72 = .ok (.lmul, 1) := by decide +kernel
theorem dX8_soon_73 : decode cX8_soon 73 = .ok (.aload_n 0, 1) := by decide +kernel
theorem dX8_soon_74 : decode cX8_soon 74 = .ok (.getfield 26, 3) := by decide +kernel
theorem dX8_soon_77 : decode cX8_soon 77 = .ok (.invokevirtual 132, 3) := by decide +kernel
theorem dX8_soon_80 : decode cX8_soon 80 = .ok (.ldc2_w 156, 3) := by decide +kernel
theorem dX8_soon_83 : decode cX8_soon 83 = .ok (.iload_n 2, 1) := by decide +kernel
theorem dX8_soon_84 : decode cX8_soon 84 = .ok (.invokestatic 158, 3) := by decide +kernel
theorem dX8_soon_87 : decode cX8_soon 87 = .ok (.lmul, 1) := by decide +kernel
theorem dX8_soon_88 : decode cX8_soon 88 = .ok (.iload_n 1, 1) := by decide +kernel
theorem dX8_soon_89 : decode cX8_soon 89 = .ok (.i2l, 1) := by decide +kernel
theorem dX8_soon_90 : decode cX8_soon 90 = .ok (.lmul, 1) := by decide +kernel
theorem dX8_soon_91 : decode cX8_soon 91 = .ok (.lcmp, 1) := by decide +kernel
theorem dX8_soon_92 : decode cX8_soon 92 = .ok (.ifCond .lt 5, 3) := by decide +kernel
theorem dX8_soon_95 : decode cX8_soon 95 = .ok (.iload_n 2, 1) := by decide +kernel
theorem dX8_soon_96 : decode cX8_soon 96 = .ok (.ireturn, 1) := by decide +kernel
theorem dX8_soon_97 : decode cX8_soon 97 = .ok (.iinc 2 1, 3) := by decide +kernel
theorem dX8_soon_100 : decode cX8_soon 100 = .ok (.goto (-70), 3) := by decide +kernel
theorem dX8_soon_103 : decode cX8_soon 103 = .ok (.bipush (-9), 2) := by decide +kernel
theorem dX8_soon_105 : decode cX8_soon 105 = .ok (.ireturn, 1) := by decide +kernel
set_option maxRecDepth 20000 in
theorem ggX8_first_X8_isWithin : GoodIn wsX8_first wsX8_isWithin := goodIn_r _ [10] (by decide +kernel) (by decide +kernel)
set_option maxRecDepth 20000 in
theorem gX8_first_X8_isWithin : GoodIn wsX8_first (va_wsS RX8 59 yX8_isWithin wsX8_isWithin) := goodIn_app (goodIn_of _ (by decide +kernel)) ggX8_first_X8_isWithin
set_option maxRecDepth 20000 in
theorem ggX8_first_X8_isLeft : GoodIn wsX8_first wsX8_isLeft := goodIn_r _ [14, 5, 4, 15, 16, 17, 18, 19, 20, 135, 136, 137, 138, 139, 140, 141, 142, 143, 144, 152, 153, 154, 155, 156, 157, 158, 159, 160, 161, 162, 163, 164, 165, 166] (by decide +kernel) (by decide +kernel)
set_option maxRecDepth 20000 in
theorem gX8_first_X8_isLeft : GoodIn wsX8_first (wsV RX8 148 RX8 yX8_isLeft wsX8_isLeft) := goodIn_app (goodIn_of _ (by decide +kernel)) ggX8_first_X8_isLeft
set_option maxRecDepth 20000 in
theorem ggX8_first_X0_tryAll : GoodIn wsX8_first wsX0_tryAll := goodIn_r _ [25, 26, 27, 28, 29, 30, 31, 32, 33, 34, 35, 36, 37, 38, 39, 40, 41, 42, 43, 44, 45, 46, 47, 48, 49, 50, 18, 51, 20, 52, 53, 54, 55, 56, 57, 58, 59, 60, 61, 62, 63, 64, 65, 66, 67, 68, 69, 70, 71, 24, 72, 73, 74, 75, 76, 77, 78, 79, 80, 81, 82, 83, 84, 9, 85, 86, 87, 88, 89, 90, 91, 92, 93, 94, 95, 96, 97, 98, 99, 100, 101, 102, 103, 104, 105, 106, 107, 108, 109, 110, 111, 112, 113, 114, 115, 116, 117, 118, 119, 120, 121, 145, 146, 147, 148, 149, 150, 151, 167, 152, 153, 154, 155, 156, 157, 158, 159, 160, 161, 162, 163, 164, 165, 166] (by decide +kernel) (by decide +kernel)
set_option maxRecDepth 20000 in
theorem gX8_first_X0_tryAll : GoodIn wsX8_first (wsV RX8 162 RX0 yX0_tryAll wsX0_tryAll) := goodIn_app (goodIn_of _ (by decide +kernel)) ggX8_first_X0_tryAll
set_option maxRecDepth 20000 in
theorem ggX8_first_X4_together : GoodIn wsX8_first wsX4_together := goodIn_r _ [19, 20, 152, 153, 154, 155, 156, 157] (by decide +kernel) (by decide +kernel)
set_option maxRecDepth 20000 in
theorem gX8_first_X4_together : GoodIn wsX8_first (wsV RX8 132 RX4 yX4_together wsX4_together) := goodIn_app (goodIn_of _ (by decide +kernel)) ggX8_first_X4_together
set_option maxRecDepth 20000 in
theorem ggX8_first_X8_power : GoodIn wsX8_first wsX8_power := goodIn_r _ [124] (by decide +kernel) (by decide +kernel)
set_option maxRecDepth 20000 in
theorem gX8_first_X8_power : GoodIn wsX8_first (va_wsS RX8 158 yX8_power wsX8_power) := goodIn_app (goodIn_of _ (by decide +kernel)) ggX8_first_X8_power
set_option maxRecDepth 20000 in
theorem ggX8_first_X3_part : GoodIn wsX8_first wsX3_part := goodIn_r _ [128, 129, 130, 88, 131, 132, 133, 127, 134] (by decide +kernel) (by decide +kernel)
set_option maxRecDepth 20000 in
theorem gX8_first_X3_part : GoodIn wsX8_first (va_wsS RX8 138 yX3_part wsX3_part) := goodIn_app (goodIn_of _ (by decide +kernel)) ggX8_first_X3_part
theorem dX8_first_0 : decode cX8_first 0 = .ok (.iload_n 1, 1) := by decide +kernel
theorem dX8_first_1 : decode cX8_first 1 = .ok (.iconst 1, 1) := by decide +kernel
theorem dX8_first_2 : decode cX8_first 2 = .ok (.iconst 4, 1) := by decide +kernel
theorem dX8_first_3 : decode cX8_first 3 = .ok (.invokestatic 59, 3) := by decide +kernel
theorem dX8_first_6 : decode cX8_first 6 = .ok (.ifCond .ne 7, 3) := by decide +kernel
theorem dX8_first_9 : decode cX8_first 9 = .ok (.ldc2_w 130, 3) := by decide +kernel
theorem dX8_first_12 : decode cX8_first 12 = .ok (.lreturn, 1) := by decide +kernel
theorem dX8_first_13 : decode cX8_first 13 = .ok (.aload_n 0, 1) := by decide +kernel
theorem dX8_first_14 : decode cX8_first 14 = .ok (.iload_n 1, 1) := by decide +kernel
theorem dX8_first_15 : decode cX8_first 15 = .ok (.invokevirtual 148, 3) := by decide +kernel
theorem dX8_first_18 : decode cX8_first 18 = .ok (.ifCond .ne 7, 3) := by decide +kernel
theorem dX8_first_21 : decode cX8_first 21 = .ok (.ldc2_w 136, 3) := by decide +kernel
theorem dX8_first_24 : decode cX8_first 24 = .ok (.lreturn, 1) := by decide +kernel
theorem dX8_first_25 : decode cX8_first 25 = .ok (.aload_n 0, 1) := by decide +kernel
theorem dX8_first_26 : decode cX8_first 26 = .ok (.getfield 48, 3) := by decide +kernel
theorem dX8_first_29 : decode cX8_first 29 = .ok (.aload_n 0, 1) := by decide +kernel
theorem dX8_first_30 : decode cX8_first 30 = .ok (.getfield 19, 3) := by decide +kernel
theorem dX8_first_33 : decode cX8_first 33 = .ok (.aload_n 0, 1) := by decide +kernel
theorem dX8_first_34 : decode cX8_first 34 = .ok (.getfield 26, 3) := by decide +kernel
theorem dX8_first_37 : decode cX8_first 37 = .ok (.iload_n 1, 1) := by decide +kernel
theorem dX8_first_38 : decode cX8_first 38 = .ok (.invokevirtual 162, 3) := by decide +kernel
theorem dX8_first_41 : decode cX8_first 41 = .ok (.aload_n 0, 1) := by decide +kernel
theorem dX8_first_42 : decode cX8_first 42 = .ok (.getfield 48, 3) := by decide +kernel
theorem dX8_first_45 : decode cX8_first 45 = .ok (.getfield 181, 3) := by decide +kernel
theorem dX8_first_48 : decode cX8_first 48 = .ok (.getfield 170, 3) := by decide +kernel
theorem dX8_first_51 : decode cX8_first 51 = .ok (.aload_n 0, 1) := by decide +kernel
theorem dX8_first_52 : decode cX8_first 52 = .ok (.getfield 48, 3) := by decide +kernel
theorem dX8_first_55 : decode cX8_first 55 = .ok (.getfield 185, 3) := by decide +kernel
theorem dX8_first_58 : decode cX8_first 58 = .ok (.getfield 170, 3) := by decide +kernel
theorem dX8_first_61 : decode cX8_first 61 = .ok (.lsub, 1) := by decide +kernel
theorem dX8_first_62 : decode cX8_first 62 = .ok (.aload_n 0, 1) := by decide +kernel
theorem dX8_first_63 : decode cX8_first 63 = .ok (.getfield 26, 3) := by decide +kernel
theorem dX8_first_66 : decode cX8_first 66 = .ok (.invokevirtual 132, 3) := by decide +kernel
theorem dX8_first_69 : decode cX8_first 69 = .ok (.ldc2_w 156, 3) := by decide +kernel
theorem dX8_first_72 : decode cX8_first 72 = .ok (.iload_n 1, 1) := by decide +kernel
theorem dX8_first_73 : decode cX8_first 73 = .ok (.invokestatic 158, 3) := by decide +kernel
theorem dX8_first_76 : decode cX8_first 76 = .ok (.lmul, 1) := by decide +kernel
theorem dX8_first_77 : decode cX8_first 77 = .ok (.iload_n 2, 1) := by decide +kernel
theorem dX8_first_78 : decode cX8_first 78 = .ok (.invokestatic 138, 3) := by decide +kernel
theorem dX8_first_81 : decode cX8_first 81 = .ok (.lreturn, 1) := by decide +kernel
set_option maxRecDepth 20000 in
theorem ggX8_withSecond_X8_isWithin : GoodIn wsX8_withSecond wsX8_isWithin := goodIn_r _ [10] (by decide +kernel) (by decide +kernel)
set_option maxRecDepth 20000 in
theorem gX8_withSecond_X8_isWithin : GoodIn wsX8_withSecond (va_wsS RX8 59 yX8_isWithin wsX8_isWithin) := goodIn_app (goodIn_of _ (by decide +kernel)) ggX8_withSecond_X8_isWithin
set_option maxRecDepth 20000 in
theorem ggX8_withSecond_X8_isLeft : GoodIn wsX8_withSecond wsX8_isLeft := goodIn_r _ [14, 5, 2, 15, 16, 17, 18, 19, 20, 129, 130, 131, 132, 133, 134, 135, 136, 137, 138, 155, 156, 157, 158, 159, 160, 139, 140, 141, 142, 143, 144, 145, 146, 147] (by decide +kernel) (by decide +kernel)
set_option maxRecDepth 20000 in
theorem gX8_withSecond_X8_isLeft : GoodIn wsX8_withSecond (wsV RX8 148 RX8 yX8_isLeft wsX8_isLeft) := goodIn_app (goodIn_of _ (by decide +kernel)) ggX8_withSecond_X8_isLeft
set_option maxRecDepth 20000 in
theorem ggX8_withSecond_X0_tryTogether : GoodIn wsX8_withSecond wsX0_tryTogether := goodIn_r _ [25, 26, 27, 28, 29, 30, 31, 32, 33, 34, 35, 36, 37, 38, 39, 40, 41, 42, 43, 44, 45, 46, 47, 48, 49, 18, 50, 20, 51, 52, 53, 54, 55, 56, 57, 58, 59, 60, 61, 62, 63, 64, 65, 66, 67, 68, 69, 70, 24, 71, 72, 73, 74, 75, 76, 9, 77, 78, 79, 80, 81, 82, 83, 84, 85, 86, 87, 88, 89, 90, 91, 92, 93, 94, 95, 96, 97, 98, 99, 100, 101, 102, 103, 104, 105, 106, 107, 16, 17, 19, 108, 109, 110, 111, 112, 113, 114, 115, 148, 149, 150, 151, 152, 139, 140, 141, 142, 143, 144, 145, 146, 147, 153, 154, 161, 155, 156, 157, 158, 159, 160] (by decide +kernel) (by decide +kernel)
set_option maxRecDepth 20000 in
theorem gX8_withSecond_X0_tryTogether : GoodIn wsX8_withSecond (wsV RX8 191 RX0 yX0_tryTogether wsX0_tryTogether) := goodIn_app (goodIn_of _ (by decide +kernel)) ggX8_withSecond_X0_tryTogether
set_option maxRecDepth 20000 in
theorem ggX8_withSecond_X4_together : GoodIn wsX8_withSecond wsX4_together := goodIn_r _ [19, 20, 155, 156, 157, 158, 159, 160] (by decide +kernel) (by decide +kernel)
set_option maxRecDepth 20000 in
theorem gX8_withSecond_X4_together : GoodIn wsX8_withSecond (wsV RX8 132 RX4 yX4_together wsX4_together) := goodIn_app (goodIn_of _ (by decide +kernel)) ggX8_withSecond_X4_together
set_option maxRecDepth 20000 in
theorem ggX8_withSecond_X8_power : GoodIn wsX8_withSecond wsX8_power := goodIn_r _ [118] (by decide +kernel) (by decide +kernel)
set_option maxRecDepth 20000 in
theorem gX8_withSecond_X8_power : GoodIn wsX8_withSecond (va_wsS RX8 158 yX8_power wsX8_power) := goodIn_app (goodIn_of _ (by decide +kernel)) ggX8_withSecond_X8_power
set_option maxRecDepth 20000 in
theorem ggX8_withSecond_X3_part : GoodIn wsX8_withSecond wsX3_part := goodIn_r _ [122, 123, 124, 80, 125, 126, 127, 121, 128] (by decide +kernel) (by decide +kernel)
set_option maxRecDepth 20000 in
theorem gX8_withSecond_X3_part : GoodIn wsX8_withSecond (va_wsS RX8 138 yX3_part wsX3_part) := goodIn_app (goodIn_of _ (by decide +kernel)) ggX8_withSecond_X3_part
theorem dX8_withSecond_0 : decode cX8_withSecond 0 = .ok (.iload_n 1, 1) := by decide +kernel
theorem dX8_withSecond_1 : decode cX8_withSecond 1 = .ok (.iconst 1, 1) := by decide +kernel
theorem dX8_withSecond_2 : decode cX8_withSecond 2 = .ok (.iconst 2, 1) := by decide +kernel
theorem dX8_withSecond_3 : decode cX8_withSecond 3 = .ok (.invokestatic 59, 3) := by decide +kernel
theorem dX8_withSecond_6 : decode cX8_withSecond 6 = .ok (.ifCond .ne 7, 3) := by decide +kernel
theorem dX8_withSecond_9 : decode cX8_withSecond 9 = .ok (.ldc2_w 130, 3) := by decide +kernel
theorem dX8_withSecond_12 : decode cX8_withSecond 12 = .ok (.lreturn, 1) := by decide +kernel
theorem dX8_withSecond_13 : decode cX8_withSecond 13 = .ok (.aload_n 0, 1) := by decide +kernel
theorem dX8_withSecond_14 : decode cX8_withSecond 14 = .ok (.getfield 19, 3) := by decide +kernel
theorem dX8_withSecond_17 : decode cX8_withSecond 17 = .ok (.getfield 188, 3) := by decide +kernel
theorem dX8_withSecond_20 : decode cX8_withSecond 20 = .ok (.bipush (-9), 2) := by decide +kernel
theorem dX8_withSecond_22 : decode cX8_withSecond 22 = .ok (.if_icmp .eq 11, 3) := by decide +kernel
theorem dX8_withSecond_25 : decode cX8_withSecond 25 = .ok (.aload_n 0, 1) := by decide +kernel
theorem dX8_withSecond_26 : decode cX8_withSecond 26 = .ok (.iload_n 1, 1) := by decide +kernel
theorem dX8_withSecond_27 : decode cX8_withSecond 27 = .ok (.invokevirtual 148, 3) := by decide +kernel
theorem dX8_withSecond_30 : decode cX8_withSecond 30 = .ok (.ifCond .ne 7, 3) := by decide +kernel
theorem dX8_withSecond_33 : decode cX8_withSecond 33 = .ok (.ldc2_w 136, 3) := by decide +kernel
theorem dX8_withSecond_36 : decode cX8_withSecond 36 = .ok (.lreturn, 1) := by decide +kernel
theorem dX8_withSecond_37 : decode cX8_withSecond 37 = .ok (.aload_n 0, 1) := by decide +kernel
theorem dX8_withSecond_38 : decode cX8_withSecond 38 = .ok (.getfield 48, 3) := by decide +kernel
theorem dX8_withSecond_41 : decode cX8_withSecond 41 = .ok (.aload_n 0, 1) := by decide +kernel
theorem dX8_withSecond_42 : decode cX8_withSecond 42 = .ok (.getfield 19, 3) := by decide +kernel
theorem dX8_withSecond_45 : decode cX8_withSecond 45 = .ok (.aload_n 0, 1) := by decide +kernel
theorem dX8_withSecond_46 : decode cX8_withSecond 46 = .ok (.getfield 26, 3) := by decide +kernel
theorem dX8_withSecond_49 : decode cX8_withSecond 49 = .ok (.iload_n 1, 1) := by decide +kernel
theorem dX8_withSecond_50 : decode cX8_withSecond 50 = .ok (.invokevirtual 191, 3) := by decide +kernel
theorem dX8_withSecond_53 : decode cX8_withSecond 53 = .ok (.aload_n 0, 1) := by decide +kernel
theorem dX8_withSecond_54 : decode cX8_withSecond 54 = .ok (.getfield 48, 3) := by decide +kernel
theorem dX8_withSecond_57 : decode cX8_withSecond 57 = .ok (.getfield 194, 3) := by decide +kernel
theorem dX8_withSecond_60 : decode cX8_withSecond 60 = .ok (.getfield 170, 3) := by decide +kernel
theorem dX8_withSecond_63 : decode cX8_withSecond 63 = .ok (.aload_n 0, 1) := by decide +kernel
theorem dX8_withSecond_64 : decode cX8_withSecond 64 = .ok (.getfield 26, 3) := by decide +kernel
theorem dX8_withSecond_67 : decode cX8_withSecond 67 = .ok (.invokevirtual 132, 3) := by decide +kernel
theorem dX8_withSecond_70 : decode cX8_withSecond 70 = .ok (.ldc2_w 197, 3) := by decide +kernel
theorem dX8_withSecond_73 : decode cX8_withSecond 73 = .ok (.iload_n 1, 1) := by decide +kernel
theorem dX8_withSecond_74 : decode cX8_withSecond 74 = .ok (.invokestatic 158, 3) := by decide +kernel
theorem dX8_withSecond_77 : decode cX8_withSecond 77 = .ok (.lmul, 1) := by decide +kernel
theorem dX8_withSecond_78 : decode cX8_withSecond 78 = .ok (.iload_n 2, 1) := by decide +kernel
theorem dX8_withSecond_79 : decode cX8_withSecond 79 = .ok (.invokestatic 138, 3) := by decide +kernel
theorem dX8_withSecond_82 : decode cX8_withSecond 82 = .ok (.lreturn, 1) := by decide +kernel
set_option maxRecDepth 20000 in
theorem ggX8_lanes_X4_of : GoodIn wsX8_lanes wsX4_of := goodIn_r _ [13, 14, 25, 26, 27, 28, 29, 30] (by decide +kernel) (by decide +kernel)
set_option maxRecDepth 20000 in
theorem gX8_lanes_X4_of : GoodIn wsX8_lanes (wsV RX8 126 RX4 yX4_of wsX4_of) := goodIn_app (goodIn_of _ (by decide +kernel)) ggX8_lanes_X4_of
theorem dX8_lanes_0 : decode cX8_lanes 0 = .ok (.iconst 0, 1) := by decide +kernel
theorem dX8_lanes_1 : decode cX8_lanes 1 = .ok (.istore_n 1, 1) := by decide +kernel
theorem dX8_lanes_2 : decode cX8_lanes 2 = .ok (.iconst 0, 1) := by decide +kernel
theorem dX8_lanes_3 : decode cX8_lanes 3 = .ok (.istore_n 2, 1) := by decide +kernel
theorem dX8_lanes_4 : decode cX8_lanes 4 = .ok (.iconst 0, 1) := by decide +kernel
theorem dX8_lanes_5 : decode cX8_lanes 5 = .ok (.istore_n 3, 1) := by decide +kernel
theorem dX8_lanes_6 : decode cX8_lanes 6 = .ok (.iload_n 3, 1) := by decide +kernel
theorem dX8_lanes_7 : decode cX8_lanes 7 = .ok (.bipush 10, 2) := by decide +kernel
theorem dX8_lanes_9 : decode cX8_lanes 9 = .ok (.if_icmp .ge 50, 3) := by decide +kernel
theorem dX8_lanes_12 : decode cX8_lanes 12 = .ok (.aload_n 0, 1) := by decide +kernel
theorem dX8_lanes_13 : decode cX8_lanes 13 = .ok (.getfield 26, 3) := by decide +kernel
theorem dX8_lanes_16 : decode cX8_lanes 16 = .ok (.iload_n 3, 1) := by decide +kernel
theorem dX8_lanes_17 : decode cX8_lanes 17 = .ok (.invokevirtual 126, 3) := by decide +kernel
theorem dX8_lanes_20 : decode cX8_lanes 20 = .ok (.lconst 0, 1) := by decide +kernel
theorem dX8_lanes_21 : decode cX8_lanes 21 = .ok (.lcmp, 1) := by decide +kernel
theorem dX8_lanes_22 : decode cX8_lanes 22 = .ok (.ifCond .le 31, 3) := by decide +kernel
theorem dX8_lanes_25 : decode cX8_lanes 25 = .ok (.iload_n 1, 1) := by decide +kernel
theorem dX8_lanes_26 : decode cX8_lanes 26 = .ok (.aload_n 0, 1) := by decide +kernel
theorem dX8_lanes_27 : decode cX8_lanes 27 = .ok (.getfield 26, 3) := by decide +kernel
theorem dX8_lanes_30 : decode cX8_lanes 30 = .ok (.getfield 109, 3) := by decide +kernel
theorem dX8_lanes_33 : decode cX8_lanes 33 = .ok (.iload_n 3, 1) := by decide +kernel
theorem dX8_lanes_34 : decode cX8_lanes 34 = .ok (.isub, 1) := by decide +kernel
theorem dX8_lanes_35 : decode cX8_lanes 35 = .ok (.invokestatic 199, 3) := by decide +kernel
theorem dX8_lanes_38 : decode cX8_lanes 38 = .ok (.istore_n 1, 1) := by decide +kernel
theorem dX8_lanes_39 : decode cX8_lanes 39 = .ok (.iload_n 2, 1) := by decide +kernel
theorem dX8_lanes_40 : decode cX8_lanes 40 = .ok (.iload_n 3, 1) := by decide +kernel
theorem dX8_lanes_41 : decode cX8_lanes 41 = .ok (.aload_n 0, 1) := by decide +kernel
theorem dX8_lanes_42 : decode cX8_lanes 42 = .ok (.getfield 26, 3) := by decide +kernel
theorem dX8_lanes_45 : decode cX8_lanes 45 = .ok (.getfield 109, 3) := by decide +kernel
theorem dX8_lanes_48 : decode cX8_lanes 48 = .ok (.isub, 1) := by decide +kernel
theorem dX8_lanes_49 : decode cX8_lanes 49 = .ok (.invokestatic 199, 3) := by decide +kernel
theorem dX8_lanes_52 : decode cX8_lanes 52 = .ok (.istore_n 2, 1) := by decide +kernel
theorem dX8_lanes_53 : decode cX8_lanes 53 = .ok (.iinc 3 1, 3) := by decide +kernel
theorem dX8_lanes_56 : decode cX8_lanes 56 = .ok (.goto (-50), 3) := by decide +kernel
theorem dX8_lanes_59 : decode cX8_lanes 59 = .ok (.iload_n 1, 1) := by decide +kernel
theorem dX8_lanes_60 : decode cX8_lanes 60 = .ok (.iload_n 2, 1) := by decide +kernel
theorem dX8_lanes_61 : decode cX8_lanes 61 = .ok (.iadd, 1) := by decide +kernel
theorem dX8_lanes_62 : decode cX8_lanes 62 = .ok (.iload_n 1, 1) := by decide +kernel
theorem dX8_lanes_63 : decode cX8_lanes 63 = .ok (.iload_n 2, 1) := by decide +kernel
theorem dX8_lanes_64 : decode cX8_lanes 64 = .ok (.invokestatic 205, 3) := by decide +kernel
theorem dX8_lanes_67 : decode cX8_lanes 67 = .ok (.iadd, 1) := by decide +kernel
theorem dX8_lanes_68 : decode cX8_lanes 68 = .ok (.ireturn, 1) := by decide +kernel
set_option maxRecDepth 20000 in
theorem ggX8_judge_X8_isWithin : GoodIn wsX8_judge wsX8_isWithin := goodIn_r _ [8] (by decide +kernel) (by decide +kernel)
set_option maxRecDepth 20000 in
theorem gX8_judge_X8_isWithin : GoodIn wsX8_judge (va_wsS RX8 59 yX8_isWithin wsX8_isWithin) := goodIn_app (goodIn_of _ (by decide +kernel)) ggX8_judge_X8_isWithin
set_option maxRecDepth 20000 in
theorem ggX8_judge_X8_power : GoodIn wsX8_judge wsX8_power := goodIn_r _ [11] (by decide +kernel) (by decide +kernel)
set_option maxRecDepth 20000 in
theorem gX8_judge_X8_power : GoodIn wsX8_judge (va_wsS RX8 158 yX8_power wsX8_power) := goodIn_app (goodIn_of _ (by decide +kernel)) ggX8_judge_X8_power
set_option maxRecDepth 20000 in
theorem ggX8_judge_X4_copy : GoodIn wsX8_judge wsX4_copy := goodIn_r _ [16, 17, 18, 19, 20, 21, 22, 23, 24, 25, 15, 26, 27, 28, 29, 30, 31, 32, 33, 34, 87, 88, 89, 90, 91, 92] (by decide +kernel) (by decide +kernel)
set_option maxRecDepth 20000 in
theorem gX8_judge_X4_copy : GoodIn wsX8_judge (wsV RX8 208 RX4 yX4_copy wsX4_copy) := goodIn_app (goodIn_of _ (by decide +kernel)) ggX8_judge_X4_copy
set_option maxRecDepth 20000 in
theorem ggX8_judge_X8_figureOf : GoodIn wsX8_judge wsX8_figureOf := goodIn_r _ [37, 1, 9, 10, 7, 11] (by decide +kernel) (by decide +kernel)
set_option maxRecDepth 20000 in
theorem gX8_judge_X8_figureOf : GoodIn wsX8_judge (va_wsS RX8 212 yX8_figureOf wsX8_figureOf) := goodIn_app (goodIn_of _ (by decide +kernel)) ggX8_judge_X8_figureOf
set_option maxRecDepth 20000 in
theorem ggX8_judge_X4_placeBy : GoodIn wsX8_judge wsX4_placeBy := goodIn_r _ [41, 20, 42, 7, 43, 44, 45, 46, 47, 48, 49, 50, 87, 88, 89, 90, 91, 92] (by decide +kernel) (by decide +kernel)
set_option maxRecDepth 20000 in
theorem gX8_judge_X4_placeBy : GoodIn wsX8_judge (wsV RX8 216 RX4 yX4_placeBy wsX4_placeBy) := goodIn_app (goodIn_of _ (by decide +kernel)) ggX8_judge_X4_placeBy
set_option maxRecDepth 20000 in
theorem ggX8_judge_X4_of : GoodIn wsX8_judge wsX4_of := goodIn_r _ [26, 17, 87, 88, 89, 90, 91, 92] (by decide +kernel) (by decide +kernel)
set_option maxRecDepth 20000 in
theorem gX8_judge_X4_of : GoodIn wsX8_judge (wsV RX8 126 RX4 yX4_of wsX4_of) := goodIn_app (goodIn_of _ (by decide +kernel)) ggX8_judge_X4_of
set_option maxRecDepth 20000 in
theorem ggX8_judge_X4_act : GoodIn wsX8_judge wsX4_act := goodIn_r _ [55, 56, 57, 58, 15, 59, 20, 60, 39, 40, 41, 42, 7, 43, 44, 45, 46, 47, 48, 49, 50, 61, 62, 63, 64, 65, 66, 67, 68, 69, 70, 71, 17, 72, 73, 74, 75, 76, 21, 23, 24, 25, 26, 87, 88, 89, 90, 91, 92, 93, 94, 95, 96, 97, 98, 99, 100, 101] (by decide +kernel) (by decide +kernel)
set_option maxRecDepth 20000 in
theorem gX8_judge_X4_act : GoodIn wsX8_judge (wsV RX8 105 RX4 yX4_act wsX4_act) := goodIn_app (goodIn_of _ (by decide +kernel)) ggX8_judge_X4_act
theorem dX8_judge_0 : decode cX8_judge 0 = .ok (.iload_n 1, 1) := by decide +kernel
theorem dX8_judge_1 : decode cX8_judge 1 = .ok (.iconst 1, 1) := by decide +kernel
theorem dX8_judge_2 : decode cX8_judge 2 = .ok (.bipush 8, 2) := by decide +kernel
theorem dX8_judge_4 : decode cX8_judge 4 = .ok (.invokestatic 59, 3) := by decide +kernel
theorem dX8_judge_7 : decode cX8_judge 7 = .ok (.ifCond .eq 20, 3) := by decide +kernel
theorem dX8_judge_10 : decode cX8_judge 10 = .ok (.iload_n 2, 1) := by decide +kernel
theorem dX8_judge_11 : decode cX8_judge 11 = .ok (.ifCond .lt 16, 3) := by decide +kernel
theorem dX8_judge_14 : decode cX8_judge 14 = .ok (.iload_n 2, 1) := by decide +kernel
theorem dX8_judge_15 : decode cX8_judge 15 = .ok (.i2l, 1) := by decide +kernel
theorem dX8_judge_16 : decode cX8_judge 16 = .ok (.ldc2_w 179, 3) := by decide +kernel
theorem dX8_judge_19 : decode cX8_judge 19 = .ok (.iload_n 1, 1) := by decide +kernel
theorem dX8_judge_20 : decode cX8_judge 20 = .ok (.invokestatic 158, 3) := by decide +kernel
theorem dX8_judge_23 : decode cX8_judge 23 = .ok (.lcmp, 1) := by decide +kernel
theorem dX8_judge_24 : decode cX8_judge 24 = .ok (.ifCond .lt 6, 3) := by decide +kernel
theorem dX8_judge_27 : decode cX8_judge 27 = .ok (.bipush (-2), 2) := by decide +kernel
theorem dX8_judge_29 : decode cX8_judge 29 = .ok (.ireturn, 1) := by decide +kernel
theorem dX8_judge_30 : decode cX8_judge 30 = .ok (.aload_n 0, 1) := by decide +kernel
theorem dX8_judge_31 : decode cX8_judge 31 = .ok (.getfield 30, 3) := by decide +kernel
theorem dX8_judge_34 : decode cX8_judge 34 = .ok (.aload_n 0, 1) := by decide +kernel
theorem dX8_judge_35 : decode cX8_judge 35 = .ok (.getfield 26, 3) := by decide +kernel
theorem dX8_judge_38 : decode cX8_judge 38 = .ok (.invokevirtual 208, 3) := by decide +kernel
theorem dX8_judge_41 : decode cX8_judge 41 = .ok (.iconst 0, 1) := by decide +kernel
theorem dX8_judge_42 : decode cX8_judge 42 = .ok (.istore_n 3, 1) := by decide +kernel
theorem dX8_judge_43 : decode cX8_judge 43 = .ok (.iload_n 3, 1) := by decide +kernel
theorem dX8_judge_44 : decode cX8_judge 44 = .ok (.iload_n 1, 1) := by decide +kernel
theorem dX8_judge_45 : decode cX8_judge 45 = .ok (.if_icmp .ge 76, 3) := by decide +kernel
theorem dX8_judge_48 : decode cX8_judge 48 = .ok (.iload_n 1, 1) := by decide +kernel
theorem dX8_judge_49 : decode cX8_judge 49 = .ok (.iload_n 2, 1) := by decide +kernel
theorem dX8_judge_50 : decode cX8_judge 50 = .ok (.iload_n 3, 1) := by decide +kernel
theorem dX8_judge_51 : decode cX8_judge 51 = .ok (.invokestatic 212, 3) := by decide +kernel
theorem dX8_judge_54 : decode cX8_judge 54 = .ok (.istore 4, 2) := by decide +kernel
theorem dX8_judge_56 : decode cX8_judge 56 = .ok (.iload 4, 2) := by decide +kernel
theorem dX8_judge_58 : decode cX8_judge 58 = .ok (.iconst 3, 1) := by decide +kernel
theorem dX8_judge_59 : decode cX8_judge 59 = .ok (.if_icmp .gt 41, 3) := by decide +kernel
theorem dX8_judge_62 : decode cX8_judge 62 = .ok (.aload_n 0, 1) := by decide +kernel
theorem dX8_judge_63 : decode cX8_judge 63 = .ok (.getfield 30, 3) := by decide +kernel
theorem dX8_judge_66 : decode cX8_judge 66 = .ok (.getfield 96, 3) := by decide +kernel
theorem dX8_judge_69 : decode cX8_judge 69 = .ok (.aload_n 0, 1) := by decide +kernel
theorem dX8_judge_70 : decode cX8_judge 70 = .ok (.getfield 19, 3) := by decide +kernel
theorem dX8_judge_73 : decode cX8_judge 73 = .ok (.getfield 99, 3) := by decide +kernel
theorem dX8_judge_76 : decode cX8_judge 76 = .ok (.if_icmp .ge 24, 3) := by decide +kernel
theorem dX8_judge_79 : decode cX8_judge 79 = .ok (.aload_n 0, 1) := by decide +kernel
theorem dX8_judge_80 : decode cX8_judge 80 = .ok (.getfield 30, 3) := by decide +kernel
theorem dX8_judge_83 : decode cX8_judge 83 = .ok (.aload_n 0, 1) := by decide +kernel
theorem dX8_judge_84 : decode cX8_judge 84 = .ok (.getfield 30, 3) := by decide +kernel
theorem dX8_judge_87 : decode cX8_judge 87 = .ok (.iload 4, 2) := by decide +kernel
theorem dX8_judge_89 : decode cX8_judge 89 = .ok (.invokevirtual 216, 3) := by decide +kernel
theorem dX8_judge_92 : decode cX8_judge 92 = .ok (.invokevirtual 126, 3) := by decide +kernel
theorem dX8_judge_95 : decode cX8_judge 95 = .ok (.lconst 0, 1) := by decide +kernel
theorem dX8_judge_96 : decode cX8_judge 96 = .ok (.lcmp, 1) := by decide +kernel
theorem dX8_judge_97 : decode cX8_judge 97 = .ok (.ifCond .ne 5, 3) := by decide +kernel
theorem dX8_judge_100 : decode cX8_judge 100 = .ok (.iload_n 3, 1) := by decide +kernel
theorem dX8_judge_101 : decode cX8_judge 101 = .ok (.ireturn, 1) := by decide +kernel
theorem dX8_judge_102 : decode cX8_judge 102 = .ok (.aload_n 0, 1) := by decide +kernel
theorem dX8_judge_103 : decode cX8_judge 103 = .ok (.getfield 30, 3) := by decide +kernel
theorem dX8_judge_106 : decode cX8_judge 106 = .ok (.aload_n 0, 1) := by decide +kernel
theorem dX8_judge_107 : decode cX8_judge 107 = .ok (.getfield 19, 3) := by decide +kernel
theorem dX8_judge_110 : decode cX8_judge 110 = .ok (.iload 4, 2) := by decide +kernel
theorem dX8_judge_112 : decode cX8_judge 112 = .ok (.invokevirtual 105, 3) := by decide +kernel
theorem dX8_judge_115 : decode cX8_judge 115 = .ok (.iinc 3 1, 3) := by decide +kernel
theorem dX8_judge_118 : decode cX8_judge 118 = .ok (.goto (-75), 3) := by decide +kernel
theorem dX8_judge_121 : decode cX8_judge 121 = .ok (.bipush (-9), 2) := by decide +kernel
theorem dX8_judge_123 : decode cX8_judge 123 = .ok (.ireturn, 1) := by decide +kernel
set_option maxRecDepth 20000 in
theorem ggX8_said_X8_isWithin : GoodIn wsX8_said wsX8_isWithin := goodIn_r _ [6] (by decide +kernel) (by decide +kernel)
set_option maxRecDepth 20000 in
theorem gX8_said_X8_isWithin : GoodIn wsX8_said (va_wsS RX8 59 yX8_isWithin wsX8_isWithin) := goodIn_app (goodIn_of _ (by decide +kernel)) ggX8_said_X8_isWithin
set_option maxRecDepth 20000 in
theorem ggX8_said_X4_lowOf : GoodIn wsX8_said wsX4_lowOf := goodIn_r _ [11, 12, 38, 39, 40, 41, 42, 43] (by decide +kernel) (by decide +kernel)
set_option maxRecDepth 20000 in
theorem gX8_said_X4_lowOf : GoodIn wsX8_said (wsV RX8 219 RX4 yX4_lowOf wsX4_lowOf) := goodIn_app (goodIn_of _ (by decide +kernel)) ggX8_said_X4_lowOf
set_option maxRecDepth 20000 in
theorem ggX8_said_X4_highOf : GoodIn wsX8_said wsX4_highOf := goodIn_r _ [16, 17, 38, 39, 40, 41, 42, 43] (by decide +kernel) (by decide +kernel)
set_option maxRecDepth 20000 in
theorem gX8_said_X4_highOf : GoodIn wsX8_said (wsV RX8 222 RX4 yX4_highOf wsX4_highOf) := goodIn_app (goodIn_of _ (by decide +kernel)) ggX8_said_X4_highOf
set_option maxRecDepth 20000 in
theorem ggX8_said_X7_partsFrom : GoodIn wsX8_said wsX7_partsFrom := goodIn_r _ [22, 4, 5, 6, 23, 24, 25, 21, 26, 27, 44, 45, 46, 47, 48, 49, 50, 51, 52] (by decide +kernel) (by decide +kernel)
set_option maxRecDepth 20000 in
theorem gX8_said_X7_partsFrom : GoodIn wsX8_said (wsV RX8 225 RX7 yX7_partsFrom wsX7_partsFrom) := goodIn_app (goodIn_of _ (by decide +kernel)) ggX8_said_X7_partsFrom
theorem dX8_said_0 : decode cX8_said 0 = .ok (.iload_n 1, 1) := by decide +kernel
theorem dX8_said_1 : decode cX8_said 1 = .ok (.iconst 0, 1) := by decide +kernel
theorem dX8_said_2 : decode cX8_said 2 = .ok (.iconst 1, 1) := by decide +kernel
theorem dX8_said_3 : decode cX8_said 3 = .ok (.invokestatic 59, 3) := by decide +kernel
theorem dX8_said_6 : decode cX8_said 6 = .ok (.ifCond .ne 6, 3) := by decide +kernel
theorem dX8_said_9 : decode cX8_said 9 = .ok (.bipush (-2), 2) := by decide +kernel
theorem dX8_said_11 : decode cX8_said 11 = .ok (.ireturn, 1) := by decide +kernel
theorem dX8_said_12 : decode cX8_said 12 = .ok (.iload_n 1, 1) := by decide +kernel
theorem dX8_said_13 : decode cX8_said 13 = .ok (.aload_n 0, 1) := by decide +kernel
theorem dX8_said_14 : decode cX8_said 14 = .ok (.getfield 26, 3) := by decide +kernel
theorem dX8_said_17 : decode cX8_said 17 = .ok (.getfield 115, 3) := by decide +kernel
theorem dX8_said_20 : decode cX8_said 20 = .ok (.if_icmp .lt 5, 3) := by decide +kernel
theorem dX8_said_23 : decode cX8_said 23 = .ok (.iconst 0, 1) := by decide +kernel
theorem dX8_said_24 : decode cX8_said 24 = .ok (.ireturn, 1) := by decide +kernel
theorem dX8_said_25 : decode cX8_said 25 = .ok (.aload_n 0, 1) := by decide +kernel
theorem dX8_said_26 : decode cX8_said 26 = .ok (.getfield 19, 3) := by decide +kernel
theorem dX8_said_29 : decode cX8_said 29 = .ok (.aload_n 0, 1) := by decide +kernel
theorem dX8_said_30 : decode cX8_said 30 = .ok (.getfield 26, 3) := by decide +kernel
theorem dX8_said_33 : decode cX8_said 33 = .ok (.iload_n 1, 1) := by decide +kernel
theorem dX8_said_34 : decode cX8_said 34 = .ok (.invokevirtual 219, 3) := by decide +kernel
theorem dX8_said_37 : decode cX8_said 37 = .ok (.aload_n 0, 1) := by decide +kernel
theorem dX8_said_38 : decode cX8_said 38 = .ok (.getfield 26, 3) := by decide +kernel
theorem dX8_said_41 : decode cX8_said 41 = .ok (.iload_n 1, 1) := by decide +kernel
theorem dX8_said_42 : decode cX8_said 42 = .ok (.invokevirtual 222, 3) := by decide +kernel
theorem dX8_said_45 : decode cX8_said 45 = .ok (.invokevirtual 225, 3) := by decide +kernel
theorem dX8_said_48 : decode cX8_said 48 = .ok (.istore_n 2, 1) := by decide +kernel
theorem dX8_said_49 : decode cX8_said 49 = .ok (.iload_n 2, 1) := by decide +kernel
theorem dX8_said_50 : decode cX8_said 50 = .ok (.aload_n 0, 1) := by decide +kernel
theorem dX8_said_51 : decode cX8_said 51 = .ok (.getfield 19, 3) := by decide +kernel
theorem dX8_said_54 : decode cX8_said 54 = .ok (.iconst 0, 1) := by decide +kernel
theorem dX8_said_55 : decode cX8_said 55 = .ok (.bipush 9, 2) := by decide +kernel
theorem dX8_said_57 : decode cX8_said 57 = .ok (.invokevirtual 225, 3) := by decide +kernel
theorem dX8_said_60 : decode cX8_said 60 = .ok (.iload_n 2, 1) := by decide +kernel
theorem dX8_said_61 : decode cX8_said 61 = .ok (.isub, 1) := by decide +kernel
theorem dX8_said_62 : decode cX8_said 62 = .ok (.isub, 1) := by decide +kernel
theorem dX8_said_63 : decode cX8_said 63 = .ok (.ireturn, 1) := by decide +kernel
set_option maxRecDepth 20000 in
theorem ggX8_trust_X8_isSaying : GoodIn wsX8_trust wsX8_isSaying := goodIn_r _ [8, 9, 10, 7, 11] (by decide +kernel) (by decide +kernel)
set_option maxRecDepth 20000 in
theorem gX8_trust_X8_isSaying : GoodIn wsX8_trust (va_wsS RX8 112 yX8_isSaying wsX8_isSaying) := goodIn_app (goodIn_of _ (by decide +kernel)) ggX8_trust_X8_isSaying
set_option maxRecDepth 20000 in
theorem ggX8_trust_X7_allParts : GoodIn wsX8_trust wsX7_allParts := goodIn_r _ [16, 17, 18, 19, 15, 20, 10, 7, 11, 21, 22, 23, 24, 25, 72, 73, 74, 75, 76, 77, 78, 79, 80] (by decide +kernel) (by decide +kernel)
set_option maxRecDepth 20000 in
theorem gX8_trust_X7_allParts : GoodIn wsX8_trust (wsV RX8 93 RX7 yX7_allParts wsX7_allParts) := goodIn_app (goodIn_of _ (by decide +kernel)) ggX8_trust_X7_allParts
set_option maxRecDepth 20000 in
theorem ggX8_trust_X4_begin : GoodIn wsX8_trust wsX4_begin := goodIn_r _ [30, 31, 32, 33, 34, 35, 22, 23, 15, 24, 25, 81, 82, 83, 84, 85, 86, 72, 73, 74, 75, 76, 77, 78, 79, 80] (by decide +kernel) (by decide +kernel)
set_option maxRecDepth 20000 in
theorem gX8_trust_X4_begin : GoodIn wsX8_trust (wsV RX8 82 RX4 yX4_begin wsX4_begin) := goodIn_app (goodIn_of _ (by decide +kernel)) ggX8_trust_X4_begin
set_option maxRecDepth 20000 in
theorem ggX8_trust_X4_believe : GoodIn wsX8_trust wsX4_believe := goodIn_r _ [39, 31, 40, 34, 41, 42, 10, 7, 11, 81, 82, 83, 84, 85, 86] (by decide +kernel) (by decide +kernel)
set_option maxRecDepth 20000 in
theorem gX8_trust_X4_believe : GoodIn wsX8_trust (wsV RX8 118 RX4 yX4_believe wsX4_believe) := goodIn_app (goodIn_of _ (by decide +kernel)) ggX8_trust_X4_believe
set_option maxRecDepth 20000 in
theorem ggX8_trust_X4_of : GoodIn wsX8_trust wsX4_of := goodIn_r _ [46, 31, 81, 82, 83, 84, 85, 86] (by decide +kernel) (by decide +kernel)
set_option maxRecDepth 20000 in
theorem gX8_trust_X4_of : GoodIn wsX8_trust (wsV RX8 126 RX4 yX4_of wsX4_of) := goodIn_app (goodIn_of _ (by decide +kernel)) ggX8_trust_X4_of
set_option maxRecDepth 20000 in
theorem ggX8_trust_X4_together : GoodIn wsX8_trust wsX4_together := goodIn_r _ [50, 31, 81, 82, 83, 84, 85, 86] (by decide +kernel) (by decide +kernel)
set_option maxRecDepth 20000 in
theorem gX8_trust_X4_together : GoodIn wsX8_trust (wsV RX8 132 RX4 yX4_together wsX4_together) := goodIn_app (goodIn_of _ (by decide +kernel)) ggX8_trust_X4_together
set_option maxRecDepth 20000 in
theorem ggX8_trust_X3_part : GoodIn wsX8_trust wsX3_part := goodIn_r _ [54, 55, 56, 57, 58, 59, 60, 53, 61] (by decide +kernel) (by decide +kernel)
set_option maxRecDepth 20000 in
theorem gX8_trust_X3_part : GoodIn wsX8_trust (va_wsS RX8 138 yX3_part wsX3_part) := goodIn_app (goodIn_of _ (by decide +kernel)) ggX8_trust_X3_part
theorem dX8_trust_0 : decode cX8_trust 0 = .ok (.iload_n 1, 1) := by decide +kernel
theorem dX8_trust_1 : decode cX8_trust 1 = .ok (.iload_n 2, 1) := by decide +kernel
theorem dX8_trust_2 : decode cX8_trust 2 = .ok (.iload_n 3, 1) := by decide +kernel
theorem dX8_trust_3 : decode cX8_trust 3 = .ok (.invokestatic 112, 3) := by decide +kernel
theorem dX8_trust_6 : decode cX8_trust 6 = .ok (.ifCond .ne 7, 3) := by decide +kernel
theorem dX8_trust_9 : decode cX8_trust 9 = .ok (.ldc2_w 130, 3) := by decide +kernel
theorem dX8_trust_12 : decode cX8_trust 12 = .ok (.lreturn, 1) := by decide +kernel
theorem dX8_trust_13 : decode cX8_trust 13 = .ok (.aload_n 0, 1) := by decide +kernel
theorem dX8_trust_14 : decode cX8_trust 14 = .ok (.getfield 19, 3) := by decide +kernel
theorem dX8_trust_17 : decode cX8_trust 17 = .ok (.invokevirtual 93, 3) := by decide +kernel
theorem dX8_trust_20 : decode cX8_trust 20 = .ok (.ifCond .gt 7, 3) := by decide +kernel
theorem dX8_trust_23 : decode cX8_trust 23 = .ok (.ldc2_w 136, 3) := by decide +kernel
theorem dX8_trust_26 : decode cX8_trust 26 = .ok (.lreturn, 1) := by decide +kernel
theorem dX8_trust_27 : decode cX8_trust 27 = .ok (.aload_n 0, 1) := by decide +kernel
theorem dX8_trust_28 : decode cX8_trust 28 = .ok (.getfield 30, 3) := by decide +kernel
theorem dX8_trust_31 : decode cX8_trust 31 = .ok (.aload_n 0, 1) := by decide +kernel
theorem dX8_trust_32 : decode cX8_trust 32 = .ok (.getfield 19, 3) := by decide +kernel
theorem dX8_trust_35 : decode cX8_trust 35 = .ok (.invokevirtual 82, 3) := by decide +kernel
theorem dX8_trust_38 : decode cX8_trust 38 = .ok (.aload_n 0, 1) := by decide +kernel
theorem dX8_trust_39 : decode cX8_trust 39 = .ok (.getfield 30, 3) := by decide +kernel
theorem dX8_trust_42 : decode cX8_trust 42 = .ok (.iload_n 1, 1) := by decide +kernel
theorem dX8_trust_43 : decode cX8_trust 43 = .ok (.iload_n 2, 1) := by decide +kernel
theorem dX8_trust_44 : decode cX8_trust 44 = .ok (.iload_n 3, 1) := by decide +kernel
theorem dX8_trust_45 : decode cX8_trust 45 = .ok (.invokevirtual 118, 3) := by decide +kernel
theorem dX8_trust_48 : decode cX8_trust 48 = .ok (.lconst 0, 1) := by decide +kernel
theorem dX8_trust_49 : decode cX8_trust 49 = .ok (.lstore 5, 2) := by decide +kernel
theorem dX8_trust_51 : decode cX8_trust 51 = .ok (.iload_n 1, 1) := by decide +kernel
theorem dX8_trust_52 : decode cX8_trust 52 = .ok (.istore 7, 2) := by decide +kernel
theorem dX8_trust_54 : decode cX8_trust 54 = .ok (.iload 7, 2) := by decide +kernel
theorem dX8_trust_56 : decode cX8_trust 56 = .ok (.iload_n 2, 1) := by decide +kernel
theorem dX8_trust_57 : decode cX8_trust 57 = .ok (.if_icmp .gt 23, 3) := by decide +kernel
theorem dX8_trust_60 : decode cX8_trust 60 = .ok (.lload 5, 2) := by decide +kernel
theorem dX8_trust_62 : decode cX8_trust 62 = .ok (.aload_n 0, 1) := by decide +kernel
theorem dX8_trust_63 : decode cX8_trust 63 = .ok (.getfield 30, 3) := by decide +kernel
theorem dX8_trust_66 : decode cX8_trust 66 = .ok (.iload 7, 2) := by decide +kernel
theorem dX8_trust_68 : decode cX8_trust 68 = .ok (.invokevirtual 126, 3) := by decide +kernel
theorem dX8_trust_71 : decode cX8_trust 71 = .ok (.ladd, 1) := by decide +kernel
theorem dX8_trust_72 : decode cX8_trust 72 = .ok (.lstore 5, 2) := by decide +kernel
theorem dX8_trust_74 : decode cX8_trust 74 = .ok (.iinc 7 1, 3) := by decide +kernel
theorem dX8_trust_77 : decode cX8_trust 77 = .ok (.goto (-23), 3) := by decide +kernel
theorem dX8_trust_80 : decode cX8_trust 80 = .ok (.lload 5, 2) := by decide +kernel
theorem dX8_trust_82 : decode cX8_trust 82 = .ok (.aload_n 0, 1) := by decide +kernel
theorem dX8_trust_83 : decode cX8_trust 83 = .ok (.getfield 30, 3) := by decide +kernel
theorem dX8_trust_86 : decode cX8_trust 86 = .ok (.invokevirtual 132, 3) := by decide +kernel
theorem dX8_trust_89 : decode cX8_trust 89 = .ok (.iload 4, 2) := by decide +kernel
theorem dX8_trust_91 : decode cX8_trust 91 = .ok (.invokestatic 138, 3) := by decide +kernel
theorem dX8_trust_94 : decode cX8_trust 94 = .ok (.lreturn, 1) := by decide +kernel
theorem dX8_seed_0 : decode cX8_seed 0 = .ok (.aload_n 0, 1) := by decide +kernel
theorem dX8_seed_1 : decode cX8_seed 1 = .ok (.getfield 55, 3) := by decide +kernel
theorem dX8_seed_4 : decode cX8_seed 4 = .ok (.getfield 228, 3) := by decide +kernel
theorem dX8_seed_7 : decode cX8_seed 7 = .ok (.lstore_n 3, 1) := by decide +kernel
theorem dX8_seed_8 : decode cX8_seed 8 = .ok (.aload_n 0, 1) := by decide +kernel
theorem dX8_seed_9 : decode cX8_seed 9 = .ok (.getfield 55, 3) := by decide +kernel
theorem dX8_seed_12 : decode cX8_seed 12 = .ok (.lload_n 1, 1) := by decide +kernel
theorem dX8_seed_13 : decode cX8_seed 13 = .ok (.putfield 228, 3) := by decide +kernel
theorem dX8_seed_16 : decode cX8_seed 16 = .ok (.lload_n 3, 1) := by decide +kernel
theorem dX8_seed_17 : decode cX8_seed 17 = .ok (.lreturn, 1) := by decide +kernel
set_option maxRecDepth 20000 in
theorem ggX8_trials_X8_isWithin : GoodIn wsX8_trials wsX8_isWithin := goodIn_r _ [5] (by decide +kernel) (by decide +kernel)
set_option maxRecDepth 20000 in
theorem gX8_trials_X8_isWithin : GoodIn wsX8_trials (va_wsS RX8 59 yX8_isWithin wsX8_isWithin) := goodIn_app (goodIn_of _ (by decide +kernel)) ggX8_trials_X8_isWithin
set_option maxRecDepth 20000 in
theorem ggX8_trials_X8_isRow : GoodIn wsX8_trials wsX8_isRow := goodIn_r _ [8, 9, 10, 11, 4, 12, 13, 14, 15] (by decide +kernel) (by decide +kernel)
set_option maxRecDepth 20000 in
theorem gX8_trials_X8_isRow : GoodIn wsX8_trials (va_wsS RX8 144 yX8_isRow wsX8_isRow) := goodIn_app (goodIn_of _ (by decide +kernel)) ggX8_trials_X8_isRow
set_option maxRecDepth 20000 in
theorem ggX8_trials_X7_allParts : GoodIn wsX8_trials wsX7_allParts := goodIn_r _ [20, 21, 22, 23, 19, 24, 3, 4, 5, 25, 26, 27, 28, 29, 79, 80, 81, 82, 83, 84, 85, 86, 87] (by decide +kernel) (by decide +kernel)
set_option maxRecDepth 20000 in
theorem gX8_trials_X7_allParts : GoodIn wsX8_trials (wsV RX8 93 RX7 yX7_allParts wsX7_allParts) := goodIn_app (goodIn_of _ (by decide +kernel)) ggX8_trials_X7_allParts
set_option maxRecDepth 20000 in
theorem ggX8_trials_X8_isFound : GoodIn wsX8_trials wsX8_isFound := goodIn_r _ [33, 1, 34, 16, 17, 18, 19, 20, 21, 22, 23, 24, 3, 4, 5, 25, 26, 27, 28, 29, 35, 36, 37, 38, 39, 40, 41, 42, 43, 44, 45, 46, 13, 14, 15, 9, 10, 11, 12, 47, 48, 49, 50, 51, 52, 53, 54, 55, 56, 57, 58, 59, 60, 61, 62, 63, 64, 65, 66, 67, 68, 69, 70, 71, 72, 73, 74, 75, 76, 77, 78, 79, 80, 81, 82, 83, 84, 85, 86, 87, 88] (by decide +kernel) (by decide +kernel)
set_option maxRecDepth 20000 in
theorem gX8_trials_X8_isFound : GoodIn wsX8_trials (wsV RX8 231 RX8 yX8_isFound wsX8_isFound) := goodIn_app (goodIn_of _ (by decide +kernel)) ggX8_trials_X8_isFound
theorem dX8_trials_0 : decode cX8_trials 0 = .ok (.iload_n 1, 1) := by decide +kernel
theorem dX8_trials_1 : decode cX8_trials 1 = .ok (.iconst 1, 1) := by decide +kernel
theorem dX8_trials_2 : decode cX8_trials 2 = .ok (.bipush 30, 2) := by decide +kernel
theorem dX8_trials_4 : decode cX8_trials 4 = .ok (.invokestatic 59, 3) := by decide +kernel
theorem dX8_trials_7 : decode cX8_trials 7 = .ok (.ifCond .eq 20, 3) := by decide +kernel
theorem dX8_trials_10 : decode cX8_trials 10 = .ok (.iload_n 2, 1) := by decide +kernel
theorem dX8_trials_11 : decode cX8_trials 11 = .ok (.iconst 1, 1) := by decide +kernel
theorem dX8_trials_12 : decode cX8_trials 12 = .ok (.iconst 4, 1) := by decide +kernel
theorem dX8_trials_13 : decode cX8_trials 13 = .ok (.invokestatic 59, 3) := by decide +kernel
theorem dX8_trials_16 : decode cX8_trials 16 = .ok (.ifCond .eq 11, 3) := by decide +kernel
theorem dX8_trials_19 : decode cX8_trials 19 = .ok (.iload_n 2, 1) := by decide +kernel
theorem dX8_trials_20 : decode cX8_trials 20 = .ok (.iload_n 3, 1) := by decide +kernel
theorem dX8_trials_21 : decode cX8_trials 21 = .ok (.invokestatic 144, 3) := by decide +kernel
theorem dX8_trials_24 : decode cX8_trials 24 = .ok (.ifCond .ne 6, 3) := by decide +kernel
theorem dX8_trials_27 : decode cX8_trials 27 = .ok (.bipush (-2), 2) := by decide +kernel
theorem dX8_trials_29 : decode cX8_trials 29 = .ok (.ireturn, 1) := by decide +kernel
theorem dX8_trials_30 : decode cX8_trials 30 = .ok (.aload_n 0, 1) := by decide +kernel
theorem dX8_trials_31 : decode cX8_trials 31 = .ok (.getfield 19, 3) := by decide +kernel
theorem dX8_trials_34 : decode cX8_trials 34 = .ok (.invokevirtual 93, 3) := by decide +kernel
theorem dX8_trials_37 : decode cX8_trials 37 = .ok (.ifCond .gt 5, 3) := by decide +kernel
theorem dX8_trials_40 : decode cX8_trials 40 = .ok (.iconst 0, 1) := by decide +kernel
theorem dX8_trials_41 : decode cX8_trials 41 = .ok (.ireturn, 1) := by decide +kernel
theorem dX8_trials_42 : decode cX8_trials 42 = .ok (.iconst 0, 1) := by decide +kernel
theorem dX8_trials_43 : decode cX8_trials 43 = .ok (.istore 4, 2) := by decide +kernel
theorem dX8_trials_45 : decode cX8_trials 45 = .ok (.iconst 0, 1) := by decide +kernel
theorem dX8_trials_46 : decode cX8_trials 46 = .ok (.istore 5, 2) := by decide +kernel
theorem dX8_trials_48 : decode cX8_trials 48 = .ok (.iload 5, 2) := by decide +kernel
theorem dX8_trials_50 : decode cX8_trials 50 = .ok (.iload_n 1, 1) := by decide +kernel
theorem dX8_trials_51 : decode cX8_trials 51 = .ok (.if_icmp .ge 21, 3) := by decide +kernel
theorem dX8_trials_54 : decode cX8_trials 54 = .ok (.aload_n 0, 1) := by decide +kernel
theorem dX8_trials_55 : decode cX8_trials 55 = .ok (.iload_n 2, 1) := by decide +kernel
theorem dX8_trials_56 : decode cX8_trials 56 = .ok (.iload_n 3, 1) := by decide +kernel
theorem dX8_trials_57 : decode cX8_trials 57 = .ok (.invokevirtual 231, 3) := by decide +kernel
theorem dX8_trials_60 : decode cX8_trials 60 = .ok (.ifCond .eq 6, 3) := by decide +kernel
theorem dX8_trials_63 : decode cX8_trials 63 = .ok (.iinc 4 1, 3) := by decide +kernel
theorem dX8_trials_66 : decode cX8_trials 66 = .ok (.iinc 5 1, 3) := by decide +kernel
theorem dX8_trials_69 : decode cX8_trials 69 = .ok (.goto (-21), 3) := by decide +kernel
theorem dX8_trials_72 : decode cX8_trials 72 = .ok (.iload 4, 2) := by decide +kernel
theorem dX8_trials_74 : decode cX8_trials 74 = .ok (.ireturn, 1) := by decide +kernel
set_option maxRecDepth 20000 in
theorem ggX8_keep_X8_isWithin : GoodIn wsX8_keep wsX8_isWithin := goodIn_r _ [7] (by decide +kernel) (by decide +kernel)
set_option maxRecDepth 20000 in
theorem gX8_keep_X8_isWithin : GoodIn wsX8_keep (va_wsS RX8 59 yX8_isWithin wsX8_isWithin) := goodIn_app (goodIn_of _ (by decide +kernel)) ggX8_keep_X8_isWithin
set_option maxRecDepth 20000 in
theorem ggX8_keep_X5_put : GoodIn wsX8_keep wsX5_put := goodIn_r _ [12, 13, 14, 15, 11, 16, 17, 18, 19, 20, 21, 22, 23, 24, 25, 26, 27, 28, 29, 30, 31, 32, 33, 34, 35, 36, 37, 38, 39, 40, 57, 51, 52, 53, 54, 55, 56] (by decide +kernel) (by decide +kernel)
set_option maxRecDepth 20000 in
theorem gX8_keep_X5_put : GoodIn wsX8_keep (wsV RX8 234 RX5 yX5_put wsX5_put) := goodIn_app (goodIn_of _ (by decide +kernel)) ggX8_keep_X5_put
theorem dX8_keep_0 : decode cX8_keep 0 = .ok (.iload_n 1, 1) := by decide +kernel
theorem dX8_keep_1 : decode cX8_keep 1 = .ok (.iconst 0, 1) := by decide +kernel
theorem dX8_keep_2 : decode cX8_keep 2 = .ok (.iconst 1, 1) := by decide +kernel
theorem dX8_keep_3 : decode cX8_keep 3 = .ok (.invokestatic 59, 3) := by decide +kernel
theorem dX8_keep_6 : decode cX8_keep 6 = .ok (.ifCond .ne 5, 3) := by decide +kernel
theorem dX8_keep_9 : decode cX8_keep 9 = .ok (.iconst (-1), 1) := by decide +kernel
theorem dX8_keep_10 : decode cX8_keep 10 = .ok (.ireturn, 1) := by decide +kernel
theorem dX8_keep_11 : decode cX8_keep 11 = .ok (.aload_n 0, 1) := by decide +kernel
theorem dX8_keep_12 : decode cX8_keep 12 = .ok (.getfield 42, 3) := by decide +kernel
theorem dX8_keep_15 : decode cX8_keep 15 = .ok (.iload_n 1, 1) := by decide +kernel
theorem dX8_keep_16 : decode cX8_keep 16 = .ok (.aload_n 0, 1) := by decide +kernel
theorem dX8_keep_17 : decode cX8_keep 17 = .ok (.getfield 26, 3) := by decide +kernel
theorem dX8_keep_20 : decode cX8_keep 20 = .ok (.invokevirtual 234, 3) := by decide +kernel
theorem dX8_keep_23 : decode cX8_keep 23 = .ok (.aload_n 0, 1) := by decide +kernel
theorem dX8_keep_24 : decode cX8_keep 24 = .ok (.dup, 1) := by decide +kernel
theorem dX8_keep_25 : decode cX8_keep 25 = .ok (.getfield 90, 3) := by decide +kernel
theorem dX8_keep_28 : decode cX8_keep 28 = .ok (.iconst 1, 1) := by decide +kernel
theorem dX8_keep_29 : decode cX8_keep 29 = .ok (.iload_n 1, 1) := by decide +kernel
theorem dX8_keep_30 : decode cX8_keep 30 = .ok (.ishl, 1) := by decide +kernel
theorem dX8_keep_31 : decode cX8_keep 31 = .ok (.ior, 1) := by decide +kernel
theorem dX8_keep_32 : decode cX8_keep 32 = .ok (.putfield 90, 3) := by decide +kernel
theorem dX8_keep_35 : decode cX8_keep 35 = .ok (.aload_n 0, 1) := by decide +kernel
theorem dX8_keep_36 : decode cX8_keep 36 = .ok (.getfield 26, 3) := by decide +kernel
theorem dX8_keep_39 : decode cX8_keep 39 = .ok (.getfield 96, 3) := by decide +kernel
theorem dX8_keep_42 : decode cX8_keep 42 = .ok (.ireturn, 1) := by decide +kernel
set_option maxRecDepth 20000 in
theorem ggX8_again_X8_isWithin : GoodIn wsX8_again wsX8_isWithin := goodIn_r _ [8] (by decide +kernel) (by decide +kernel)
set_option maxRecDepth 20000 in
theorem gX8_again_X8_isWithin : GoodIn wsX8_again (va_wsS RX8 59 yX8_isWithin wsX8_isWithin) := goodIn_app (goodIn_of _ (by decide +kernel)) ggX8_again_X8_isWithin
set_option maxRecDepth 20000 in
theorem ggX8_again_X5_give : GoodIn wsX8_again wsX5_give := goodIn_r _ [13, 14, 15, 16, 12, 17, 18, 19, 20, 21, 22, 23, 24, 25, 26, 27, 28, 29, 30, 31, 32, 33, 34, 35, 36, 37, 38, 39, 40, 41, 58, 52, 53, 54, 55, 56, 57] (by decide +kernel) (by decide +kernel)
set_option maxRecDepth 20000 in
theorem gX8_again_X5_give : GoodIn wsX8_again (wsV RX8 122 RX5 yX5_give wsX5_give) := goodIn_app (goodIn_of _ (by decide +kernel)) ggX8_again_X5_give
theorem dX8_again_0 : decode cX8_again 0 = .ok (.iload_n 1, 1) := by decide +kernel
theorem dX8_again_1 : decode cX8_again 1 = .ok (.iconst 0, 1) := by decide +kernel
theorem dX8_again_2 : decode cX8_again 2 = .ok (.iconst 1, 1) := by decide +kernel
theorem dX8_again_3 : decode cX8_again 3 = .ok (.invokestatic 59, 3) := by decide +kernel
theorem dX8_again_6 : decode cX8_again 6 = .ok (.ifCond .ne 5, 3) := by decide +kernel
theorem dX8_again_9 : decode cX8_again 9 = .ok (.iconst (-1), 1) := by decide +kernel
theorem dX8_again_10 : decode cX8_again 10 = .ok (.ireturn, 1) := by decide +kernel
theorem dX8_again_11 : decode cX8_again 11 = .ok (.aload_n 0, 1) := by decide +kernel
theorem dX8_again_12 : decode cX8_again 12 = .ok (.getfield 90, 3) := by decide +kernel
theorem dX8_again_15 : decode cX8_again 15 = .ok (.iload_n 1, 1) := by decide +kernel
theorem dX8_again_16 : decode cX8_again 16 = .ok (.ishr, 1) := by decide +kernel
theorem dX8_again_17 : decode cX8_again 17 = .ok (.iconst 1, 1) := by decide +kernel
theorem dX8_again_18 : decode cX8_again 18 = .ok (.iand, 1) := by decide +kernel
theorem dX8_again_19 : decode cX8_again 19 = .ok (.ifCond .ne 6, 3) := by decide +kernel
theorem dX8_again_22 : decode cX8_again 22 = .ok (.bipush (-3), 2) := by decide +kernel
theorem dX8_again_24 : decode cX8_again 24 = .ok (.ireturn, 1) := by decide +kernel
theorem dX8_again_25 : decode cX8_again 25 = .ok (.aload_n 0, 1) := by decide +kernel
theorem dX8_again_26 : decode cX8_again 26 = .ok (.getfield 42, 3) := by decide +kernel
theorem dX8_again_29 : decode cX8_again 29 = .ok (.iload_n 1, 1) := by decide +kernel
theorem dX8_again_30 : decode cX8_again 30 = .ok (.aload_n 0, 1) := by decide +kernel
theorem dX8_again_31 : decode cX8_again 31 = .ok (.getfield 26, 3) := by decide +kernel
theorem dX8_again_34 : decode cX8_again 34 = .ok (.invokevirtual 122, 3) := by decide +kernel
theorem dX8_again_37 : decode cX8_again 37 = .ok (.aload_n 0, 1) := by decide +kernel
theorem dX8_again_38 : decode cX8_again 38 = .ok (.iconst 0, 1) := by decide +kernel
theorem dX8_again_39 : decode cX8_again 39 = .ok (.putfield 86, 3) := by decide +kernel
theorem dX8_again_42 : decode cX8_again 42 = .ok (.aload_n 0, 1) := by decide +kernel
theorem dX8_again_43 : decode cX8_again 43 = .ok (.getfield 26, 3) := by decide +kernel
theorem dX8_again_46 : decode cX8_again 46 = .ok (.getfield 96, 3) := by decide +kernel
theorem dX8_again_49 : decode cX8_again 49 = .ok (.ireturn, 1) := by decide +kernel
set_option maxRecDepth 20000 in
theorem ggX8_count_X6_size : GoodIn wsX8_count wsX6_size := goodIn_r _ [9, 10, 46, 47, 48, 49, 50, 51] (by decide +kernel) (by decide +kernel)
set_option maxRecDepth 20000 in
theorem gX8_count_X6_size : GoodIn wsX8_count (wsV RX8 237 RX6 yX6_size wsX6_size) := goodIn_app (goodIn_of _ (by decide +kernel)) ggX8_count_X6_size
set_option maxRecDepth 20000 in
theorem ggX8_count_X4_cellBits : GoodIn wsX8_count wsX4_cellBits := goodIn_r _ [15, 16, 17, 18, 14, 19, 20, 40, 41, 42, 43, 44, 45] (by decide +kernel) (by decide +kernel)
set_option maxRecDepth 20000 in
theorem gX8_count_X4_cellBits : GoodIn wsX8_count (wsV RX8 252 RX4 yX4_cellBits wsX4_cellBits) := goodIn_app (goodIn_of _ (by decide +kernel)) ggX8_count_X4_cellBits
theorem dX8_count_0 : decode cX8_count 0 = .ok (.iload_n 1, 1) := by decide +kernel
theorem dX8_count_1 : decode cX8_count 1 = .ok (.tableswitch 156 0 11 #[63, 71, 79, 87, 95, 103, 111, 119, 127, 135, 140, 148], 63) := by decide +kernel
theorem dX8_count_64 : decode cX8_count 64 = .ok (.aload_n 0, 1) := by decide +kernel
theorem dX8_count_65 : decode cX8_count 65 = .ok (.getfield 10, 3) := by decide +kernel
theorem dX8_count_68 : decode cX8_count 68 = .ok (.invokevirtual 237, 3) := by decide +kernel
theorem dX8_count_71 : decode cX8_count 71 = .ok (.ireturn, 1) := by decide +kernel
theorem dX8_count_72 : decode cX8_count 72 = .ok (.aload_n 0, 1) := by decide +kernel
theorem dX8_count_73 : decode cX8_count 73 = .ok (.getfield 19, 3) := by decide +kernel
theorem dX8_count_76 : decode cX8_count 76 = .ok (.getfield 240, 3) := by decide +kernel
theorem dX8_count_79 : decode cX8_count 79 = .ok (.ireturn, 1) := by decide +kernel
theorem dX8_count_80 : decode cX8_count 80 = .ok (.aload_n 0, 1) := by decide +kernel
theorem dX8_count_81 : decode cX8_count 81 = .ok (.getfield 19, 3) := by decide +kernel
theorem dX8_count_84 : decode cX8_count 84 = .ok (.getfield 243, 3) := by decide +kernel
theorem dX8_count_87 : decode cX8_count 87 = .ok (.ireturn, 1) := by decide +kernel
theorem dX8_count_88 : decode cX8_count 88 = .ok (.aload_n 0, 1) := by decide +kernel
theorem dX8_count_89 : decode cX8_count 89 = .ok (.getfield 19, 3) := by decide +kernel
theorem dX8_count_92 : decode cX8_count 92 = .ok (.getfield 246, 3) := by decide +kernel
theorem dX8_count_95 : decode cX8_count 95 = .ok (.ireturn, 1) := by decide +kernel
theorem dX8_count_96 : decode cX8_count 96 = .ok (.aload_n 0, 1) := by decide +kernel
theorem dX8_count_97 : decode cX8_count 97 = .ok (.getfield 19, 3) := by decide +kernel
theorem dX8_count_100 : decode cX8_count 100 = .ok (.getfield 249, 3) := by decide +kernel
theorem dX8_count_103 : decode cX8_count 103 = .ok (.ireturn, 1) := by decide +kernel
theorem dX8_count_104 : decode cX8_count 104 = .ok (.aload_n 0, 1) := by decide +kernel
theorem dX8_count_105 : decode cX8_count 105 = .ok (.getfield 19, 3) := by decide +kernel
theorem dX8_count_108 : decode cX8_count 108 = .ok (.getfield 99, 3) := by decide +kernel
theorem dX8_count_111 : decode cX8_count 111 = .ok (.ireturn, 1) := by decide +kernel
theorem dX8_count_112 : decode cX8_count 112 = .ok (.aload_n 0, 1) := by decide +kernel
theorem dX8_count_113 : decode cX8_count 113 = .ok (.getfield 26, 3) := by decide +kernel
theorem dX8_count_116 : decode cX8_count 116 = .ok (.getfield 109, 3) := by decide +kernel
theorem dX8_count_119 : decode cX8_count 119 = .ok (.ireturn, 1) := by decide +kernel
theorem dX8_count_120 : decode cX8_count 120 = .ok (.aload_n 0, 1) := by decide +kernel
theorem dX8_count_121 : decode cX8_count 121 = .ok (.getfield 26, 3) := by decide +kernel
theorem dX8_count_124 : decode cX8_count 124 = .ok (.getfield 96, 3) := by decide +kernel
theorem dX8_count_127 : decode cX8_count 127 = .ok (.ireturn, 1) := by decide +kernel
theorem dX8_count_128 : decode cX8_count 128 = .ok (.aload_n 0, 1) := by decide +kernel
theorem dX8_count_129 : decode cX8_count 129 = .ok (.getfield 26, 3) := by decide +kernel
theorem dX8_count_132 : decode cX8_count 132 = .ok (.getfield 115, 3) := by decide +kernel
theorem dX8_count_135 : decode cX8_count 135 = .ok (.ireturn, 1) := by decide +kernel
theorem dX8_count_136 : decode cX8_count 136 = .ok (.aload_n 0, 1) := by decide +kernel
theorem dX8_count_137 : decode cX8_count 137 = .ok (.getfield 86, 3) := by decide +kernel
theorem dX8_count_140 : decode cX8_count 140 = .ok (.ireturn, 1) := by decide +kernel
theorem dX8_count_141 : decode cX8_count 141 = .ok (.aload_n 0, 1) := by decide +kernel
theorem dX8_count_142 : decode cX8_count 142 = .ok (.getfield 26, 3) := by decide +kernel
theorem dX8_count_145 : decode cX8_count 145 = .ok (.invokevirtual 252, 3) := by decide +kernel
theorem dX8_count_148 : decode cX8_count 148 = .ok (.ireturn, 1) := by decide +kernel
theorem dX8_count_149 : decode cX8_count 149 = .ok (.aload_n 0, 1) := by decide +kernel
theorem dX8_count_150 : decode cX8_count 150 = .ok (.getfield 19, 3) := by decide +kernel
theorem dX8_count_153 : decode cX8_count 153 = .ok (.getfield 188, 3) := by decide +kernel
theorem dX8_count_156 : decode cX8_count 156 = .ok (.ireturn, 1) := by decide +kernel
theorem dX8_count_157 : decode cX8_count 157 = .ok (.bipush (-2), 2) := by decide +kernel
theorem dX8_count_159 : decode cX8_count 159 = .ok (.ireturn, 1) := by decide +kernel
set_option maxRecDepth 20000 in
theorem ggX8_remember_X5_put : GoodIn wsX8_remember wsX5_put := goodIn_r _ [8, 9, 10, 11, 7, 12, 13, 14, 15, 16, 17, 18, 19, 20, 21, 22, 23, 24, 25, 26, 27, 28, 29, 30, 31, 32, 33, 34, 35, 36, 47, 48, 49, 50, 51, 52, 53] (by decide +kernel) (by decide +kernel)
set_option maxRecDepth 20000 in
theorem gX8_remember_X5_put : GoodIn wsX8_remember (wsV RX8 234 RX5 yX5_put wsX5_put) := goodIn_app (goodIn_of _ (by decide +kernel)) ggX8_remember_X5_put
theorem dX8_remember_0 : decode cX8_remember 0 = .ok (.aload_n 0, 1) := by decide +kernel
theorem dX8_remember_1 : decode cX8_remember 1 = .ok (.getfield 38, 3) := by decide +kernel
theorem dX8_remember_4 : decode cX8_remember 4 = .ok (.aload_n 0, 1) := by decide +kernel
theorem dX8_remember_5 : decode cX8_remember 5 = .ok (.getfield 86, 3) := by decide +kernel
theorem dX8_remember_8 : decode cX8_remember 8 = .ok (.aload_n 0, 1) := by decide +kernel
theorem dX8_remember_9 : decode cX8_remember 9 = .ok (.getfield 26, 3) := by decide +kernel
theorem dX8_remember_12 : decode cX8_remember 12 = .ok (.invokevirtual 234, 3) := by decide +kernel
theorem dX8_remember_15 : decode cX8_remember 15 = .ok (.aload_n 0, 1) := by decide +kernel
theorem dX8_remember_16 : decode cX8_remember 16 = .ok (.dup, 1) := by decide +kernel
theorem dX8_remember_17 : decode cX8_remember 17 = .ok (.getfield 86, 3) := by decide +kernel
theorem dX8_remember_20 : decode cX8_remember 20 = .ok (.iconst 1, 1) := by decide +kernel
theorem dX8_remember_21 : decode cX8_remember 21 = .ok (.iadd, 1) := by decide +kernel
theorem dX8_remember_22 : decode cX8_remember 22 = .ok (.putfield 86, 3) := by decide +kernel
theorem dX8_remember_25 : decode cX8_remember 25 = .ok (.return_, 1) := by decide +kernel
set_option maxRecDepth 20000 in
theorem ggX8_isLeft_X4_together : GoodIn wsX8_isLeft wsX4_together := goodIn_r _ [7, 8, 19, 20, 21, 22, 23, 24] (by decide +kernel) (by decide +kernel)
set_option maxRecDepth 20000 in
theorem gX8_isLeft_X4_together : GoodIn wsX8_isLeft (wsV RX8 132 RX4 yX4_together wsX4_together) := goodIn_app (goodIn_of _ (by decide +kernel)) ggX8_isLeft_X4_together
theorem dX8_isLeft_0 : decode cX8_isLeft 0 = .ok (.aload_n 0, 1) := by decide +kernel
theorem dX8_isLeft_1 : decode cX8_isLeft 1 = .ok (.getfield 26, 3) := by decide +kernel
theorem dX8_isLeft_4 : decode cX8_isLeft 4 = .ok (.invokevirtual 132, 3) := by decide +kernel
theorem dX8_isLeft_7 : decode cX8_isLeft 7 = .ok (.lconst 0, 1) := by decide +kernel
theorem dX8_isLeft_8 : decode cX8_isLeft 8 = .ok (.lcmp, 1) := by decide +kernel
theorem dX8_isLeft_9 : decode cX8_isLeft 9 = .ok (.ifCond .le 26, 3) := by decide +kernel
theorem dX8_isLeft_12 : decode cX8_isLeft 12 = .ok (.aload_n 0, 1) := by decide +kernel
theorem dX8_isLeft_13 : decode cX8_isLeft 13 = .ok (.getfield 26, 3) := by decide +kernel
theorem dX8_isLeft_16 : decode cX8_isLeft 16 = .ok (.getfield 96, 3) := by decide +kernel
theorem dX8_isLeft_19 : decode cX8_isLeft 19 = .ok (.iload_n 1, 1) := by decide +kernel
theorem dX8_isLeft_20 : decode cX8_isLeft 20 = .ok (.iadd, 1) := by decide +kernel
theorem dX8_isLeft_21 : decode cX8_isLeft 21 = .ok (.aload_n 0, 1) := by decide +kernel
theorem dX8_isLeft_22 : decode cX8_isLeft 22 = .ok (.getfield 19, 3) := by decide +kernel
theorem dX8_isLeft_25 : decode cX8_isLeft 25 = .ok (.getfield 99, 3) := by decide +kernel
theorem dX8_isLeft_28 : decode cX8_isLeft 28 = .ok (.if_icmp .gt 7, 3) := by decide +kernel
theorem dX8_isLeft_31 : decode cX8_isLeft 31 = .ok (.iconst 1, 1) := by decide +kernel
theorem dX8_isLeft_32 : decode cX8_isLeft 32 = .ok (.goto 4, 3) := by decide +kernel
theorem dX8_isLeft_35 : decode cX8_isLeft 35 = .ok (.iconst 0, 1) := by decide +kernel
theorem dX8_isLeft_36 : decode cX8_isLeft 36 = .ok (.ireturn, 1) := by decide +kernel
set_option maxRecDepth 20000 in
theorem ggX8_foundBy_X4_copy : GoodIn wsX8_foundBy wsX4_copy := goodIn_r _ [10, 11, 12, 13, 14, 15, 16, 17, 18, 19, 9, 20, 21, 22, 23, 24, 25, 26, 27, 28, 87, 88, 89, 90, 91, 92] (by decide +kernel) (by decide +kernel)
set_option maxRecDepth 20000 in
theorem gX8_foundBy_X4_copy : GoodIn wsX8_foundBy (wsV RX8 208 RX4 yX4_copy wsX4_copy) := goodIn_app (goodIn_of _ (by decide +kernel)) ggX8_foundBy_X4_copy
set_option maxRecDepth 20000 in
theorem ggX8_foundBy_X8_figureOf : GoodIn wsX8_foundBy wsX8_figureOf := goodIn_r _ [32, 5, 33, 34, 31, 35] (by decide +kernel) (by decide +kernel)
set_option maxRecDepth 20000 in
theorem gX8_foundBy_X8_figureOf : GoodIn wsX8_foundBy (va_wsS RX8 212 yX8_figureOf wsX8_figureOf) := goodIn_app (goodIn_of _ (by decide +kernel)) ggX8_foundBy_X8_figureOf
set_option maxRecDepth 20000 in
theorem ggX8_foundBy_X4_foundNow : GoodIn wsX8_foundBy wsX4_foundNow := goodIn_r _ [39, 40, 41, 42, 9, 43, 14, 44, 31, 45, 46, 47, 48, 49, 50, 51, 52, 17, 18, 19, 20, 11, 53, 54, 55, 56, 57, 58, 59, 87, 88, 89, 90, 91, 92, 93, 94, 95, 96, 97, 98, 99, 100, 101] (by decide +kernel) (by decide +kernel)
set_option maxRecDepth 20000 in
theorem gX8_foundBy_X4_foundNow : GoodIn wsX8_foundBy (wsV RX8 255 RX4 yX4_foundNow wsX4_foundNow) := goodIn_app (goodIn_of _ (by decide +kernel)) ggX8_foundBy_X4_foundNow
set_option maxRecDepth 20000 in
theorem ggX8_foundBy_X4_act : GoodIn wsX8_foundBy wsX4_act := goodIn_r _ [63, 64, 65, 66, 9, 67, 14, 40, 41, 42, 43, 44, 31, 45, 46, 47, 48, 49, 50, 51, 52, 53, 54, 55, 56, 57, 58, 59, 68, 69, 70, 71, 11, 72, 73, 74, 75, 76, 15, 17, 18, 19, 20, 87, 88, 89, 90, 91, 92, 93, 94, 95, 96, 97, 98, 99, 100, 101] (by decide +kernel) (by decide +kernel)
set_option maxRecDepth 20000 in
theorem gX8_foundBy_X4_act : GoodIn wsX8_foundBy (wsV RX8 105 RX4 yX4_act wsX4_act) := goodIn_app (goodIn_of _ (by decide +kernel)) ggX8_foundBy_X4_act
theorem dX8_foundBy_0 : decode cX8_foundBy 0 = .ok (.lconst 0, 1) := by decide +kernel
theorem dX8_foundBy_1 : decode cX8_foundBy 1 = .ok (.lstore_n 3, 1) := by decide +kernel
theorem dX8_foundBy_2 : decode cX8_foundBy 2 = .ok (.aload_n 0, 1) := by decide +kernel
theorem dX8_foundBy_3 : decode cX8_foundBy 3 = .ok (.getfield 30, 3) := by decide +kernel
theorem dX8_foundBy_6 : decode cX8_foundBy 6 = .ok (.aload_n 0, 1) := by decide +kernel
theorem dX8_foundBy_7 : decode cX8_foundBy 7 = .ok (.getfield 26, 3) := by decide +kernel
theorem dX8_foundBy_10 : decode cX8_foundBy 10 = .ok (.invokevirtual 208, 3) := by decide +kernel
theorem dX8_foundBy_13 : decode cX8_foundBy 13 = .ok (.iconst 0, 1) := by decide +kernel
theorem dX8_foundBy_14 : decode cX8_foundBy 14 = .ok (.istore 5, 2) := by decide +kernel
theorem dX8_foundBy_16 : decode cX8_foundBy 16 = .ok (.iload 5, 2) := by decide +kernel
theorem dX8_foundBy_18 : decode cX8_foundBy 18 = .ok (.iload_n 1, 1) := by decide +kernel
theorem dX8_foundBy_19 : decode cX8_foundBy 19 = .ok (.if_icmp .ge 55, 3) := by decide +kernel
theorem dX8_foundBy_22 : decode cX8_foundBy 22 = .ok (.iload_n 1, 1) := by decide +kernel
theorem dX8_foundBy_23 : decode cX8_foundBy 23 = .ok (.iload_n 2, 1) := by decide +kernel
theorem dX8_foundBy_24 : decode cX8_foundBy 24 = .ok (.iload 5, 2) := by decide +kernel
theorem dX8_foundBy_26 : decode cX8_foundBy 26 = .ok (.invokestatic 212, 3) := by decide +kernel
theorem dX8_foundBy_29 : decode cX8_foundBy 29 = .ok (.istore 6, 2) := by decide +kernel
theorem dX8_foundBy_31 : decode cX8_foundBy 31 = .ok (.lload_n 3, 1) := by decide +kernel
theorem dX8_foundBy_32 : decode cX8_foundBy 32 = .ok (.ldc2_w 156, 3) := by decide +kernel
theorem dX8_foundBy_35 : decode cX8_foundBy 35 = .ok (.lmul, 1) := by decide +kernel
theorem dX8_foundBy_36 : decode cX8_foundBy 36 = .ok (.aload_n 0, 1) := by decide +kernel
theorem dX8_foundBy_37 : decode cX8_foundBy 37 = .ok (.getfield 30, 3) := by decide +kernel
theorem dX8_foundBy_40 : decode cX8_foundBy 40 = .ok (.aload_n 0, 1) := by decide +kernel
theorem dX8_foundBy_41 : decode cX8_foundBy 41 = .ok (.getfield 19, 3) := by decide +kernel
theorem dX8_foundBy_44 : decode cX8_foundBy 44 = .ok (.iload 6, 2) := by decide +kernel
theorem dX8_foundBy_46 : decode cX8_foundBy 46 = .ok (.invokevirtual 255, 3) := by decide +kernel
theorem dX8_foundBy_49 : decode cX8_foundBy 49 = .ok (.ldc2_w 179, 3) := by decide +kernel
theorem dX8_foundBy_52 : decode cX8_foundBy 52 = .ok (.lmul, 1) := by decide +kernel
theorem dX8_foundBy_53 : decode cX8_foundBy 53 = .ok (.ladd, 1) := by decide +kernel
theorem dX8_foundBy_54 : decode cX8_foundBy 54 = .ok (.lstore_n 3, 1) := by decide +kernel
theorem dX8_foundBy_55 : decode cX8_foundBy 55 = .ok (.aload_n 0, 1) := by decide +kernel
theorem dX8_foundBy_56 : decode cX8_foundBy 56 = .ok (.getfield 30, 3) := by decide +kernel
theorem dX8_foundBy_59 : decode cX8_foundBy 59 = .ok (.aload_n 0, 1) := by decide +kernel
theorem dX8_foundBy_60 : decode cX8_foundBy 60 = .ok (.getfield 19, 3) := by decide +kernel
theorem dX8_foundBy_63 : decode cX8_foundBy 63 = .ok (.iload 6, 2) := by decide +kernel
theorem dX8_foundBy_65 : decode cX8_foundBy 65 = .ok (.invokevirtual 105, 3) := by decide +kernel
theorem dX8_foundBy_68 : decode cX8_foundBy 68 = .ok (.iinc 5 1, 3) := by decide +kernel
theorem dX8_foundBy_71 : decode cX8_foundBy 71 = .ok (.goto (-55), 3) := by decide +kernel
theorem dX8_foundBy_74 : decode cX8_foundBy 74 = .ok (.lload_n 3, 1) := by decide +kernel
theorem dX8_foundBy_75 : decode cX8_foundBy 75 = .ok (.lreturn, 1) := by decide +kernel
set_option maxRecDepth 20000 in
theorem ggX8_isFound_X7_allParts : GoodIn wsX8_isFound wsX7_allParts := goodIn_r _ [7, 8, 9, 10, 6, 11, 12, 13, 14, 15, 16, 17, 18, 19, 71, 72, 73, 74, 75, 76, 77, 78, 79] (by decide +kernel) (by decide +kernel)
set_option maxRecDepth 20000 in
theorem gX8_isFound_X7_allParts : GoodIn wsX8_isFound (wsV RX8 93 RX7 yX7_allParts wsX7_allParts) := goodIn_app (goodIn_of _ (by decide +kernel)) ggX8_isFound_X7_allParts
set_option maxRecDepth 20000 in
theorem ggX8_isFound_X2_below : GoodIn wsX8_isFound wsX2_below := goodIn_r _ [24, 25, 26, 27, 80] (by decide +kernel) (by decide +kernel)
set_option maxRecDepth 20000 in
theorem gX8_isFound_X2_below : GoodIn wsX8_isFound (wsV RX8 259 RX2 yX2_below wsX2_below) := goodIn_app (goodIn_of _ (by decide +kernel)) ggX8_isFound_X2_below
set_option maxRecDepth 20000 in
theorem ggX8_isFound_X7_placeOfPart : GoodIn wsX8_isFound wsX7_placeOfPart := goodIn_r _ [31, 15, 16, 17, 6, 18, 19, 71, 72, 73, 74, 75, 76, 77, 78, 79] (by decide +kernel) (by decide +kernel)
set_option maxRecDepth 20000 in
theorem gX8_isFound_X7_placeOfPart : GoodIn wsX8_isFound (wsV RX8 262 RX7 yX7_placeOfPart wsX7_placeOfPart) := goodIn_app (goodIn_of _ (by decide +kernel)) ggX8_isFound_X7_placeOfPart
set_option maxRecDepth 20000 in
theorem ggX8_isFound_X8_figureOf : GoodIn wsX8_isFound wsX8_figureOf := goodIn_r _ [34, 35, 36, 37, 13, 38] (by decide +kernel) (by decide +kernel)
set_option maxRecDepth 20000 in
theorem gX8_isFound_X8_figureOf : GoodIn wsX8_isFound (va_wsS RX8 212 yX8_figureOf wsX8_figureOf) := goodIn_app (goodIn_of _ (by decide +kernel)) ggX8_isFound_X8_figureOf
set_option maxRecDepth 20000 in
theorem ggX8_isFound_X8_moved : GoodIn wsX8_isFound wsX8_moved := goodIn_r _ [41, 42, 43, 44, 45, 46, 47, 48] (by decide +kernel) (by decide +kernel)
set_option maxRecDepth 20000 in
theorem gX8_isFound_X8_moved : GoodIn wsX8_isFound (va_wsS RX8 267 yX8_moved wsX8_moved) := goodIn_app (goodIn_of _ (by decide +kernel)) ggX8_isFound_X8_moved
set_option maxRecDepth 20000 in
theorem ggX8_isFound_X7_chanceAt : GoodIn wsX8_isFound wsX7_chanceAt := goodIn_r _ [52, 53, 54, 71, 72, 73, 74, 75, 76, 77, 78, 79] (by decide +kernel) (by decide +kernel)
set_option maxRecDepth 20000 in
theorem gX8_isFound_X7_chanceAt : GoodIn wsX8_isFound (wsV RX8 270 RX7 yX7_chanceAt wsX7_chanceAt) := goodIn_app (goodIn_of _ (by decide +kernel)) ggX8_isFound_X7_chanceAt
set_option maxRecDepth 20000 in
theorem ggX8_isFound_X7_drifted : GoodIn wsX8_isFound wsX7_drifted := goodIn_r _ [58, 59, 60, 40, 13, 41, 42, 43, 44, 45, 46, 47, 48, 71, 72, 73, 74, 75, 76, 77, 78, 79] (by decide +kernel) (by decide +kernel)
set_option maxRecDepth 20000 in
theorem gX8_isFound_X7_drifted : GoodIn wsX8_isFound (wsV RX8 273 RX7 yX7_drifted wsX7_drifted) := goodIn_app (goodIn_of _ (by decide +kernel)) ggX8_isFound_X7_drifted
theorem dX8_isFound_0 : decode cX8_isFound 0 = .ok (.aload_n 0, 1) := by decide +kernel
theorem dX8_isFound_1 : decode cX8_isFound 1 = .ok (.getfield 19, 3) := by decide +kernel
theorem dX8_isFound_4 : decode cX8_isFound 4 = .ok (.aload_n 0, 1) := by decide +kernel
theorem dX8_isFound_5 : decode cX8_isFound 5 = .ok (.getfield 55, 3) := by decide +kernel
theorem dX8_isFound_8 : decode cX8_isFound 8 = .ok (.aload_n 0, 1) := by decide +kernel
theorem dX8_isFound_9 : decode cX8_isFound 9 = .ok (.getfield 19, 3) := by decide +kernel
theorem dX8_isFound_12 : decode cX8_isFound 12 = .ok (.invokevirtual 93, 3) := by decide +kernel
theorem dX8_isFound_15 : decode cX8_isFound 15 = .ok (.invokevirtual 259, 3) := by decide +kernel
theorem dX8_isFound_18 : decode cX8_isFound 18 = .ok (.invokevirtual 262, 3) := by decide +kernel
theorem dX8_isFound_21 : decode cX8_isFound 21 = .ok (.istore_n 3, 1) := by decide +kernel
theorem dX8_isFound_22 : decode cX8_isFound 22 = .ok (.aload_n 0, 1) := by decide +kernel
theorem dX8_isFound_23 : decode cX8_isFound 23 = .ok (.getfield 19, 3) := by decide +kernel
theorem dX8_isFound_26 : decode cX8_isFound 26 = .ok (.getfield 265, 3) := by decide +kernel
theorem dX8_isFound_29 : decode cX8_isFound 29 = .ok (.istore 4, 2) := by decide +kernel
theorem dX8_isFound_31 : decode cX8_isFound 31 = .ok (.iconst 0, 1) := by decide +kernel
theorem dX8_isFound_32 : decode cX8_isFound 32 = .ok (.istore 5, 2) := by decide +kernel
theorem dX8_isFound_34 : decode cX8_isFound 34 = .ok (.iload 5, 2) := by decide +kernel
theorem dX8_isFound_36 : decode cX8_isFound 36 = .ok (.iload_n 1, 1) := by decide +kernel
theorem dX8_isFound_37 : decode cX8_isFound 37 = .ok (.if_icmp .ge 111, 3) := by decide +kernel
theorem dX8_isFound_40 : decode cX8_isFound 40 = .ok (.iload 5, 2) := by decide +kernel
theorem dX8_isFound_42 : decode cX8_isFound 42 = .ok (.aload_n 0, 1) := by decide +kernel
theorem dX8_isFound_43 : decode cX8_isFound 43 = .ok (.getfield 19, 3) := by decide +kernel
theorem dX8_isFound_46 : decode cX8_isFound 46 = .ok (.getfield 99, 3) := by decide +kernel
theorem dX8_isFound_49 : decode cX8_isFound 49 = .ok (.if_icmp .ge 99, 3) := by decide +kernel
theorem dX8_isFound_52 : decode cX8_isFound 52 = .ok (.iload_n 1, 1) := by decide +kernel
theorem dX8_isFound_53 : decode cX8_isFound 53 = .ok (.iload_n 2, 1) := by decide +kernel
theorem dX8_isFound_54 : decode cX8_isFound 54 = .ok (.iload 5, 2) := by decide +kernel
theorem dX8_isFound_56 : decode cX8_isFound 56 = .ok (.invokestatic 212, 3) := by decide +kernel
theorem dX8_isFound_59 : decode cX8_isFound 59 = .ok (.istore 6, 2) := by decide +kernel
theorem dX8_isFound_61 : decode cX8_isFound 61 = .ok (.iload 4, 2) := by decide +kernel
theorem dX8_isFound_63 : decode cX8_isFound 63 = .ok (.iload 6, 2) := by decide +kernel
theorem dX8_isFound_65 : decode cX8_isFound 65 = .ok (.invokestatic 267, 3) := by decide +kernel
theorem dX8_isFound_68 : decode cX8_isFound 68 = .ok (.istore 4, 2) := by decide +kernel
theorem dX8_isFound_70 : decode cX8_isFound 70 = .ok (.iload 6, 2) := by decide +kernel
theorem dX8_isFound_72 : decode cX8_isFound 72 = .ok (.iconst 3, 1) := by decide +kernel
theorem dX8_isFound_73 : decode cX8_isFound 73 = .ok (.if_icmp .ne 8, 3) := by decide +kernel
theorem dX8_isFound_76 : decode cX8_isFound 76 = .ok (.bipush 10, 2) := by decide +kernel
theorem dX8_isFound_78 : decode cX8_isFound 78 = .ok (.goto 5, 3) := by decide +kernel
theorem dX8_isFound_81 : decode cX8_isFound 81 = .ok (.iload 4, 2) := by decide +kernel
theorem dX8_isFound_83 : decode cX8_isFound 83 = .ok (.istore 7, 2) := by decide +kernel
theorem dX8_isFound_85 : decode cX8_isFound 85 = .ok (.aload_n 0, 1) := by decide +kernel
theorem dX8_isFound_86 : decode cX8_isFound 86 = .ok (.getfield 55, 3) := by decide +kernel
theorem dX8_isFound_89 : decode cX8_isFound 89 = .ok (.bipush 10, 2) := by decide +kernel
theorem dX8_isFound_91 : decode cX8_isFound 91 = .ok (.invokevirtual 259, 3) := by decide +kernel
theorem dX8_isFound_94 : decode cX8_isFound 94 = .ok (.istore 8, 2) := by decide +kernel
theorem dX8_isFound_96 : decode cX8_isFound 96 = .ok (.iload_n 3, 1) := by decide +kernel
theorem dX8_isFound_97 : decode cX8_isFound 97 = .ok (.iload 7, 2) := by decide +kernel
theorem dX8_isFound_99 : decode cX8_isFound 99 = .ok (.if_icmp .ne 19, 3) := by decide +kernel
theorem dX8_isFound_102 : decode cX8_isFound 102 = .ok (.iload 8, 2) := by decide +kernel
theorem dX8_isFound_104 : decode cX8_isFound 104 = .ok (.aload_n 0, 1) := by decide +kernel
theorem dX8_isFound_105 : decode cX8_isFound 105 = .ok (.getfield 19, 3) := by decide +kernel
theorem dX8_isFound_108 : decode cX8_isFound 108 = .ok (.iload 7, 2) := by decide +kernel
theorem dX8_isFound_110 : decode cX8_isFound 110 = .ok (.invokevirtual 270, 3) := by decide +kernel
theorem dX8_isFound_113 : decode cX8_isFound 113 = .ok (.if_icmp .ge 5, 3) := by decide +kernel
theorem dX8_isFound_116 : decode cX8_isFound 116 = .ok (.iconst 1, 1) := by decide +kernel
theorem dX8_isFound_117 : decode cX8_isFound 117 = .ok (.ireturn, 1) := by decide +kernel
theorem dX8_isFound_118 : decode cX8_isFound 118 = .ok (.iload_n 3, 1) := by decide +kernel
theorem dX8_isFound_119 : decode cX8_isFound 119 = .ok (.bipush 10, 2) := by decide +kernel
theorem dX8_isFound_121 : decode cX8_isFound 121 = .ok (.if_icmp .eq 21, 3) := by decide +kernel
theorem dX8_isFound_124 : decode cX8_isFound 124 = .ok (.aload_n 0, 1) := by decide +kernel
theorem dX8_isFound_125 : decode cX8_isFound 125 = .ok (.getfield 19, 3) := by decide +kernel
theorem dX8_isFound_128 : decode cX8_isFound 128 = .ok (.iload_n 3, 1) := by decide +kernel
theorem dX8_isFound_129 : decode cX8_isFound 129 = .ok (.aload_n 0, 1) := by decide +kernel
theorem dX8_isFound_130 : decode cX8_isFound 130 = .ok (.getfield 55, 3) := by decide +kernel
theorem dX8_isFound_133 : decode cX8_isFound 133 = .ok (.bipush 10, 2) := by decide +kernel
theorem dX8_isFound_135 : decode cX8_isFound 135 = .ok (.invokevirtual 259, 3) := by decide +kernel
theorem dX8_isFound_138 : decode cX8_isFound 138 = .ok (.invokevirtual 273, 3) := by decide +kernel
theorem dX8_isFound_141 : decode cX8_isFound 141 = .ok (.istore_n 3, 1) := by decide +kernel
theorem dX8_isFound_142 : decode cX8_isFound 142 = .ok (.iinc 5 1, 3) := by decide +kernel
theorem dX8_isFound_145 : decode cX8_isFound 145 = .ok (.goto (-111), 3) := by decide +kernel
theorem dX8_isFound_148 : decode cX8_isFound 148 = .ok (.iconst 0, 1) := by decide +kernel
theorem dX8_isFound_149 : decode cX8_isFound 149 = .ok (.ireturn, 1) := by decide +kernel
theorem dX8_isWithin_0 : decode cX8_isWithin 0 = .ok (.iload_n 0, 1) := by decide +kernel
theorem dX8_isWithin_1 : decode cX8_isWithin 1 = .ok (.iload_n 1, 1) := by decide +kernel
theorem dX8_isWithin_2 : decode cX8_isWithin 2 = .ok (.if_icmp .lt 12, 3) := by decide +kernel
theorem dX8_isWithin_5 : decode cX8_isWithin 5 = .ok (.iload_n 0, 1) := by decide +kernel
theorem dX8_isWithin_6 : decode cX8_isWithin 6 = .ok (.iload_n 2, 1) := by decide +kernel
theorem dX8_isWithin_7 : decode cX8_isWithin 7 = .ok (.if_icmp .gt 7, 3) := by decide +kernel
theorem dX8_isWithin_10 : decode cX8_isWithin 10 = .ok (.iconst 1, 1) := by decide +kernel
theorem dX8_isWithin_11 : decode cX8_isWithin 11 = .ok (.goto 4, 3) := by decide +kernel
theorem dX8_isWithin_14 : decode cX8_isWithin 14 = .ok (.iconst 0, 1) := by decide +kernel
theorem dX8_isWithin_15 : decode cX8_isWithin 15 = .ok (.ireturn, 1) := by decide +kernel
set_option maxRecDepth 20000 in
theorem ggX8_isSaying_X8_isWithin : GoodIn wsX8_isSaying wsX8_isWithin := goodIn_r _ [4] (by decide +kernel) (by decide +kernel)
set_option maxRecDepth 20000 in
theorem gX8_isSaying_X8_isWithin : GoodIn wsX8_isSaying (va_wsS RX8 59 yX8_isWithin wsX8_isWithin) := goodIn_app (goodIn_of _ (by decide +kernel)) ggX8_isSaying_X8_isWithin
theorem dX8_isSaying_0 : decode cX8_isSaying 0 = .ok (.iload_n 0, 1) := by decide +kernel
theorem dX8_isSaying_1 : decode cX8_isSaying 1 = .ok (.iconst 0, 1) := by decide +kernel
theorem dX8_isSaying_2 : decode cX8_isSaying 2 = .ok (.bipush 9, 2) := by decide +kernel
theorem dX8_isSaying_4 : decode cX8_isSaying 4 = .ok (.invokestatic 59, 3) := by decide +kernel
theorem dX8_isSaying_7 : decode cX8_isSaying 7 = .ok (.ifCond .eq 27, 3) := by decide +kernel
theorem dX8_isSaying_10 : decode cX8_isSaying 10 = .ok (.iload_n 1, 1) := by decide +kernel
theorem dX8_isSaying_11 : decode cX8_isSaying 11 = .ok (.iload_n 0, 1) := by decide +kernel
theorem dX8_isSaying_12 : decode cX8_isSaying 12 = .ok (.bipush 9, 2) := by decide +kernel
theorem dX8_isSaying_14 : decode cX8_isSaying 14 = .ok (.invokestatic 59, 3) := by decide +kernel
theorem dX8_isSaying_17 : decode cX8_isSaying 17 = .ok (.ifCond .eq 17, 3) := by decide +kernel
theorem dX8_isSaying_20 : decode cX8_isSaying 20 = .ok (.iload_n 2, 1) := by decide +kernel
theorem dX8_isSaying_21 : decode cX8_isSaying 21 = .ok (.iconst 1, 1) := by decide +kernel
theorem dX8_isSaying_22 : decode cX8_isSaying 22 = .ok (.bipush 9, 2) := by decide +kernel
theorem dX8_isSaying_24 : decode cX8_isSaying 24 = .ok (.invokestatic 59, 3) := by decide +kernel
theorem dX8_isSaying_27 : decode cX8_isSaying 27 = .ok (.ifCond .eq 7, 3) := by decide +kernel
theorem dX8_isSaying_30 : decode cX8_isSaying 30 = .ok (.iconst 1, 1) := by decide +kernel
theorem dX8_isSaying_31 : decode cX8_isSaying 31 = .ok (.goto 4, 3) := by decide +kernel
theorem dX8_isSaying_34 : decode cX8_isSaying 34 = .ok (.iconst 0, 1) := by decide +kernel
theorem dX8_isSaying_35 : decode cX8_isSaying 35 = .ok (.ireturn, 1) := by decide +kernel
set_option maxRecDepth 20000 in
theorem ggX8_isRow_X8_power : GoodIn wsX8_isRow wsX8_power := goodIn_r _ [5] (by decide +kernel) (by decide +kernel)
set_option maxRecDepth 20000 in
theorem gX8_isRow_X8_power : GoodIn wsX8_isRow (va_wsS RX8 158 yX8_power wsX8_power) := goodIn_app (goodIn_of _ (by decide +kernel)) ggX8_isRow_X8_power
set_option maxRecDepth 20000 in
theorem ggX8_isRow_X8_figureOf : GoodIn wsX8_isRow wsX8_figureOf := goodIn_r _ [8, 1, 2, 3, 4, 5] (by decide +kernel) (by decide +kernel)
set_option maxRecDepth 20000 in
theorem gX8_isRow_X8_figureOf : GoodIn wsX8_isRow (va_wsS RX8 212 yX8_figureOf wsX8_figureOf) := goodIn_app (goodIn_of _ (by decide +kernel)) ggX8_isRow_X8_figureOf
theorem dX8_isRow_0 : decode cX8_isRow 0 = .ok (.iload_n 1, 1) := by decide +kernel
theorem dX8_isRow_1 : decode cX8_isRow 1 = .ok (.ifCond .lt 16, 3) := by decide +kernel
theorem dX8_isRow_4 : decode cX8_isRow 4 = .ok (.iload_n 1, 1) := by decide +kernel
theorem dX8_isRow_5 : decode cX8_isRow 5 = .ok (.i2l, 1) := by decide +kernel
theorem dX8_isRow_6 : decode cX8_isRow 6 = .ok (.ldc2_w 179, 3) := by decide +kernel
theorem dX8_isRow_9 : decode cX8_isRow 9 = .ok (.iload_n 0, 1) := by decide +kernel
theorem dX8_isRow_10 : decode cX8_isRow 10 = .ok (.invokestatic 158, 3) := by decide +kernel
theorem dX8_isRow_13 : decode cX8_isRow 13 = .ok (.lcmp, 1) := by decide +kernel
theorem dX8_isRow_14 : decode cX8_isRow 14 = .ok (.ifCond .lt 5, 3) := by decide +kernel
theorem dX8_isRow_17 : decode cX8_isRow 17 = .ok (.iconst 0, 1) := by decide +kernel
theorem dX8_isRow_18 : decode cX8_isRow 18 = .ok (.ireturn, 1) := by decide +kernel
theorem dX8_isRow_19 : decode cX8_isRow 19 = .ok (.iconst 0, 1) := by decide +kernel
theorem dX8_isRow_20 : decode cX8_isRow 20 = .ok (.istore_n 2, 1) := by decide +kernel
theorem dX8_isRow_21 : decode cX8_isRow 21 = .ok (.iload_n 2, 1) := by decide +kernel
theorem dX8_isRow_22 : decode cX8_isRow 22 = .ok (.iload_n 0, 1) := by decide +kernel
theorem dX8_isRow_23 : decode cX8_isRow 23 = .ok (.if_icmp .ge 21, 3) := by decide +kernel
theorem dX8_isRow_26 : decode cX8_isRow 26 = .ok (.iload_n 0, 1) := by decide +kernel
theorem dX8_isRow_27 : decode cX8_isRow 27 = .ok (.iload_n 1, 1) := by decide +kernel
theorem dX8_isRow_28 : decode cX8_isRow 28 = .ok (.iload_n 2, 1) := by decide +kernel
theorem dX8_isRow_29 : decode cX8_isRow 29 = .ok (.invokestatic 212, 3) := by decide +kernel
theorem dX8_isRow_32 : decode cX8_isRow 32 = .ok (.iconst 3, 1) := by decide +kernel
theorem dX8_isRow_33 : decode cX8_isRow 33 = .ok (.if_icmp .le 5, 3) := by decide +kernel
theorem dX8_isRow_36 : decode cX8_isRow 36 = .ok (.iconst 0, 1) := by decide +kernel
theorem dX8_isRow_37 : decode cX8_isRow 37 = .ok (.ireturn, 1) := by decide +kernel
theorem dX8_isRow_38 : decode cX8_isRow 38 = .ok (.iinc 2 1, 3) := by decide +kernel
theorem dX8_isRow_41 : decode cX8_isRow 41 = .ok (.goto (-20), 3) := by decide +kernel
theorem dX8_isRow_44 : decode cX8_isRow 44 = .ok (.iconst 1, 1) := by decide +kernel
theorem dX8_isRow_45 : decode cX8_isRow 45 = .ok (.ireturn, 1) := by decide +kernel
set_option maxRecDepth 20000 in
theorem ggX8_figureOf_X8_power : GoodIn wsX8_figureOf wsX8_power := goodIn_r _ [5] (by decide +kernel) (by decide +kernel)
set_option maxRecDepth 20000 in
theorem gX8_figureOf_X8_power : GoodIn wsX8_figureOf (va_wsS RX8 158 yX8_power wsX8_power) := goodIn_app (goodIn_of _ (by decide +kernel)) ggX8_figureOf_X8_power
theorem dX8_figureOf_0 : decode cX8_figureOf 0 = .ok (.ldc2_w 179, 3) := by decide +kernel
theorem dX8_figureOf_3 : decode cX8_figureOf 3 = .ok (.iload_n 0, 1) := by decide +kernel
theorem dX8_figureOf_4 : decode cX8_figureOf 4 = .ok (.iconst 1, 1) := by decide +kernel
theorem dX8_figureOf_5 : decode cX8_figureOf 5 = .ok (.isub, 1) := by decide +kernel
theorem dX8_figureOf_6 : decode cX8_figureOf 6 = .ok (.iload_n 2, 1) := by decide +kernel
theorem dX8_figureOf_7 : decode cX8_figureOf 7 = .ok (.isub, 1) := by decide +kernel
theorem dX8_figureOf_8 : decode cX8_figureOf 8 = .ok (.invokestatic 158, 3) := by decide +kernel
theorem dX8_figureOf_11 : decode cX8_figureOf 11 = .ok (.lstore_n 3, 1) := by decide +kernel
theorem dX8_figureOf_12 : decode cX8_figureOf 12 = .ok (.lload_n 3, 1) := by decide +kernel
theorem dX8_figureOf_13 : decode cX8_figureOf 13 = .ok (.lconst 0, 1) := by decide +kernel
theorem dX8_figureOf_14 : decode cX8_figureOf 14 = .ok (.lcmp, 1) := by decide +kernel
theorem dX8_figureOf_15 : decode cX8_figureOf 15 = .ok (.ifCond .gt 7, 3) := by decide +kernel
theorem dX8_figureOf_18 : decode cX8_figureOf 18 = .ok (.iconst 0, 1) := by decide +kernel
theorem dX8_figureOf_19 : decode cX8_figureOf 19 = .ok (.goto 12, 3) := by decide +kernel
theorem dX8_figureOf_22 : decode cX8_figureOf 22 = .ok (.iload_n 1, 1) := by decide +kernel
theorem dX8_figureOf_23 : decode cX8_figureOf 23 = .ok (.i2l, 1) := by decide +kernel
theorem dX8_figureOf_24 : decode cX8_figureOf 24 = .ok (.lload_n 3, 1) := by decide +kernel
theorem dX8_figureOf_25 : decode cX8_figureOf 25 = .ok (.ldiv, 1) := by decide +kernel
theorem dX8_figureOf_26 : decode cX8_figureOf 26 = .ok (.ldc2_w 179, 3) := by decide +kernel
theorem dX8_figureOf_29 : decode cX8_figureOf 29 = .ok (.lrem, 1) := by decide +kernel
theorem dX8_figureOf_30 : decode cX8_figureOf 30 = .ok (.l2i, 1) := by decide +kernel
theorem dX8_figureOf_31 : decode cX8_figureOf 31 = .ok (.ireturn, 1) := by decide +kernel
theorem dX8_power_0 : decode cX8_power 0 = .ok (.lconst 1, 1) := by decide +kernel
theorem dX8_power_1 : decode cX8_power 1 = .ok (.lstore_n 3, 1) := by decide +kernel
theorem dX8_power_2 : decode cX8_power 2 = .ok (.iconst 0, 1) := by decide +kernel
theorem dX8_power_3 : decode cX8_power 3 = .ok (.istore 5, 2) := by decide +kernel
theorem dX8_power_5 : decode cX8_power 5 = .ok (.iload 5, 2) := by decide +kernel
theorem dX8_power_7 : decode cX8_power 7 = .ok (.iload_n 2, 1) := by decide +kernel
theorem dX8_power_8 : decode cX8_power 8 = .ok (.if_icmp .ge 20, 3) := by decide +kernel
theorem dX8_power_11 : decode cX8_power 11 = .ok (.iload 5, 2) := by decide +kernel
theorem dX8_power_13 : decode cX8_power 13 = .ok (.bipush 8, 2) := by decide +kernel
theorem dX8_power_15 : decode cX8_power 15 = .ok (.if_icmp .ge 13, 3) := by decide +kernel
theorem dX8_power_18 : decode cX8_power 18 = .ok (.lload_n 3, 1) := by decide +kernel
theorem dX8_power_19 : decode cX8_power 19 = .ok (.lload_n 0, 1) := by decide +kernel
theorem dX8_power_20 : decode cX8_power 20 = .ok (.lmul, 1) := by decide +kernel
theorem dX8_power_21 : decode cX8_power 21 = .ok (.lstore_n 3, 1) := by decide +kernel
theorem dX8_power_22 : decode cX8_power 22 = .ok (.iinc 5 1, 3) := by decide +kernel
theorem dX8_power_25 : decode cX8_power 25 = .ok (.goto (-20), 3) := by decide +kernel
theorem dX8_power_28 : decode cX8_power 28 = .ok (.lload_n 3, 1) := by decide +kernel
theorem dX8_power_29 : decode cX8_power 29 = .ok (.lreturn, 1) := by decide +kernel
theorem dX8_moved_0 : decode cX8_moved 0 = .ok (.iload_n 1, 1) := by decide +kernel
theorem dX8_moved_1 : decode cX8_moved 1 = .ok (.iconst 1, 1) := by decide +kernel
theorem dX8_moved_2 : decode cX8_moved 2 = .ok (.if_icmp .ne 12, 3) := by decide +kernel
theorem dX8_moved_5 : decode cX8_moved 5 = .ok (.iload_n 0, 1) := by decide +kernel
theorem dX8_moved_6 : decode cX8_moved 6 = .ok (.iconst 1, 1) := by decide +kernel
theorem dX8_moved_7 : decode cX8_moved 7 = .ok (.iadd, 1) := by decide +kernel
theorem dX8_moved_8 : decode cX8_moved 8 = .ok (.bipush 9, 2) := by decide +kernel
theorem dX8_moved_10 : decode cX8_moved 10 = .ok (.invokestatic 205, 3) := by decide +kernel
theorem dX8_moved_13 : decode cX8_moved 13 = .ok (.ireturn, 1) := by decide +kernel
theorem dX8_moved_14 : decode cX8_moved 14 = .ok (.iload_n 1, 1) := by decide +kernel
theorem dX8_moved_15 : decode cX8_moved 15 = .ok (.iconst 2, 1) := by decide +kernel
theorem dX8_moved_16 : decode cX8_moved 16 = .ok (.if_icmp .ne 13, 3) := by decide +kernel
theorem dX8_moved_19 : decode cX8_moved 19 = .ok (.iload_n 0, 1) := by decide +kernel
theorem dX8_moved_20 : decode cX8_moved 20 = .ok (.iconst 1, 1) := by decide +kernel
theorem dX8_moved_21 : decode cX8_moved 21 = .ok (.isub, 1) := by decide +kernel
theorem dX8_moved_22 : decode cX8_moved 22 = .ok (.iconst 0, 1) := by decide +kernel
theorem dX8_moved_23 : decode cX8_moved 23 = .ok (.invokestatic 199, 3) := by decide +kernel
theorem dX8_moved_26 : decode cX8_moved 26 = .ok (.goto 4, 3) := by decide +kernel
theorem dX8_moved_29 : decode cX8_moved 29 = .ok (.iload_n 0, 1) := by decide +kernel
theorem dX8_moved_30 : decode cX8_moved 30 = .ok (.ireturn, 1) := by decide +kernel
